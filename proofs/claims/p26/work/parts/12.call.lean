/-! Calls that return or throw: the callee's free theorem at a call site. -/
def mm_Lk (p : Program) (l : Launch) (e : Env) (R : Room) (s : State) (m : MethodId) (args : Array Value) (below : List Frame) (meth : Method) (c : Code) (H : Heap) (locs : List Loc) (cells slots : Nat) (fr : JFrame) (rest : List Value) (y : MethodName) (a : Array Value) : Prop :=
  ∀ T : State, T.heap = H → Stand p l e R s m args below meth c T locs cells slots → ∃ (vm₁ : Vm) (mk : MethodId), Stand p l e R s m args below meth c (T.setVm vm₁) locs cells slots ∧ s.methodNamed? y = some mk ∧
    ∀ tg, Steps p.tables e below (doInvoke e ((T.setVm vm₁).setTop { fr with stack := rest }) [] mk a).1 tg → Steps p.tables e below (T.setTop fr) tg
section MMCA
variable {p : Program} {l : Launch} {e : Env} {R : Room} {s : State} {m : MethodId} {args : Array Value} {below : List Frame} {meth : Method} {c : Code} {H : Heap} {locs : List Loc} {cells slots : Nat} {Q : State → Prop}
theorem mm_lkV (hexec : p.tables.exec = Jvm.exec) {own C : String} {index : Nat} {y : MethodName} {sig0 : MethodDescriptor}
    (hown : s.vm.findClass own = some m.cls) (hlink : (Cond.methodLink own index y).before args s = true) (hinst : (Cond.instanceMethod y).before args s = true) (hsel : (Cond.selects C y y).before args s = true)
    (hsg : ∀ mk methM, s.methodNamed? y = some mk → s.vm.method? mk = some methM → methM.sig = sig0) (hy : y.cls ≠ "java/lang/invoke/MethodHandle" ∧ y.cls ≠ "java/lang/invoke/VarHandle")
    {b : Addr} {cellB : Cell} (hcell : H[b]? = some cellB) (hobj : cellB.vm.isStatics = false) (hcls : s.vm.findClass C = some cellB.cls)
    {fr : JFrame} (hg : fr.method = m) {argsL rest : List Value} (hlen : argsL.length = sig0.parameters.length)
    (hstack : fr.stack = argsL.reverse ++ .ref b :: rest) (hdg : decode c.code fr.pc = .ok (.invokevirtual index, 3)) : mm_Lk p l e R s m args below meth c H locs cells slots fr rest y (Value.ref b :: argsL).toArray := by
  intro T hT X
  obtain ⟨mk, methM, hnamed, hmethM, hstM, habM⟩ := Cond.instanceMethod_spec hinst
  obtain ⟨c2, r2, m2, q1, q2, q3, q4, kP, hkP, hkPi⟩ := Cond.selects_spec hsel
  cases hcls.symm.trans q1
  cases (State.methodFound?_of_named hnamed hy).symm.trans q2
  cases hnamed.symm.trans q3
  have hselP : selectMethod e.platform s.vm cellB.cls mk = .method mk := by rw [Launch.admits_selectMethod X.admits]; exact q4
  obtain ⟨vm₁, X₁, hstep₁⟩ := X.invokevirtual hexec hown hlink hnamed hmethM hstM hkP hkPi hy (a := b) (cell := cellB) (by rw [hT]; exact hcell)
    (fun z h => by rw [h] at hobj; cases hobj) hselP hmethM habM hkP hkPi (g := fr) hg (argsL := argsL) (rest := rest) (by rw [hsg mk methM hnamed hmethM]; exact hlen) hstack hdg
  exact ⟨vm₁, mk, X₁, hnamed, fun tg h => hstep₁ _ fun acts => by rw [doInvoke_state]; exact h⟩
theorem mm_lkVN (hexec : p.tables.exec = Jvm.exec) {own C host : String} {index : Nat} {y : MethodName} {sig0 : MethodDescriptor}
    (hown : s.vm.findClass own = some m.cls) (hlink : (Cond.methodLinkNest own index y host).before args s = true) (hinst : (Cond.instanceMethod y).before args s = true) (hsel : (Cond.selects C y y).before args s = true)
    (hsg : ∀ mk methM, s.methodNamed? y = some mk → s.vm.method? mk = some methM → methM.sig = sig0) (hy : y.cls ≠ "java/lang/invoke/MethodHandle" ∧ y.cls ≠ "java/lang/invoke/VarHandle")
    {b : Addr} {cellB : Cell} (hcell : H[b]? = some cellB) (hobj : cellB.vm.isStatics = false) (hcls : s.vm.findClass C = some cellB.cls)
    {fr : JFrame} (hg : fr.method = m) {argsL rest : List Value} (hlen : argsL.length = sig0.parameters.length)
    (hstack : fr.stack = argsL.reverse ++ .ref b :: rest) (hdg : decode c.code fr.pc = .ok (.invokevirtual index, 3)) : mm_Lk p l e R s m args below meth c H locs cells slots fr rest y (Value.ref b :: argsL).toArray := by
  intro T hT X
  obtain ⟨mk, methM, hnamed, hmethM, hstM, habM⟩ := Cond.instanceMethod_spec hinst
  obtain ⟨c2, r2, m2, q1, q2, q3, q4, kP, hkP, hkPi⟩ := Cond.selects_spec hsel
  cases hcls.symm.trans q1
  cases (State.methodFound?_of_named hnamed hy).symm.trans q2
  cases hnamed.symm.trans q3
  have hselP : selectMethod e.platform s.vm cellB.cls mk = .method mk := by rw [Launch.admits_selectMethod X.admits]; exact q4
  obtain ⟨vm₁, X₁, hstep₁⟩ := X.invokevirtualNest hexec hown hlink hnamed hmethM hstM hkP hkPi hy (a := b) (cell := cellB) (by rw [hT]; exact hcell)
    (fun z h => by rw [h] at hobj; cases hobj) hselP hmethM habM hkP hkPi (g := fr) hg (argsL := argsL) (rest := rest) (by rw [hsg mk methM hnamed hmethM]; exact hlen) hstack hdg
  exact ⟨vm₁, mk, X₁, hnamed, fun tg h => hstep₁ _ fun acts => by rw [doInvoke_state]; exact h⟩
theorem mm_lkS (hexec : p.tables.exec = Jvm.exec) {own : String} {index : Nat} {y : MethodName} {sig0 : MethodDescriptor} {mk : MethodId} {methM : Method}
    (hown : s.vm.findClass own = some m.cls) (hlink : (Cond.methodLink own index y).before args s = true) (hstat : (Cond.static y).before args s = true) (hinit : (Cond.initialized y.cls).before args s = true)
    (hnamed : s.methodNamed? y = some mk) (hmethM : s.vm.method? mk = some methM) (hsg : methM.sig = sig0) (hy : y.cls ≠ "java/lang/invoke/MethodHandle" ∧ y.cls ≠ "java/lang/invoke/VarHandle")
    {fr : JFrame} (hg : fr.method = m) {argsL rest : List Value} (hlen : argsL.length = sig0.parameters.length)
    (hstack : fr.stack = argsL.reverse ++ rest) (hdg : decode c.code fr.pc = .ok (.invokestatic index, 3)) : mm_Lk p l e R s m args below meth c H locs cells slots fr rest y argsL.toArray := by
  intro T hT X
  have hstatic : methM.isStatic = true := Cond.static_spec hnamed hmethM hstat
  obtain ⟨kP, hkP, -⟩ := className_of_methodNamed hnamed
  have hinitP : kP.init = .initialized := Cond.initialized_spec (findClass_of_methodNamed hnamed) hkP hinit
  obtain ⟨vm₁, X₁, hstep₁⟩ := X.invokestatic hexec hown hlink hnamed hmethM hstatic hkP hinitP hy (g := fr) hg (argsL := argsL) (rest := rest) (by rw [hsg]; exact hlen) hstack hdg
  exact ⟨vm₁, mk, X₁, hnamed, fun tg h => hstep₁ _ fun acts => by rw [doInvoke_state]; exact h⟩
theorem mm_lkSN (hexec : p.tables.exec = Jvm.exec) {own host : String} {index : Nat} {y : MethodName} {sig0 : MethodDescriptor} {mk : MethodId} {methM : Method}
    (hown : s.vm.findClass own = some m.cls) (hlink : (Cond.methodLinkNest own index y host).before args s = true) (hstat : (Cond.static y).before args s = true) (hinit : (Cond.initialized y.cls).before args s = true)
    (hnamed : s.methodNamed? y = some mk) (hmethM : s.vm.method? mk = some methM) (hsg : methM.sig = sig0) (hy : y.cls ≠ "java/lang/invoke/MethodHandle" ∧ y.cls ≠ "java/lang/invoke/VarHandle")
    {fr : JFrame} (hg : fr.method = m) {argsL rest : List Value} (hlen : argsL.length = sig0.parameters.length)
    (hstack : fr.stack = argsL.reverse ++ rest) (hdg : decode c.code fr.pc = .ok (.invokestatic index, 3)) : mm_Lk p l e R s m args below meth c H locs cells slots fr rest y argsL.toArray := by
  intro T hT X
  have hstatic : methM.isStatic = true := Cond.static_spec hnamed hmethM hstat
  obtain ⟨kP, hkP, -⟩ := className_of_methodNamed hnamed
  have hinitP : kP.init = .initialized := Cond.initialized_spec (findClass_of_methodNamed hnamed) hkP hinit
  obtain ⟨vm₁, X₁, hstep₁⟩ := X.invokestaticNest hexec hown hlink hnamed hmethM hstatic hkP hinitP hy (g := fr) hg (argsL := argsL) (rest := rest) (by rw [hsg]; exact hlen) hstack hdg
  exact ⟨vm₁, mk, X₁, hnamed, fun tg h => hstep₁ _ fun acts => by rw [doInvoke_state]; exact h⟩
theorem mm_lkI (hexec : p.tables.exec = Jvm.exec) {own : String} {index : Nat} {y : MethodName} {bytes : ByteArray} {maxL : Nat}
    (hown : s.vm.findClass own = some m.cls) (hy1 : y.name = "<init>") (hlink : (Cond.methodLink own index y).before args s = true) (hinst : (Cond.instanceMethod y).before args s = true)
    (hcode : (Cond.code y bytes maxL none).before args s = true) (hy : y.cls ≠ "java/lang/invoke/MethodHandle" ∧ y.cls ≠ "java/lang/invoke/VarHandle")
    {fr : JFrame} (hg : fr.method = m) {a : Addr} {argsL rest : List Value} (hlen : ∀ sig, parseMethodDescriptor y.desc = some sig → argsL.length = sig.parameters.length)
    (hstack : fr.stack = argsL.reverse ++ .ref a :: rest) (hdg : decode c.code fr.pc = .ok (.invokespecial index, 3)) : mm_Lk p l e R s m args below meth c H locs cells slots fr rest y (Value.ref a :: argsL).toArray := by
  intro T hT X
  subst hg
  have hpl : e.platform.magicAccessors = ({} : Platform).magicAccessors := by rw [X.admits.platform]
  obtain ⟨mk, methM, cM, kP, vm₁, hnamed, hmethM, hcodeM, -, hlocalsM, -, hkP, -, hW₁, hstep₁⟩ := Steps.initColdArgs (e := e) X.here hexec X.warmed hpl hown hy1 hy hlink hinst hcode (f := fr) rfl hlen hstack hdg
  exact ⟨vm₁, mk, X.noted hW₁, hnamed, fun tg h => hstep₁ _ fun acts => by rw [doInvoke_state]; exact h⟩
theorem mm_lkIN (hexec : p.tables.exec = Jvm.exec) {own host : String} {index : Nat} {y : MethodName} {bytes : ByteArray} {maxL : Nat}
    (hown : s.vm.findClass own = some m.cls) (hy1 : y.name = "<init>") (hlink : (Cond.methodLinkNest own index y host).before args s = true) (hinst : (Cond.instanceMethod y).before args s = true)
    (hcode : (Cond.code y bytes maxL none).before args s = true) (hy : y.cls ≠ "java/lang/invoke/MethodHandle" ∧ y.cls ≠ "java/lang/invoke/VarHandle")
    {fr : JFrame} (hg : fr.method = m) {a : Addr} {argsL rest : List Value} (hlen : ∀ sig, parseMethodDescriptor y.desc = some sig → argsL.length = sig.parameters.length)
    (hstack : fr.stack = argsL.reverse ++ .ref a :: rest) (hdg : decode c.code fr.pc = .ok (.invokespecial index, 3)) : mm_Lk p l e R s m args below meth c H locs cells slots fr rest y (Value.ref a :: argsL).toArray := by
  intro T hT X
  subst hg
  have hpl : e.platform.magicAccessors = ({} : Platform).magicAccessors := by rw [X.admits.platform]
  obtain ⟨mk, methM, cM, kP, vm₁, hnamed, hmethM, hcodeM, -, hlocalsM, -, hkP, -, hW₁, hstep₁⟩ := Steps.initColdArgsNest (e := e) X.here hexec X.warmed hpl hown hy1 hy hlink hinst hcode (f := fr) rfl hlen hstack hdg
  exact ⟨vm₁, mk, X.noted hW₁, hnamed, fun tg h => hstep₁ _ fun acts => by rw [doInvoke_state]; exact h⟩
/-- what is behind a throw that came out of a call in the frame fr -/
def mm_Th (p : Program) (l : Launch) (e : Env) (R : Room) (s : State) (m : MethodId) (args : Array Value) (below : List Frame) (meth : Method) (c : Code) (H : Heap) (locs : List Loc) (cells slots : Nat) (Q : State → Prop) (fr : JFrame) (x : Addr) : Prop :=
  ∀ T : State, T.heap = H → Stand p l e R s m args below meth c T locs cells slots → ∃ t, Steps p.tables e below ((T.setTop fr).pushFrame (.throwing x)) t ∧ Q t
theorem mm_callAny {g : mm_G} {Q' : mm_O → Prop} {fr : JFrame} {rest : List Value} {y : MethodName} {a : Array Value} {S : Spec} {P : Array Value → State → Prop} {maxL Wd : Nat} {ig : Instr}
    (hLk : mm_Lk p l e R s m args below meth c H locs cells slots fr rest y a) (hM : MetFree l y S P (fun _ _ _ _ _ => True) (fun _ st o t => mm_Po g S.room.cells S.room.slots st Q' o t)) (hg : fr.method = m) (hsize : fr.locals.size = c.maxLocals)
    (hframes : S.room.frames + 1 ≤ R.frames) (hlocals : Wd + (maxL + 11) + S.room.locals ≤ R.locals) (hW : 2 * fr.monitorRoom + (rest.map fun v => v.category).sum ≤ Wd) (hdg : decode c.code fr.pc = .ok (ig, 3))
    (hpre : ∀ (U : State) (mk : MethodId), s.WarmedH U.vm → U.methodNamed? y = some mk → S.pre.before a U = true ∧ (Cond.initialized y.cls).before a U = true ∧ ∃ methY cY, U.vm.method? mk = some methY ∧ methY.code = some cY ∧ cY.maxLocals = maxL)
    (hcells : cells + S.room.cells ≤ R.cells) (hslots : slots + S.room.slots ≤ R.slots)
    (hP : ∀ U : State, s.WarmedH U.vm → U.heap = H → P a U) (hS : va_S (mm_A g) s.heap H locs) (hb : g.2.2.1 ≤ s.heap.size)
    (kr : ∀ (v : Option Value) (M1 : mm_M) (n1 : Nat) (H1 : Heap) (locs1 : List Loc), Q' (.inl v, M1, n1) → mm_H g M1 n1 H1 → va_S (mm_A g) s.heap H1 locs1 → W p l e R s m args below meth c H1 locs1 (cells + S.room.cells) (slots + S.room.slots) Q { fr with pc := fr.pc + 3, stack := (v.map (mm_tr g)).toList ++ rest })
    (kt : ∀ (i : Nat) (x : Addr) (M1 : mm_M) (n1 : Nat) (H1 : Heap) (locs1 : List Loc), Q' (.inr i, M1, n1) → mm_H g M1 n1 H1 → va_S (mm_A g) s.heap H1 locs1 → (∃ t : State, t.heap = H1 ∧ s.WarmedH t.vm ∧ mm_Xc i x t) → mm_Th p l e R s m args below meth c H1 locs1 (cells + S.room.cells) (slots + S.room.slots) Q { fr with stack := rest } x) : W p l e R s m args below meth c H locs cells slots Q fr := by
  intro T hT X0
  obtain ⟨vm₁, mk, X, hnm, hstep⟩ := hLk T hT X0
  generalize hU : T.setVm vm₁ = U at X hstep
  have hUh : U.heap = H := by rw [← hU]; exact hT
  generalize hfr1 : ({ fr with stack := rest } : JFrame) = f1 at hstep kt
  have e1 : f1.pc = fr.pc := by rw [← hfr1]
  have hg1 : f1.method = m := by rw [← hfr1]; exact hg
  have hn : U.methodNamed? y = some mk := X.named hnm
  obtain ⟨h1, h3, methY, cY, hmY, hcY, hlY⟩ := hpre U mk X.warmed hn
  obtain ⟨kY, hkY, -⟩ := className_of_methodNamed hn
  have hinitY : kY.init = .initialized := Cond.initialized_spec (findClass_of_methodNamed hn) hkY h3
  have h : At U f1.method c below := by rw [hg1]; exact X.here
  have hdg1 : decode c.code f1.pc = .ok (ig, 3) := by rw [e1]; exact hdg
  have happ : S.appliesLoose y e.platform (U.calling f1 mk a) = true :=
    Spec.appliesLoose_calling (g := f1) h hdg1 hn hkY hinitY
      (X.room_calling (g := f1) (R' := S.room) (by rw [← hfr1]; exact hsize) hmY hcY hframes (by rw [hlY, ← hfr1]; show 2 * fr.monitorRoom + (rest.map fun v => v.category).sum + _ + _ ≤ _; omega) hcells hslots) h1
  obtain ⟨mid, hmid⟩ := h.above
  have hfrm : (U.setTop f1).frames = (.java f1 :: mid) ++ below := by rw [State.frames_setTop' f1 h.top, hmid]; rfl
  obtain ⟨o, s₂, hsteps, -, hend, hq⟩ := Steps.callFree hM p X.admits X.cas X.clock (acts := []) hfrm happ (hP _ X.warmed hUh) trivial
  have hq' : mm_Po g S.room.cells S.room.slots (U.calling f1 mk a) Q' o s₂ := hq
  rw [State.frames_setTop' f1 h.top] at hend
  obtain ⟨u, L, hQu, hH1, hlow, hL, hW₂, hsame0, hout⟩ := hq'
  have hcb : ∀ q : Nat, q < g.2.2.1 → s₂.heap[q]? = H[q]? := fun q hq => by rw [hlow q hq]; show U.heap[q]? = _; rw [hUh]
  have hS1 : va_S (mm_A g) s.heap s₂.heap (locs ++ L) := by
    refine ⟨?_, fun q h1 h2 => ?_, fun q hq => ?_⟩
    · exact Nat.le_trans hS.1 (by rw [← hUh]; exact hsame0.2.1)
    · rw [hcb q (Nat.not_le.mp h2)]
      exact hS.2.1 q h1 h2
    · rcases List.mem_append.mp hq with z | z
      · exact hS.2.2 q z
      · exact hL q z
  obtain ⟨u1, M1, n1⟩ := u
  cases u1 with
  | inl v =>
    have hout : o = .returned (v.map (mm_tr g)) := hout
    subst hout
    obtain ⟨e2, q2, q3, q4, q5, q6⟩ := hsame0
    have e3 : s₂ = ({ (U.calling f1 mk a).setFrames s₂.frames with heap := s₂.heap, slotsUsed := s₂.slotsUsed } : State).setVm s₂.vm := by
      have : s₂ = ({ s₂ with vm := (U.calling f1 mk a).vm } : State).setVm s₂.vm := rfl
      rw [e2] at this
      exact this
    obtain ⟨c₂, i₂, len₂, hc₂, hd₂, hf₂⟩ := hend
    have hW' : U.WarmedH s₂.vm := hW₂
    have hcc : c₂ = c := by
      have h1 : s₂.code? f1.method = U.code? f1.method := by
        rw [State.code?_eq, State.code?_eq, hW'.alike.method?]
      exact Option.some.inj (hc₂.symm.trans (h1.trans h.code))
    subst hcc
    have hlen : len₂ = 3 := by rw [hdg1] at hd₂; cases hd₂; rfl
    subst hlen
    obtain ⟨g₀, hg0⟩ := Option.isSome_iff_exists.mp h.top
    obtain ⟨r, hr⟩ := State.topJava?_eq_some.mp hg0
    have hs₂ : s₂ = (({ U with heap := s₂.heap, slotsUsed := s₂.slotsUsed } : State).setVm s₂.vm).setTop { f1 with pc := f1.pc + 3, stack := (v.map (mm_tr g)).toList ++ f1.stack } := by
      have hr' : (({ U with heap := s₂.heap, slotsUsed := s₂.slotsUsed } : State).setVm s₂.vm).frames = .java g₀ :: r := hr
      refine e3.trans ?_
      rw [hf₂, State.calling_eq h.top, State.setFrames_setFrames, State.setTop_of_frames _ hr', hr]
      rfl
    have hsame : U.sameButNew ({ U with heap := s₂.heap, slotsUsed := s₂.slotsUsed } : State) L S.room.cells S.room.slots := by
      refine ⟨?_, q2, q3, q4, q5, q6⟩
      obtain ⟨t, ht, -⟩ := State.frames_cons hr
      show ({ U with heap := s₂.heap, slotsUsed := s₂.slotsUsed } : State) = { U.setFrames U.frames with heap := s₂.heap, slotsUsed := s₂.slotsUsed }
      rw [State.setFrames_self ht]
    have X' : Stand p l e R s m args below meth c₂ (({ U with heap := s₂.heap, slotsUsed := s₂.slotsUsed } : State).setVm s₂.vm) (locs ++ L) (cells + S.room.cells) (slots + S.room.slots) :=
      ⟨X.admits, X.cas, X.clock, X.frames, X.room, X.hears, X.method, X.code, (X.here.setHeapUsed s₂.heap s₂.slotsUsed).setVm hW'.alike, X.tail, State.WarmedH.trans X.warmed hW', X.limits, X.bytes, X.same.trans (hsame.setVm s.vm)⟩
    obtain ⟨t, a1, b1⟩ := kr v M1 n1 s₂.heap (locs ++ L) hQu hH1 hS1 (({ U with heap := s₂.heap, slotsUsed := s₂.slotsUsed } : State).setVm s₂.vm) rfl X'
    refine ⟨t, hstep t (hsteps.trans ?_), b1⟩
    rw [hs₂, ← hfr1]
    exact a1
  | inr i =>
    obtain ⟨x, hox, hXc⟩ := hout
    subst hox
    rw [X.tail] at hend
    obtain ⟨T', X', hWT, -, ht⟩ := X.outOfThrown (g := f1) hg1 hend hW₂ hsame0
    have hh : T'.heap = s₂.heap := by rw [ht]; rfl
    obtain ⟨t, a1, b1⟩ := kt i x M1 n1 s₂.heap (locs ++ L) hQu hH1 hS1 ⟨s₂, rfl, State.WarmedH.trans X.warmed hW₂, hXc⟩ T' hh X'
    exact ⟨t, hstep t (hsteps.trans (by rw [ht]; exact a1)), b1⟩
end MMCA

/-! An exception that a handler of the calling method takes; its catch type may still be unresolved. -/
section MMCO
variable {E : CtlPost} {e : Env} {d : Bool} {acts : List Action} {s : State} {f : JFrame} {a : Addr} {Q : Handler → Pre}
theorem mm_go_cold {x : ExceptionTableEntry} {t : List ExceptionTableEntry} {c : ClassId} {vm₁ : Vm} {cell : Cell} (hx : covers x f.pc = true) (h0 : x.catchType ≠ 0) (hg : (Jvm.resolveClass f.method.cls x.catchType).Gives e.toSetting s.vm (.ok c) vm₁) (hsz : vm₁.classes.size ≤ s.vm.classes.size)
    (hcell : s.heap[a]? = some cell) (hobj : ∀ k, cell.vm ≠ .statics k) (hk : ∃ k, vm₁.classes[cell.cls]? = some k) (hc : ∃ k, vm₁.classes[c]? = some k) :
    wp (findHandler.go f a (x :: t)) Q E e d acts s ↔ if vm₁.assignable cell.cls c = true then Q (.found x.handlerPc) d acts (s.setVm vm₁) else wp (findHandler.go f a t) Q E e d acts (s.setVm vm₁) := by
  simp only [covers] at hx
  obtain ⟨ha, ht⟩ := hg.op (op := VmOp.resolveClass f.method.cls x.catchType) rfl
  cases hfit : vm₁.assignable cell.cls c <;>
    simp [findHandler.go, hx, h0, ha, ht, hsz, hcell, hobj, hk, hc, hfit, VmOp.dirties, VmOp.acts]
end MMCO
def mm_pick : List ((Nat × Nat × Nat × Nat) × Nat) → Nat → Nat → Option Nat
  | [], _, _ => none
  | z :: L, pc, i => if (decide (z.1.1 ≤ pc) && decide (pc < z.1.2.1) && (z.2 == i)) = true then some z.1.2.2.1 else mm_pick L pc i
theorem mm_find {e : Env} {s : State} {args : Array Value} {f : JFrame} {x : Addr} {cell : Cell} {own : String} {i : Nat} (hpl : e.platform.magicAccessors = ({} : Platform).magicAccessors) (hown : s.vm.findClass own = some f.method.cls) (hcls : s.vm.findClass (mm_xn i) = some cell.cls) (hobj : cell.vm.isStatics = false)
    (hi : i < 4) (hnc : ∀ a b : Nat, a < 4 → b < 4 → a ≠ b → va_Nc (mm_xn a) (mm_xn b) s) (hts : ∀ w ∈ mm_tb, w.before args s = true) :
    ∀ (L : List ((Nat × Nat × Nat × Nat) × Nat)) (tbl : List ExceptionTableEntry) (hp : Nat), tbl.map (fun h => (h.startPc, h.endPc, h.handlerPc, h.catchType)) = L.map Prod.fst → (∀ z ∈ L, Cond.classLink own z.1.2.2.2 (mm_xn z.2) ∈ mm_tb ∧ z.1.2.2.2 ≠ 0 ∧ z.2 < 4) → mm_pick L f.pc i = some hp →
      ∀ U : State, s.WarmedH U.vm → U.heap[x]? = some cell → ∃ vm1 : Vm, s.WarmedH vm1 ∧ ∀ (Q : Handler → Pre) (E : CtlPost) (d : Bool) (acts : List Action), wp (findHandler.go f x tbl) Q E e d acts U ↔ Q (.found hp) d acts (U.setVm vm1) := by
  intro L
  induction L with
  | nil => intro tbl hp _ _ h; cases h
  | cons z L ih =>
    intro tbl hp hmap hok hpick U hW hx
    cases tbl with
    | nil => simp at hmap
    | cons h t =>
      simp only [List.map_cons, List.cons.injEq] at hmap
      obtain ⟨hz, hmap⟩ := hmap
      have z1 : z.1.1 = h.startPc := by rw [← hz]
      have z2 : z.1.2.1 = h.endPc := by rw [← hz]
      have z3 : z.1.2.2.1 = h.handlerPc := by rw [← hz]
      have z4 : z.1.2.2.2 = h.catchType := by rw [← hz]
      obtain ⟨o1, o2, o3⟩ := hok z List.mem_cons_self
      have hok' : ∀ y ∈ L, Cond.classLink own y.1.2.2.2 (mm_xn y.2) ∈ mm_tb ∧ y.1.2.2.2 ≠ 0 ∧ y.2 < 4 := fun y hy => hok y (List.mem_cons_of_mem _ hy)
      by_cases hcov : covers h f.pc = true
      · have hcov' : (decide (z.1.1 ≤ f.pc) && decide (f.pc < z.1.2.1)) = true := by rw [z1, z2]; exact hcov
        rw [z4] at o1 o2
        obtain ⟨cc, hfcc, hcl⟩ := Cond.classLink_spec hown (hts _ o1) e.platform hpl
        obtain ⟨hg₁, hwarm₁, -⟩ := State.classEntry (e := e) hW hcl
        generalize U.vm.noted f.method.cls h.catchType (.cls cc) = vm₁ at hg₁ hwarm₁
        have hsz : vm₁.classes.size ≤ U.vm.classes.size := by rw [hwarm₁.2.1, hW.2.1]; exact Nat.le_refl _
        have hk1 : ∃ k, vm₁.classes[cell.cls]? = some k := Vm.classAt_of_findClass (by rw [hwarm₁.alike.findClass]; exact hcls)
        have hc1 : ∃ k, vm₁.classes[cc]? = some k := Vm.classAt_of_findClass (by rw [hwarm₁.alike.findClass]; exact hfcc)
        by_cases hzi : z.2 = i
        · have hcc : cc = cell.cls := by rw [hzi] at hfcc; exact Option.some.inj (hfcc.symm.trans hcls)
          subst hcc
          simp only [mm_pick, hcov', hzi, Bool.true_and, beq_self_eq_true, if_true] at hpick
          refine ⟨vm₁, hwarm₁, fun Q E d acts => ?_⟩
          rw [mm_go_cold hcov o2 hg₁ hsz hx (VmData.ne_statics_of hobj) hk1 hc1, if_pos (va_asg _ _), ← z3, Option.some.inj hpick]
        · have hzi' : (z.2 == i) = false := by simpa using hzi
          simp only [mm_pick, hzi', Bool.and_false, Bool.false_eq_true, if_false] at hpick
          have hno : vm₁.assignable cell.cls cc = false := by
            obtain ⟨c1, t1, g1, g2, g3⟩ := hnc i z.2 hi o3 (fun q => hzi q.symm)
            cases hcls.symm.trans g1
            cases hfcc.symm.trans g2
            rw [hwarm₁.alike.assignable]
            exact g3
          obtain ⟨vm2, hw2, hf2⟩ := ih t hp hmap hok' hpick (U.setVm vm₁) hwarm₁ hx
          refine ⟨vm2, hw2, fun Q E d acts => ?_⟩
          rw [mm_go_cold hcov o2 hg₁ hsz hx (VmData.ne_statics_of hobj) hk1 hc1, if_neg (by rw [hno]; decide)]
          exact hf2 Q E d acts
      · have hcov : covers h f.pc = false := by simpa using hcov
        have hcov' : (decide (z.1.1 ≤ f.pc) && decide (f.pc < z.1.2.1)) = false := by rw [z1, z2]; exact hcov
        simp only [mm_pick, hcov', Bool.false_and, Bool.false_eq_true, if_false] at hpick
        obtain ⟨vm2, hw2, hf2⟩ := ih t hp hmap hok' hpick U hW hx
        refine ⟨vm2, hw2, fun Q E d acts => ?_⟩
        rw [W.findHandler_go_skip hcov]
        exact hf2 Q E d acts
theorem mm_catchStep {e : Env} {s s' : State} {a : Addr} {f : JFrame} {r : List Frame} {pc : Nat} (hfind : ∀ (Q : Handler → Pre) (E : CtlPost) (d : Bool) (acts : List Action), wp (findHandler f a) Q E e d acts s ↔ Q (.found pc) d acts s') :
    (stepThrowing e s a (.java f :: r)).Is (s'.setFrames (.java { f with pc := pc, stack := [.ref a] } :: r)) [] := by
  simp only [stepThrowing, searchFrame, vmDo]
  generalize hr : Sem.go _ e false [] s = res
  obtain ⟨as, rfl, ha⟩ := Sem.eq_ok_of hr (a := Handler.found pc) (s' := s') (acts' := []) (by simp [hfind _ _ _ _])
  exact ⟨rfl, ha⟩
theorem mm_caughtSteps {tb : Tables} {e : Env} {s target : State} {fr : JFrame} {c : Code} {below : List Frame} {a : Addr} {pc : Nat} {vm1 : Vm} (h : At s fr.method c below) (hfind : ∀ (Q : Handler → Pre) (E : CtlPost) (d : Bool) (acts : List Action), wp (findHandler fr a) Q E e d acts ((s.setTop fr).pushFrame (.throwing a)) ↔ Q (.found pc) d acts (((s.setTop fr).pushFrame (.throwing a)).setVm vm1))
    (hrest : Steps tb e below ((s.setVm vm1).setTop { fr with pc := pc, stack := [.ref a] }) target) : Steps tb e below ((s.setTop fr).pushFrame (.throwing a)) target := by
  obtain ⟨hgo, hw⟩ := h.throwing a
  refine Steps.head hgo hw ?_
  rw [stepThread_throwing (frames_entered h.top _), (mm_catchStep (s := (s.setTop fr).pushFrame (.throwing a)) hfind).1]
  obtain ⟨g₀, hg⟩ := Option.isSome_iff_exists.mp h.top
  obtain ⟨r, hr⟩ := State.topJava?_eq_some.mp hg
  have hr1 : (s.setVm vm1).frames = .java g₀ :: r := hr
  rw [State.setTop_of_frames _ hr1] at hrest
  have e1 : (((s.setTop fr).pushFrame (.throwing a)).setVm vm1) = ((s.setVm vm1).setFrames (.throwing a :: .java fr :: r)) := by
    rw [State.pushFrame, State.setTop_of_frames _ hr, State.setFrames_setFrames]
    have e2 : (s.setFrames (.java fr :: r)).frames = .java fr :: r := State.frames_setFrames _ (State.cur_lt_of_frames hr)
    rw [e2]
    rfl
  rw [e1, State.setFrames_setFrames]
  have e3 : s.frames.tail = r := by rw [hr]; rfl
  rw [e3]
  exact hrest
section MMCT
variable {g : mm_G} {l : Launch} {Y : mm_Y} {rm : Room} {Q : mm_O → Prop} {pc : Nat} {ls : List (Option Value)} {st : List Value} {M : mm_M} {n k j : Nat}
/-- caught: the handler's first instruction stores the exception, of which nobody asks more; nothing is asked of the locals behind it -/
theorem mm_catch {i hp : Nat} {q : Fin 4} (L : List ((Nat × Nat × Nat × Nat) × Nat)) (hY : Cond.codeWith Y.1 Y.2.1 Y.2.2.1 Y.2.2.2 (L.map Prod.fst) ∈ mm_tb) (hL : ∀ z ∈ L, Cond.classLink Y.1.cls z.1.2.2.2 (mm_xn z.2) ∈ mm_tb ∧ z.1.2.2.2 ≠ 0 ∧ z.2 < 4) (hi : i < 4) (hpk : mm_pick L pc i = some hp) (hd : decode Y.2.1 hp = .ok (.astore_n q, 1)) (hq : (q : Nat) < Y.2.2.1)
    (kk : mm_Ev g l Y rm Q (hp + 1) [] [] M n k j) : mm_Tv g l Y rm Q pc ls st M n k j i := by
  intro p e s m args below meth c H locs lsM x hC hH hS hLs hX T hT X
  obtain ⟨hx, hb, hml, -, hown, hts, hlk, hnm, hI, hbs⟩ := id hC
  obtain ⟨t0, ht0, hW0, cell, hce, hob, hcl⟩ := hX
  have hcell : T.heap[x]? = some cell := by rw [hT, ← ht0]; exact hce
  have hcl0 : s.vm.findClass (mm_xn i) = some cell.cls := by rw [← hW0.alike.findClass]; exact hcl
  obtain ⟨m9, meth9, c9, hn9, h1, h2, -, -, h5, -, -, -⟩ := Cond.codeWith_spec (hts _ hY)
  cases hnm.2.symm.trans hn9
  cases X.method.symm.trans h1
  cases X.code.symm.trans h2
  have hpl : e.platform.magicAccessors = ({} : Platform).magicAccessors := by rw [X.admits.platform]
  have hAt : At T (F0 m pc lsM (st.map (mm_tr g))).method c below := X.here
  obtain ⟨vm1, hw1, hf1⟩ := mm_find (e := e) (f := F0 m pc lsM (st.map (mm_tr g))) (x := x) hpl hown hcl0 hob hi hI.2.2.1.2.2.2 hts L c.exceptionTable.toList hp h5 hL hpk ((T.setTop (F0 m pc lsM (st.map (mm_tr g)))).pushFrame (.throwing x)) X.warmed hcell
  have X1 := X.noted hw1
  have hw : W p l e rm s m args below meth c H locs k j (mm_Fin g rm.cells rm.slots below s Q) (F0 m hp lsM [.ref x]) := by
    refine lv_astore_n hx hb hd rfl hLs.has hq rfl (fun ls2 h9 => ?_)
    exact kk p e s m args below meth c H locs ls2 hC hH hS ⟨h9.1, h9.2.1, fun i v hv => by cases hv⟩
  obtain ⟨t, a1, b1⟩ := hw (T.setVm vm1) hT X1
  refine ⟨t, mm_caughtSteps hAt (fun Q E d acts => ?_) a1, b1⟩
  rw [W.findHandler_eq (meth := meth) (code := c) X.method' X.code]
  exact hf1 Q E d acts
end MMCT
/-- a method with handlers -/
def mm_MetH (g : mm_G) (l : Launch) (Y : mm_Y) (hh : List (Nat × Nat × Nat × Nat)) (rm : Room) (as : List Value) (M : mm_M) (n : Nat) (Q : mm_O → Prop) : Prop :=
  MetFree l Y.1 (headSpec (Cond.codeWith Y.1 Y.2.1 Y.2.2.1 Y.2.2.2 hh :: mm_tb) rm) (fun a U => a = (as.map (mm_tr g)).toArray ∧ mm_I g U U.heap ∧ mm_H g M n U.heap) (fun _ _ _ _ _ => True) (fun _ st o t => mm_Po g rm.cells rm.slots st Q o t)
theorem mm_enterH {g : mm_G} {l : Launch} {Y : mm_Y} {hh : List (Nat × Nat × Nat × Nat)} {rm : Room} {as : List Value} {M : mm_M} {n : Nat} {Q : mm_O → Prop} (hy : plainName Y.1.cls = true) (hfit : (lg_sl (as.map (mm_tr g))).length ≤ Y.2.2.1) (h : mm_Ev g l Y rm Q 0 (mm_ent as) [] M n 0 0) : mm_MetH g l Y hh rm as M n Q := by
  refine MetFree.of_bodyS (code := Y.2.1) (maxLocals := Y.2.2.1) (ret := Y.2.2.2) hy ?_ ?_
  · intro args s m h hn
    obtain ⟨m9, meth, c, hn9, h1, h2, h3, h4, -, h5, h6, -⟩ := Cond.codeWith_spec (atoms_spec (ws := Cond.codeWith Y.1 Y.2.1 Y.2.2.1 Y.2.2.2 hh :: mm_tb) h _ List.mem_cons_self)
    cases hn.symm.trans hn9
    exact ⟨meth, c, h1, h2, h3, h4, h5, h6⟩
  · intro p e s m args below meth c s₁ B hml hP _
    obtain ⟨rfl, hI, hH⟩ := hP
    have hh0 : s₁.heap = s.heap := by rw [B.state]; rfl
    have hts0 := atoms_spec (ws := Cond.codeWith Y.1 Y.2.1 Y.2.2.1 Y.2.2.2 hh :: mm_tb) B.pre
    have hC : mm_Cx g Y p s m (as.map (mm_tr g)).toArray meth c := ⟨B.exec, B.bytes, hml, B.returns, findClass_of_methodNamed B.named, fun w hw => hts0 w (List.mem_cons_of_mem _ hw), B.notSynchronized, ⟨(name_of_methodNamed B.named B.method).1, B.named⟩, hI, hH.base⟩
    have hl := lv_entry (as.map (mm_tr g)) (n := Y.2.2.1) hfit
    have hL : mm_L g Y.2.2.1 (mm_ent as) ((lg_sl (as.map (mm_tr g)) ++ List.replicate (Y.2.2.1 - (lg_sl (as.map (mm_tr g))).length) Slot.unset).toArray) := by
      refine ⟨hl.1, hl.2.1, fun i v hv => ?_⟩
      have h9 := mm_ent_in (g := g) as 0 i v hv
      rw [Nat.zero_add] at h9
      exact hl.2.2 _ h9
    obtain ⟨t, a1, o, b1, b2, b3⟩ := h p e s m _ below meth c s.heap [] _ hC hH va_S.rf hL s₁ hh0 (Stand.of_body B)
    refine ⟨t, o, ?_, b1, b2, b3⟩
    rw [lg_entry_eq]
    exact a1
section MMCH
variable {g : mm_G} {l : Launch} {Y : mm_Y} {rm : Room} {Q : mm_O → Prop} {pc : Nat} {ls : List (Option Value)} {st : List Value} {M : mm_M} {n k j : Nat}
def mm_Hl (own : String) (index np : Nat) (hh : List (Nat × Nat × Nat × Nat)) (Z : mm_Y) : Prop := Cond.codeWith Z.1 Z.2.1 Z.2.2.1 Z.2.2.2 hh ∈ mm_tb ∧ Cond.initialized Z.1.cls ∈ mm_tb ∧ (Z.1.cls ≠ "java/lang/invoke/MethodHandle" ∧ Z.1.cls ≠ "java/lang/invoke/VarHandle") ∧ (parseMethodDescriptor Z.1.desc).map (fun d => d.parameters.length) = some np ∧ Cond.methodLink own index Z.1 ∈ mm_tb ∧ Cond.static Z.1 ∈ mm_tb
theorem mm_callH {Z : mm_Y} {hh : List (Nat × Nat × Nat × Nat)} {rz : Room} {Qz : mm_O → Prop} {index np : Nat} {as : List Value} (hd : decode Y.2.1 pc = .ok (.invokestatic index, 3)) (hZ : mm_Hl Y.1.cls index np hh Z) (hM : mm_MetH g l Z hh rz as M n Qz) (hlen : as.length = np)
    (hroom : rz.frames + 1 ≤ rm.frames ∧ (st.map fun v => v.category).sum + (Z.2.2.1 + 11) + rz.locals ≤ rm.locals) (hk : k + rz.cells ≤ rm.cells) (hj : j + rz.slots ≤ rm.slots)
    (kr : ∀ (v : Option Value) (M1 : mm_M) (n1 : Nat), Qz (.inl v, M1, n1) → mm_Ev g l Y rm Q (pc + 3) ls (v.toList ++ st) M1 n1 (k + rz.cells) (j + rz.slots))
    (kt : ∀ (i : Nat) (M1 : mm_M) (n1 : Nat), Qz (.inr i, M1, n1) → mm_Tv g l Y rm Q pc ls st M1 n1 (k + rz.cells) (j + rz.slots) i) : mm_Ev g l Y rm Q pc ls (as.reverse ++ st) M n k j := by
  intro p e s m args below meth c H locs lsM hC hH hS hL
  obtain ⟨hx, hb, hml, -, hown, hts, -, -, hI, hbs⟩ := id hC
  obtain ⟨w0, wi, hy, hpar, w1, w2⟩ := hZ
  have hst : (as.reverse ++ st).map (mm_tr g) = (as.map (mm_tr g)).reverse ++ st.map (mm_tr g) := by
    rw [List.map_append, List.map_reverse]
  rw [hst]
  obtain ⟨mk0, methM', cM, hnamed0, hmethM', -, -, -, -, -, -, hsigM⟩ := Cond.codeWith_spec (hts _ w0)
  have hlen2 : np = methM'.sig.parameters.length := by
    rw [hsigM] at hpar
    exact (Option.some.inj hpar).symm
  have hLk := mm_lkS (l := l) (e := e) (R := rm) (below := below) (meth := meth) (H := H) (locs := locs) (cells := k) (slots := j) hx hown (hts _ w1) (hts _ w2) (hts _ wi) hnamed0 hmethM' (sig0 := methM'.sig) rfl hy (fr := F0 m pc lsM ((as.map (mm_tr g)).reverse ++ st.map (mm_tr g))) rfl (argsL := as.map (mm_tr g)) (rest := st.map (mm_tr g)) (by rw [List.length_map, hlen]; exact hlen2) rfl (by rw [hb]; exact hd)
  refine mm_callAny (S := headSpec (Cond.codeWith Z.1 Z.2.1 Z.2.2.1 Z.2.2.2 hh :: mm_tb) rz) (maxL := Z.2.2.1) (Wd := (st.map fun v => v.category).sum) hLk hM rfl (by rw [hml]; exact hL.1) hroom.1 hroom.2 (by rw [mm_cat_sum]; show 2 * 0 + _ ≤ _; omega) (by rw [hb]; exact hd)
    (fun U mk hW hn => ?_) hk hj (fun U hW hU => ⟨rfl, (hI.moved hW).kept (by rw [hU]; exact hS.2.1), by rw [hU]; exact hH⟩) hS hbs
    (fun v M1 n1 H1 locs1 hQz hH1 hS1 => ?_) (fun i x M1 n1 H1 locs1 hQz hH1 hS1 hX => ?_)
  · have h := mm_tb_good hts hW (as.map (mm_tr g)).toArray
    obtain ⟨m9, methY, cY, hn9, h1, h2, -, h4, -⟩ := Cond.codeWith_spec (h _ w0)
    cases hn.symm.trans hn9
    refine ⟨atoms_intro (ws := Cond.codeWith Z.1 Z.2.1 Z.2.2.1 Z.2.2.2 hh :: mm_tb) (fun w hw => ?_), h _ wi, methY, cY, h1, h2, h4⟩
    rcases List.mem_cons.mp hw with rfl | hw
    · exact h _ w0
    · exact h _ hw
  · have h9 := kr v M1 n1 hQz p e s m args below meth c H1 locs1 lsM hC hH1 hS1 hL
    rw [List.map_append] at h9
    cases v <;> exact h9
  · exact kt i M1 n1 hQz p e s m args below meth c H1 locs1 lsM x hC hH1 hS1 hL hX
end MMCH

/-! Calls in the judgement: the callee returns, or throws. -/
/-- what is behind an exception of class i that a call at pc has thrown -/
def mm_Tv (g : mm_G) (l : Launch) (Y : mm_Y) (rm : Room) (Q : mm_O → Prop) (pc : Nat) (ls : List (Option Value)) (st : List Value) (M : mm_M) (n k j i : Nat) : Prop :=
  ∀ (p : Program) (e : Env) (s : State) (m : MethodId) (args : Array Value) (below : List Frame) (meth : Method) (c : Code) (H : Heap) (locs : List Loc) (lsM : Array Slot) (x : Addr),
    mm_Cx g Y p s m args meth c → mm_H g M n H → va_S (mm_A g) s.heap H locs → mm_L g Y.2.2.1 ls lsM → (∃ t : State, t.heap = H ∧ s.WarmedH t.vm ∧ mm_Xc i x t) → mm_Th p l e rm s m args below meth c H locs k j (mm_Fin g rm.cells rm.slots below s Q) (F0 m pc lsM (st.map (mm_tr g))) x
/-- a method's own words -/
def mm_Yw (Y : mm_Y) (np : Nat) : Prop := Cond.code Y.1 Y.2.1 Y.2.2.1 Y.2.2.2 ∈ mm_tb ∧ Cond.initialized Y.1.cls ∈ mm_tb ∧ (Y.1.cls ≠ "java/lang/invoke/MethodHandle" ∧ Y.1.cls ≠ "java/lang/invoke/VarHandle") ∧ (parseMethodDescriptor Y.1.desc).map (fun d => d.parameters.length) = some np
theorem mm_Yw.len {Y : mm_Y} {np : Nat} (h : mm_Yw Y np) : ∀ sig, parseMethodDescriptor Y.1.desc = some sig → np = sig.parameters.length := fun sig hs => by
  have h2 := h.2.2.2
  rw [hs] at h2
  exact (Option.some.inj h2).symm
def mm_Vl (own : String) (index ci np : Nat) (Y : mm_Y) : Prop := mm_Yw Y np ∧ ∃ q : vw_C, mm_cl[ci]? = some q ∧ Cond.methodLink own index Y.1 ∈ mm_tb ∧ Cond.instanceMethod Y.1 ∈ mm_tb ∧ Cond.selects q.1 Y.1 Y.1 ∈ mm_tb
def mm_Sl (own : String) (index np : Nat) (Y : mm_Y) : Prop := mm_Yw Y np ∧ Cond.methodLink own index Y.1 ∈ mm_tb ∧ Cond.static Y.1 ∈ mm_tb
def mm_Il (own : String) (index np : Nat) (Y : mm_Y) : Prop := mm_Yw Y np ∧ Cond.methodLink own index Y.1 ∈ mm_tb ∧ Cond.instanceMethod Y.1 ∈ mm_tb ∧ Y.1.name = "<init>" ∧ Y.2.2.2 = none
theorem mm_cat_sum (g : mm_G) (st : List Value) : ((st.map (mm_tr g)).map fun v => v.category).sum = (st.map fun v => v.category).sum := by
  rw [List.map_map]
  congr 1
  exact List.map_congr_left (fun v _ => mm_tr_cat g v)
section MMCL
variable {g : mm_G} {l : Launch} {Y : mm_Y} {rm : Room} {Q : mm_O → Prop} {pc : Nat} {ls : List (Option Value)} {st : List Value} {M : mm_M} {n k j : Nat}
theorem mm_pay {Z : mm_Y} {rz : Room} {np : Nat} (hZ : mm_Yw Z np) {s : State} {args a : Array Value} (hts : ∀ w ∈ mm_tb, w.before args s = true) {U : State} {mk : MethodId} (hW : s.WarmedH U.vm) (hn : U.methodNamed? Z.1 = some mk) : (headSpec (mm_wd Z) rz).pre.before a U = true ∧ (Cond.initialized Z.1.cls).before a U = true ∧ ∃ methY cY, U.vm.method? mk = some methY ∧ methY.code = some cY ∧ cY.maxLocals = Z.2.2.1 := by
  have h := mm_tb_good hts hW a
  obtain ⟨methY, cY, h1, h2, -, h4, -⟩ := Cond.code_spec hn (h _ hZ.1)
  refine ⟨atoms_intro (ws := mm_wd Z) (fun w hw => ?_), h _ hZ.2.1, methY, cY, h1, h2, h4⟩
  rcases List.mem_cons.mp hw with rfl | hw
  · exact h _ hZ.1
  · exact h _ hw
theorem mm_callV {Z : mm_Y} {rz : Room} {Qz : mm_O → Prop} {a ci index np : Nat} {fs as : List Value} (hd : decode Y.2.1 pc = .ok (.invokevirtual index, 3)) (hZ : mm_Vl Y.1.cls index ci np Z) (hM : mm_Met g l Z rz (.ref a :: as) M n Qz) (hm : M a = some (.inr (ci, fs))) (hlen : as.length = np)
    (hroom : rz.frames + 1 ≤ rm.frames ∧ (st.map fun v => v.category).sum + (Z.2.2.1 + 11) + rz.locals ≤ rm.locals) (hk : k + rz.cells ≤ rm.cells) (hj : j + rz.slots ≤ rm.slots)
    (kr : ∀ (v : Option Value) (M1 : mm_M) (n1 : Nat), Qz (.inl v, M1, n1) → mm_Ev g l Y rm Q (pc + 3) ls (v.toList ++ st) M1 n1 (k + rz.cells) (j + rz.slots))
    (kt : ∀ (i : Nat) (M1 : mm_M) (n1 : Nat), Qz (.inr i, M1, n1) → mm_Tv g l Y rm Q pc ls st M1 n1 (k + rz.cells) (j + rz.slots) i) : mm_Ev g l Y rm Q pc ls (as.reverse ++ .ref a :: st) M n k j := by
  intro p e s m args below meth c H locs lsM hC hH hS hL
  obtain ⟨hx, hb, hml, -, hown, hts, -, -, hI, hbs⟩ := id hC
  obtain ⟨hYw, q, hc, w1, w2, w3⟩ := hZ
  obtain ⟨cellB, hcB, hoB, hclB⟩ := va_recv hI.1 (hH.P hm) hc (q0 := 0) rfl
  have hst : (as.reverse ++ .ref a :: st).map (mm_tr g) = (as.map (mm_tr g)).reverse ++ .ref (mm_ad g a) :: st.map (mm_tr g) := by
    rw [List.map_append, List.map_reverse]; rfl
  rw [hst]
  obtain ⟨mk0, methM0, hnamed0, hmeth0, -, -⟩ := Cond.instanceMethod_spec (hts _ w2)
  obtain ⟨methM', cM, hmethM', -, -, -, -, -, -, hsigM⟩ := Cond.code_spec hnamed0 (hts _ hYw.1)
  have hLk := mm_lkV (l := l) (e := e) (R := rm) (below := below) (meth := meth) (locs := locs) (cells := k) (slots := j) hx hown (hts _ w1) (hts _ w2) (hts _ w3) (sig0 := methM'.sig) (fun mk methM h1 h2 => by
    cases hnamed0.symm.trans h1
    cases hmethM'.symm.trans h2
    rfl) hYw.2.2.1 hcB hoB hclB (fr := F0 m pc lsM ((as.map (mm_tr g)).reverse ++ .ref (mm_ad g a) :: st.map (mm_tr g))) rfl (argsL := as.map (mm_tr g)) (rest := st.map (mm_tr g)) (by rw [List.length_map, hlen]; exact hYw.len _ hsigM) rfl (by rw [hb]; exact hd)
  refine mm_callAny (S := headSpec (mm_wd Z) rz) (maxL := Z.2.2.1) (Wd := (st.map fun v => v.category).sum) hLk hM rfl (by rw [hml]; exact hL.1) hroom.1 hroom.2 (by rw [mm_cat_sum]; show 2 * 0 + _ ≤ _; omega) (by rw [hb]; exact hd)
    (fun U mk hW hn => mm_pay hYw hts hW hn) hk hj (fun U hW hU => ⟨rfl, (hI.moved hW).kept (by rw [hU]; exact hS.2.1), by rw [hU]; exact hH⟩) hS hbs
    (fun v M1 n1 H1 locs1 hQz hH1 hS1 => ?_) (fun i x M1 n1 H1 locs1 hQz hH1 hS1 hX => ?_)
  · have h9 := kr v M1 n1 hQz p e s m args below meth c H1 locs1 lsM hC hH1 hS1 hL
    rw [List.map_append] at h9
    cases v <;> exact h9
  · exact kt i M1 n1 hQz p e s m args below meth c H1 locs1 lsM x hC hH1 hS1 hL hX
theorem mm_callS {Z : mm_Y} {rz : Room} {Qz : mm_O → Prop} {index np : Nat} {as : List Value} (hd : decode Y.2.1 pc = .ok (.invokestatic index, 3)) (hZ : mm_Sl Y.1.cls index np Z) (hM : mm_Met g l Z rz as M n Qz) (hlen : as.length = np)
    (hroom : rz.frames + 1 ≤ rm.frames ∧ (st.map fun v => v.category).sum + (Z.2.2.1 + 11) + rz.locals ≤ rm.locals) (hk : k + rz.cells ≤ rm.cells) (hj : j + rz.slots ≤ rm.slots)
    (kr : ∀ (v : Option Value) (M1 : mm_M) (n1 : Nat), Qz (.inl v, M1, n1) → mm_Ev g l Y rm Q (pc + 3) ls (v.toList ++ st) M1 n1 (k + rz.cells) (j + rz.slots))
    (kt : ∀ (i : Nat) (M1 : mm_M) (n1 : Nat), Qz (.inr i, M1, n1) → mm_Tv g l Y rm Q pc ls st M1 n1 (k + rz.cells) (j + rz.slots) i) : mm_Ev g l Y rm Q pc ls (as.reverse ++ st) M n k j := by
  intro p e s m args below meth c H locs lsM hC hH hS hL
  obtain ⟨hx, hb, hml, -, hown, hts, -, -, hI, hbs⟩ := id hC
  obtain ⟨hYw, w1, w2⟩ := hZ
  have hst : (as.reverse ++ st).map (mm_tr g) = (as.map (mm_tr g)).reverse ++ st.map (mm_tr g) := by
    rw [List.map_append, List.map_reverse]
  rw [hst]
  obtain ⟨mk0, hnamed0⟩ := Cond.code_named (hts _ hYw.1)
  obtain ⟨methM', cM, hmethM', -, -, -, -, -, -, hsigM⟩ := Cond.code_spec hnamed0 (hts _ hYw.1)
  have hLk := mm_lkS (l := l) (e := e) (R := rm) (below := below) (meth := meth) (H := H) (locs := locs) (cells := k) (slots := j) hx hown (hts _ w1) (hts _ w2) (hts _ hYw.2.1) hnamed0 hmethM' (sig0 := methM'.sig) rfl hYw.2.2.1 (fr := F0 m pc lsM ((as.map (mm_tr g)).reverse ++ st.map (mm_tr g))) rfl (argsL := as.map (mm_tr g)) (rest := st.map (mm_tr g)) (by rw [List.length_map, hlen]; exact hYw.len _ hsigM) rfl (by rw [hb]; exact hd)
  refine mm_callAny (S := headSpec (mm_wd Z) rz) (maxL := Z.2.2.1) (Wd := (st.map fun v => v.category).sum) hLk hM rfl (by rw [hml]; exact hL.1) hroom.1 hroom.2 (by rw [mm_cat_sum]; show 2 * 0 + _ ≤ _; omega) (by rw [hb]; exact hd)
    (fun U mk hW hn => mm_pay hYw hts hW hn) hk hj (fun U hW hU => ⟨rfl, (hI.moved hW).kept (by rw [hU]; exact hS.2.1), by rw [hU]; exact hH⟩) hS hbs
    (fun v M1 n1 H1 locs1 hQz hH1 hS1 => ?_) (fun i x M1 n1 H1 locs1 hQz hH1 hS1 hX => ?_)
  · have h9 := kr v M1 n1 hQz p e s m args below meth c H1 locs1 lsM hC hH1 hS1 hL
    rw [List.map_append] at h9
    cases v <;> exact h9
  · exact kt i M1 n1 hQz p e s m args below meth c H1 locs1 lsM x hC hH1 hS1 hL hX
theorem mm_callI {Z : mm_Y} {rz : Room} {Qz : mm_O → Prop} {a index np : Nat} {as : List Value} (hd : decode Y.2.1 pc = .ok (.invokespecial index, 3)) (hZ : mm_Il Y.1.cls index np Z) (hM : mm_Met g l Z rz (.ref a :: as) M n Qz) (hlen : as.length = np)
    (hroom : rz.frames + 1 ≤ rm.frames ∧ (st.map fun v => v.category).sum + (Z.2.2.1 + 11) + rz.locals ≤ rm.locals) (hk : k + rz.cells ≤ rm.cells) (hj : j + rz.slots ≤ rm.slots)
    (kr : ∀ (v : Option Value) (M1 : mm_M) (n1 : Nat), Qz (.inl v, M1, n1) → mm_Ev g l Y rm Q (pc + 3) ls (v.toList ++ st) M1 n1 (k + rz.cells) (j + rz.slots))
    (kt : ∀ (i : Nat) (M1 : mm_M) (n1 : Nat), Qz (.inr i, M1, n1) → mm_Tv g l Y rm Q pc ls st M1 n1 (k + rz.cells) (j + rz.slots) i) : mm_Ev g l Y rm Q pc ls (as.reverse ++ .ref a :: st) M n k j := by
  intro p e s m args below meth c H locs lsM hC hH hS hL
  obtain ⟨hx, hb, hml, -, hown, hts, -, -, hI, hbs⟩ := id hC
  obtain ⟨hYw, w1, w2, hy1, hy2⟩ := hZ
  have hst : (as.reverse ++ .ref a :: st).map (mm_tr g) = (as.map (mm_tr g)).reverse ++ .ref (mm_ad g a) :: st.map (mm_tr g) := by
    rw [List.map_append, List.map_reverse]; rfl
  rw [hst]
  have hcode := hts _ hYw.1
  rw [hy2] at hcode
  have hLk := mm_lkI (l := l) (e := e) (R := rm) (below := below) (meth := meth) (H := H) (locs := locs) (cells := k) (slots := j) hx hown hy1 (hts _ w1) (hts _ w2) hcode hYw.2.2.1 (fr := F0 m pc lsM ((as.map (mm_tr g)).reverse ++ .ref (mm_ad g a) :: st.map (mm_tr g))) rfl (a := mm_ad g a) (argsL := as.map (mm_tr g)) (rest := st.map (mm_tr g)) (fun sig hs => by rw [List.length_map, hlen]; exact hYw.len _ hs) rfl (by rw [hb]; exact hd)
  refine mm_callAny (S := headSpec (mm_wd Z) rz) (maxL := Z.2.2.1) (Wd := (st.map fun v => v.category).sum) hLk hM rfl (by rw [hml]; exact hL.1) hroom.1 hroom.2 (by rw [mm_cat_sum]; show 2 * 0 + _ ≤ _; omega) (by rw [hb]; exact hd)
    (fun U mk hW hn => mm_pay hYw hts hW hn) hk hj (fun U hW hU => ⟨rfl, (hI.moved hW).kept (by rw [hU]; exact hS.2.1), by rw [hU]; exact hH⟩) hS hbs
    (fun v M1 n1 H1 locs1 hQz hH1 hS1 => ?_) (fun i x M1 n1 H1 locs1 hQz hH1 hS1 hX => ?_)
  · have h9 := kr v M1 n1 hQz p e s m args below meth c H1 locs1 lsM hC hH1 hS1 hL
    rw [List.map_append] at h9
    cases v <;> exact h9
  · exact kt i M1 n1 hQz p e s m args below meth c H1 locs1 lsM x hC hH1 hS1 hL hX
/-- an exception that isn't caught here leaves the method (its code has no handlers: its word is 'code') -/
theorem mm_out {np i : Nat} (hY : mm_Yw Y np) (hk : k ≤ rm.cells) (hj : j ≤ rm.slots) (hQ : Q (.inr i, M, n)) : mm_Tv g l Y rm Q pc ls st M n k j i := by
  intro p e s m args below meth c H locs lsM x hC hH hS hL hX T hT X0
  obtain ⟨hx, hb, hml, -, hown, hts, hlk, hnm, hI, hbs⟩ := id hC
  have X := stand_widen X0 hk hj
  obtain ⟨t0, ht0, hW0, cell, hce, hob, hcl⟩ := hX
  have hout : ∀ y ∈ c.exceptionTable.toList, covers y pc = false := by
    obtain ⟨meth', c', h1, h2, -, -, -, -, h3, -⟩ := Cond.code_spec hnm.2 (hts _ hY.1)
    cases X.method.symm.trans h1
    cases X.code.symm.trans h2
    intro y hy
    rw [Array.isEmpty_iff.mp h3] at hy
    simp at hy
  obtain ⟨hst, hrun, hend, hW, hsame⟩ := X.leaveThrown x (g := F0 m pc lsM (st.map (mm_tr g))) rfl rfl rfl hout hlk
  refine ⟨_, hst, .threw x, hrun, hend, (.inr i, M, n), locs, hQ, ?_, ?_, hS.2.2, hW, hsame, x, rfl, cell, ?_, hob, ?_⟩
  · show mm_H g M n T.heap
    rw [hT]; exact hH
  · intro q hq
    show T.heap[q]? = _
    rw [hT]
    exact mm_low hS hbs q hq
  · show T.heap[x]? = _
    rw [hT, ← ht0]; exact hce
  · show T.vm.findClass _ = _
    rw [X.warmed.alike.findClass, ← hW0.alike.findClass]; exact hcl
end MMCL

/-! Ends, entering, calls. -/
theorem mm_fin_of {g : mm_G} {mc ms n : Nat} {below : List Frame} {args : Array Value} {s t : State} {Q : mm_O → Prop} {v : Option Value} {M : mm_M} {H : Heap} (hQ : Q (.inl v, M, n)) (hH : mm_H g M n H) (hlow : ∀ q : Nat, q < g.2.2.1 → H[q]? = s.heap[q]?) (h : MQ below (fun _ _ o t => o = .returned (v.map (mm_tr g)) ∧ t.heap = H) args s mc ms (mm_A g) t) : mm_Fin g mc ms below s Q t := by
  obtain ⟨o, h1, h2, ⟨h3, h4⟩, L, ⟨-, h5, h6⟩, h7⟩ := h
  exact ⟨o, h1, h2, (.inl v, M, n), L, hQ, by rw [h4]; exact hH, fun q hq => by rw [h4]; exact hlow q hq, h7, h5, h6, h3⟩
theorem mm_low {g : mm_G} {s : State} {H : Heap} {locs : List Loc} (hS : va_S (mm_A g) s.heap H locs) (hb : g.2.2.1 ≤ s.heap.size) : ∀ q : Nat, q < g.2.2.1 → H[q]? = s.heap[q]? := fun q hq => hS.2.1 q (Nat.lt_of_lt_of_le hq hb) (fun z => absurd hq (Nat.not_lt.mpr z))
theorem mm_H.base {g : mm_G} {M : mm_M} {n : Nat} {H : Heap} (h : mm_H g M n H) : g.2.2.1 ≤ H.size := by
  have h1 := h.1
  have h2 := h.2.1
  omega
section MMRT
variable {g : mm_G} {l : Launch} {Y : mm_Y} {rm : Room} {Q : mm_O → Prop} {pc : Nat} {ls : List (Option Value)} {st : List Value} {M : mm_M} {n k j : Nat}
theorem mm_iret {v : Int32} (hd : decode Y.2.1 pc = .ok (.ireturn, 1)) (hr : Y.2.2.2 = some .int) (hk : k ≤ rm.cells) (hj : j ≤ rm.slots) (hQ : Q (.inl (some (.int v)), M, n)) : mm_Ev g l Y rm Q pc ls [.int v] M n k j := by
  intro p e s m args below meth c H locs lsM hC hH hS hL
  obtain ⟨hx, hb, -, hrt, -, -, hlk, -, -, hbs⟩ := id hC
  refine W.widen hk hj (mm_W_mono (fun t ht => mm_fin_of (args := args) hQ hH (mm_low hS hbs) ht) ?_)
  exact W.iret (v := v) hx hb (hrt.trans hr) (fun t ht hW => ⟨rfl, ht⟩) hS.2.2 hd hlk
theorem mm_zret {v : Int32} {ty : FieldType} (hd : decode Y.2.1 pc = .ok (.ireturn, 1)) (hr : Y.2.2.2 = some ty) (hn : narrow ty (.int v) = .int v) (hk : k ≤ rm.cells) (hj : j ≤ rm.slots) (hQ : Q (.inl (some (.int v)), M, n)) : mm_Ev g l Y rm Q pc ls [.int v] M n k j := by
  intro p e s m args below meth c H locs lsM hC hH hS hL
  obtain ⟨hx, hb, -, hrt, -, -, hlk, -, -, hbs⟩ := id hC
  refine W.widen hk hj (mm_W_mono (fun t ht => mm_fin_of (args := args) hQ hH (mm_low hS hbs) ht) ?_)
  exact W.zret (v := v) hx hb (hrt.trans hr) hn (fun t ht hW => ⟨rfl, ht⟩) hS.2.2 hd hlk
theorem mm_lret {v : Int64} (hd : decode Y.2.1 pc = .ok (.lreturn, 1)) (hr : Y.2.2.2 = some .long) (hk : k ≤ rm.cells) (hj : j ≤ rm.slots) (hQ : Q (.inl (some (.long v)), M, n)) : mm_Ev g l Y rm Q pc ls [.long v] M n k j := by
  intro p e s m args below meth c H locs lsM hC hH hS hL
  obtain ⟨hx, hb, -, hrt, -, -, hlk, -, -, hbs⟩ := id hC
  refine W.widen hk hj (mm_W_mono (fun t ht => mm_fin_of (args := args) hQ hH (mm_low hS hbs) ht) ?_)
  exact W.lret (v := v) hx hb (hrt.trans hr) (fun t ht hW => ⟨rfl, ht⟩) hS.2.2 hd hlk
theorem mm_vret (hd : decode Y.2.1 pc = .ok (.return_, 1)) (hr : Y.2.2.2 = none) (hk : k ≤ rm.cells) (hj : j ≤ rm.slots) (hQ : Q (.inl none, M, n)) : mm_Ev g l Y rm Q pc ls [] M n k j := by
  intro p e s m args below meth c H locs lsM hC hH hS hL
  obtain ⟨hx, hb, -, hrt, -, -, hlk, -, -, hbs⟩ := id hC
  refine W.widen hk hj (mm_W_mono (fun t ht => mm_fin_of (args := args) hQ hH (mm_low hS hbs) ht) ?_)
  exact W.vret hx hb (hrt.trans hr) (fun t ht hW => ⟨rfl, ht⟩) hS.2.2 hd hlk
theorem mm_aret {a : Nat} {C : String} (hd : decode Y.2.1 pc = .ok (.areturn, 1)) (hr : Y.2.2.2 = some (.object C)) (hk : k ≤ rm.cells) (hj : j ≤ rm.slots) (hQ : Q (.inl (some (.ref a)), M, n)) : mm_Ev g l Y rm Q pc ls [.ref a] M n k j := by
  intro p e s m args below meth c H locs lsM hC hH hS hL
  obtain ⟨hx, hb, -, hrt, -, -, hlk, -, -, hbs⟩ := id hC
  refine W.widen hk hj (mm_W_mono (fun t ht => mm_fin_of (args := args) hQ hH (mm_low hS hbs) ht) ?_)
  exact W.aret (v := .ref (mm_ad g a)) hx hb (hrt.trans hr) (Or.inl ⟨_, rfl⟩) (Or.inr ⟨_, rfl⟩) (fun t ht hW => ⟨rfl, ht⟩) hS.2.2 hd hlk
end MMRT
def mm_wd (Y : mm_Y) : List Cond := Cond.code Y.1 Y.2.1 Y.2.2.1 Y.2.2.2 :: mm_tb
def mm_Met (g : mm_G) (l : Launch) (Y : mm_Y) (rm : Room) (as : List Value) (M : mm_M) (n : Nat) (Q : mm_O → Prop) : Prop :=
  MetFree l Y.1 (headSpec (mm_wd Y) rm) (fun a U => a = (as.map (mm_tr g)).toArray ∧ mm_I g U U.heap ∧ mm_H g M n U.heap) (fun _ _ _ _ _ => True) (fun _ st o t => mm_Po g rm.cells rm.slots st Q o t)
def mm_ent : List Value → List (Option Value)
  | [] => []
  | v :: vs => match v with
    | .long x => some (.long x) :: none :: mm_ent vs
    | .double x => some (.double x) :: none :: mm_ent vs
    | v => some v :: mm_ent vs
theorem mm_ent_in {g : mm_G} : ∀ (as : List Value) (b i : Nat) (v : Value), mm_lg (mm_ent as) i = some v → (b + i, mm_tr g v) ∈ lv_args b (as.map (mm_tr g)) := by
  intro as
  induction as with
  | nil => intro b i v h; cases h
  | cons w as ih =>
    intro b i v h
    have one : (mm_ent (w :: as) = some w :: mm_ent as ∧ (mm_tr g w).category = 1) ∨ (mm_ent (w :: as) = some w :: none :: mm_ent as ∧ (mm_tr g w).category = 2) := by
      cases w <;> first | exact Or.inl ⟨rfl, rfl⟩ | exact Or.inr ⟨rfl, rfl⟩
    rw [List.map_cons, lv_args]
    rcases one with ⟨h1, h2⟩ | ⟨h1, h2⟩
    · rw [h1] at h
      rw [if_neg (by omega)]
      cases i with
      | zero => cases h; exact List.mem_cons_self
      | succ i =>
        have := ih (b + 1) i v h
        rw [show b + 1 + i = b + (i + 1) by omega] at this
        exact List.mem_cons_of_mem _ this
    · rw [h1] at h
      rw [if_pos h2]
      cases i with
      | zero => cases h; exact List.mem_cons_self
      | succ i =>
        cases i with
        | zero => cases h
        | succ i =>
          have := ih (b + 2) i v h
          rw [show b + 2 + i = b + (i + 1 + 1) by omega] at this
          exact List.mem_cons_of_mem _ this
theorem mm_enter {g : mm_G} {l : Launch} {Y : mm_Y} {rm : Room} {as : List Value} {M : mm_M} {n : Nat} {Q : mm_O → Prop} (hy : plainName Y.1.cls = true) (hfit : (lg_sl (as.map (mm_tr g))).length ≤ Y.2.2.1) (h : mm_Ev g l Y rm Q 0 (mm_ent as) [] M n 0 0) : mm_Met g l Y rm as M n Q := by
  refine MetFree.of_bodyS (code := Y.2.1) (maxLocals := Y.2.2.1) (ret := Y.2.2.2) hy ?_ ?_
  · intro args s m h hn
    obtain ⟨meth, c, h1, h2, h3, h4, h5, h6, -, -⟩ := Cond.code_spec hn (atoms_spec (ws := mm_wd Y) h _ List.mem_cons_self)
    exact ⟨meth, c, h1, h2, h3, h4, h5, h6⟩
  · intro p e s m args below meth c s₁ B hml hP _
    obtain ⟨rfl, hI, hH⟩ := hP
    have hh0 : s₁.heap = s.heap := by rw [B.state]; rfl
    have hts0 := atoms_spec (ws := mm_wd Y) B.pre
    have hC : mm_Cx g Y p s m (as.map (mm_tr g)).toArray meth c := ⟨B.exec, B.bytes, hml, B.returns, findClass_of_methodNamed B.named, fun w hw => hts0 w (List.mem_cons_of_mem _ hw), B.notSynchronized, ⟨(name_of_methodNamed B.named B.method).1, B.named⟩, hI, hH.base⟩
    have hl := lv_entry (as.map (mm_tr g)) (n := Y.2.2.1) hfit
    have hL : mm_L g Y.2.2.1 (mm_ent as) ((lg_sl (as.map (mm_tr g)) ++ List.replicate (Y.2.2.1 - (lg_sl (as.map (mm_tr g))).length) Slot.unset).toArray) := by
      refine ⟨hl.1, hl.2.1, fun i v hv => ?_⟩
      have h9 := mm_ent_in (g := g) as 0 i v hv
      rw [Nat.zero_add] at h9
      exact hl.2.2 _ h9
    obtain ⟨t, a1, o, b1, b2, b3⟩ := h p e s m _ below meth c s.heap [] _ hC hH va_S.rf hL s₁ hh0 (Stand.of_body B)
    refine ⟨t, o, ?_, b1, b2, b3⟩
    rw [lg_entry_eq]
    exact a1

/-! A heap of places: our own cells are numbered from 1000 on in the order in which they are made, cells that were there before have numbers below 1000; a cell's references are such numbers. -/
abbrev mm_E : Type := (Nat × vp_A) ⊕ (Nat × List Value)
abbrev mm_M : Type := Nat → Option mm_E
/-- classes and slots; array classes by the number of their type; where our cells begin; the addresses of the old cells -/
abbrev mm_G : Type := va_G × (Nat → ClassId) × Nat × (Nat → Nat)
def mm_ad (g : mm_G) (a : Nat) : Nat := if a < 1000 then g.2.2.2 a else g.2.2.1 + (a - 1000)
def mm_tr (g : mm_G) (v : Value) : Value := match v with
  | .ref a => .ref (mm_ad g a)
  | v => v
def mm_trA (g : mm_G) (x : vp_A) : vp_A := match x with
  | (n, .inr (.inr (.inr (.inr f)))) => (n, .inr (.inr (.inr (.inr (fun i => (f i).map (mm_ad g))))))
  | x => x
def mm_trE (g : mm_G) (e : mm_E) : va_E := match e with
  | .inl (t, x) => .inl (g.2.1 t, mm_trA g x)
  | .inr (ci, fs) => .inr (ci, fs.map (mm_tr g))
def mm_up (M : mm_M) (a : Nat) (e : mm_E) : mm_M := fun b => if b = a then some e else M b
theorem mm_up_s {M : mm_M} {a : Nat} {e : mm_E} : mm_up M a e a = some e := by simp [mm_up]
theorem mm_up_n {M : mm_M} {a b : Nat} {e : mm_E} (h : b ≠ a) : mm_up M a e b = M b := by simp [mm_up, h]
theorem mm_ad_lt {g : mm_G} {a b : Nat} (ha : 1000 ≤ a) (h : a < b) : mm_ad g a < mm_ad g b := by
  unfold mm_ad
  rw [if_neg (by omega), if_neg (by omega)]
  omega
theorem mm_ad_inj {g : mm_G} {a b : Nat} (ha : 1000 ≤ a) (hb : 1000 ≤ b) (h : mm_ad g a = mm_ad g b) : a = b := by
  rcases Nat.lt_trichotomy a b with q | q | q
  · have := mm_ad_lt (g := g) ha q
    omega
  · exact q
  · have := mm_ad_lt (g := g) hb q
    omega
/-- the heap holds the cells: all that were made so far, in their order (some of them of no interest) -/
def mm_H (g : mm_G) (M : mm_M) (n : Nat) (H : Heap) : Prop := 1000 ≤ n ∧ H.size + 1000 = g.2.2.1 + n ∧ ∀ (a : Nat) (e : mm_E), M a = some e → 1000 ≤ a ∧ a < n ∧ va_at g.1 mm_cl (mm_ad g a, mm_trE g e) H
def mm_A (g : mm_G) : Nat → Prop := fun q => g.2.2.1 ≤ q
theorem mm_ad_A {g : mm_G} {a : Nat} (h : 1000 ≤ a) : mm_A g (mm_ad g a) := by
  unfold mm_A mm_ad
  rw [if_neg (by omega)]
  omega
theorem mm_one {D : va_G} {cl : List vw_C} {q : Nat × va_E} {H : Heap} (h : va_at D cl q H) : va_P D cl [q] H := by
  intro k r hk
  cases k with
  | zero => cases hk; exact h
  | succ k => simp at hk
theorem mm_H.P {g : mm_G} {M : mm_M} {n : Nat} {H : Heap} (h : mm_H g M n H) {a : Nat} {e : mm_E} (hm : M a = some e) : va_P g.1 mm_cl [(mm_ad g a, mm_trE g e)] H := mm_one (h.2.2 a e hm).2.2
/-- behind a write of one cell -/
theorem mm_H.set {g : mm_G} {M : mm_M} {n : Nat} {H H1 : Heap} (h : mm_H g M n H) {a : Nat} {e e1 : mm_E} (hm : M a = some e) (hz : H1.size = H.size) (ho : ∀ q : Nat, q ≠ mm_ad g a → H1[q]? = H[q]?) (hP : va_at g.1 mm_cl (mm_ad g a, mm_trE g e1) H1) : mm_H g (mm_up M a e1) n H1 := by
  refine ⟨h.1, by rw [hz]; exact h.2.1, fun b f hb => ?_⟩
  by_cases q : b = a
  · subst q
    rw [mm_up_s] at hb
    cases hb
    exact ⟨(h.2.2 b e hm).1, (h.2.2 b e hm).2.1, hP⟩
  · rw [mm_up_n q] at hb
    obtain ⟨h1, h2, h3⟩ := h.2.2 b f hb
    exact ⟨h1, h2, h3.kept (ho _ (fun z => q (mm_ad_inj h1 (h.2.2 a e hm).1 z)))⟩
theorem mm_H.end {g : mm_G} {M : mm_M} {n : Nat} {H : Heap} (h : mm_H g M n H) : mm_ad g n = H.size := by
  unfold mm_ad
  have h1 := h.1
  have h2 := h.2.1
  rw [if_neg (by omega)]
  omega
/-- behind a new cell -/
theorem mm_H.push {g : mm_G} {M : mm_M} {n : Nat} {H H1 : Heap} (h : mm_H g M n H) {e1 : mm_E} (hz : H1.size = H.size + 1) (ho : ∀ q : Nat, q < H.size → H1[q]? = H[q]?) (hP : va_at g.1 mm_cl (mm_ad g n, mm_trE g e1) H1) : mm_H g (mm_up M n e1) (n + 1) H1 := by
  have h1 := h.1
  have h2 := h.2.1
  refine ⟨by omega, by omega, fun b f hb => ?_⟩
  by_cases z : b = n
  · subst z
    rw [mm_up_s] at hb
    cases hb
    exact ⟨h1, by omega, hP⟩
  · rw [mm_up_n z] at hb
    obtain ⟨q1, q2, q3⟩ := h.2.2 b f hb
    exact ⟨q1, by omega, q3.kept (ho _ q3.lt)⟩
/-- cells of no interest come -/
theorem mm_H.more {g : mm_G} {M : mm_M} {n k : Nat} {H H1 : Heap} (h : mm_H g M n H) (hz : H1.size = H.size + k) (ho : ∀ q : Nat, q < H.size → H1[q]? = H[q]?) : mm_H g M (n + k) H1 := by
  have h1 := h.1
  have h2 := h.2.1
  refine ⟨by omega, by omega, fun b f hb => ?_⟩
  obtain ⟨q1, q2, q3⟩ := h.2.2 b f hb
  exact ⟨q1, by omega, q3.kept (ho _ q3.lt)⟩
/-- the locals: what is known of them -/
def mm_lg : List (Option Value) → Nat → Option Value
  | [], _ => none
  | a :: _, 0 => a
  | _ :: l, i + 1 => mm_lg l i
def mm_lset : List (Option Value) → Nat → Option Value → List (Option Value)
  | [], 0, v => [v]
  | [], i + 1, v => none :: mm_lset [] i v
  | _ :: l, 0, v => v :: l
  | a :: l, i + 1, v => a :: mm_lset l i v
theorem mm_lg_set : ∀ (l : List (Option Value)) (i : Nat) (v : Option Value) (j : Nat), mm_lg (mm_lset l i v) j = if j = i then v else mm_lg l j
  | [], 0, v, 0 => rfl
  | [], 0, v, j + 1 => rfl
  | [], i + 1, v, 0 => rfl
  | [], i + 1, v, j + 1 => by
    show mm_lg (mm_lset [] i v) j = _
    rw [mm_lg_set [] i v j]
    by_cases h : j = i
    · rw [if_pos h, if_pos (by omega)]
    · rw [if_neg h, if_neg (by omega)]; rfl
  | a :: l, 0, v, 0 => rfl
  | a :: l, 0, v, j + 1 => rfl
  | a :: l, i + 1, v, 0 => rfl
  | a :: l, i + 1, v, j + 1 => by
    show mm_lg (mm_lset l i v) j = _
    rw [mm_lg_set l i v j]
    by_cases h : j = i
    · rw [if_pos h, if_pos (by omega)]
    · rw [if_neg h, if_neg (by omega)]; rfl
/-- a value of two words is lost when its second word is written -/
def mm_c2 (o : Option Value) : Option Value := match o with
  | some (.long _) => none
  | some (.double _) => none
  | o => o
theorem mm_c2_of {o : Option Value} {v : Value} (h : mm_c2 o = some v) : o = some v ∧ ¬ v.category = 2 := by
  cases o with
  | none => cases h
  | some w => cases w <;> first | (cases h; done) | (cases h; exact ⟨rfl, by simp [Value.category]⟩)
def mm_st1 (ls : List (Option Value)) (i : Nat) (v : Value) : List (Option Value) := match i with
  | 0 => mm_lset ls 0 (some v)
  | i + 1 => mm_lset (mm_lset ls i (mm_c2 (mm_lg ls i))) (i + 1) (some v)
def mm_st2 (ls : List (Option Value)) (i : Nat) (v : Value) : List (Option Value) := mm_lset (mm_st1 ls i v) (i + 1) none
theorem mm_st1_of {ls : List (Option Value)} {i j : Nat} {v w : Value} (h : mm_lg (mm_st1 ls i v) j = some w) : (j = i ∧ w = v) ∨ (j ≠ i ∧ mm_lg ls j = some w ∧ ¬ (j + 1 = i ∧ w.category = 2)) := by
  cases i with
  | zero =>
    simp only [mm_st1, mm_lg_set] at h
    by_cases q : j = 0
    · rw [if_pos q] at h
      exact Or.inl ⟨q, (Option.some.inj h).symm⟩
    · rw [if_neg q] at h
      exact Or.inr ⟨q, h, fun z => by omega⟩
  | succ i =>
    simp only [mm_st1, mm_lg_set] at h
    by_cases q : j = i + 1
    · rw [if_pos q] at h
      exact Or.inl ⟨q, (Option.some.inj h).symm⟩
    · rw [if_neg q] at h
      by_cases q2 : j = i
      · rw [if_pos q2] at h
        obtain ⟨h1, h2⟩ := mm_c2_of h
        subst q2
        exact Or.inr ⟨q, h1, fun z => h2 z.2⟩
      · rw [if_neg q2] at h
        exact Or.inr ⟨q, h, fun z => by omega⟩
theorem mm_st2_of {ls : List (Option Value)} {i j : Nat} {v w : Value} (h : mm_lg (mm_st2 ls i v) j = some w) : (j = i ∧ w = v) ∨ (j ≠ i ∧ j ≠ i + 1 ∧ mm_lg ls j = some w ∧ ¬ (j + 1 = i ∧ w.category = 2)) := by
  simp only [mm_st2, mm_lg_set] at h
  by_cases q : j = i + 1
  · rw [if_pos q] at h; cases h
  · rw [if_neg q] at h
    rcases mm_st1_of h with h | ⟨h1, h2, h3⟩
    · exact Or.inl h
    · exact Or.inr ⟨h1, q, h2, h3⟩
theorem mm_tr_cat (g : mm_G) (v : Value) : (mm_tr g v).category = v.category := by cases v <;> rfl
def mm_L (g : mm_G) (nL : Nat) (ls : List (Option Value)) (lsM : Array Slot) : Prop := lsM.size = nL ∧ lv_wf lsM ∧ ∀ (i : Nat) (v : Value), mm_lg ls i = some v → lsM[i]? = some (.val (mm_tr g v))
def mm_kn (g : mm_G) (nL : Nat) (ls : List (Option Value)) : List (Nat × Value) := (List.range nL).filterMap (fun i => (mm_lg ls i).map (fun v => (i, mm_tr g v)))
theorem mm_kn_mem {g : mm_G} {nL : Nat} {ls : List (Option Value)} {q : Nat × Value} : q ∈ mm_kn g nL ls ↔ ∃ i v, i < nL ∧ mm_lg ls i = some v ∧ q = (i, mm_tr g v) := by
  unfold mm_kn
  rw [List.mem_filterMap]
  constructor
  · rintro ⟨a, ha, h⟩
    cases hm : mm_lg ls a with
    | none => rw [hm] at h; cases h
    | some e => rw [hm] at h; exact ⟨a, e, List.mem_range.mp ha, hm, (Option.some.inj h).symm⟩
  · rintro ⟨a, e, ha, hm, rfl⟩
    exact ⟨a, List.mem_range.mpr ha, by rw [hm]; rfl⟩
theorem mm_L.has {g : mm_G} {nL : Nat} {ls : List (Option Value)} {lsM : Array Slot} (h : mm_L g nL ls lsM) : lv_has lsM nL (mm_kn g nL ls) := by
  refine ⟨h.1, h.2.1, fun q hq => ?_⟩
  obtain ⟨i, v, -, hv, rfl⟩ := mm_kn_mem.mp hq
  exact h.2.2 i v hv
theorem mm_L.lt {g : mm_G} {nL : Nat} {ls : List (Option Value)} {lsM : Array Slot} (h : mm_L g nL ls lsM) {i : Nat} {v : Value} (hv : mm_lg ls i = some v) : i < nL := by
  have := lv_lt (h.2.2 i v hv)
  rw [h.1] at this
  exact this
theorem mm_L.st1 {g : mm_G} {nL i : Nat} {ls : List (Option Value)} {lsM ls1 : Array Slot} {v : Value} (h : mm_L g nL ls lsM) (h1 : lv_has ls1 nL ((i, mm_tr g v) :: (mm_kn g nL ls).filter (fun q => !(q.1 == i) && !(q.1 + 1 == i && q.2.category == 2)))) : mm_L g nL (mm_st1 ls i v) ls1 := by
  refine ⟨h1.1, h1.2.1, fun j w hw => ?_⟩
  rcases mm_st1_of hw with ⟨rfl, rfl⟩ | ⟨q1, q2, q3⟩
  · exact h1.2.2 (j, mm_tr g w) List.mem_cons_self
  · refine h1.2.2 (j, mm_tr g w) (List.mem_cons_of_mem _ (List.mem_filter.mpr ⟨mm_kn_mem.mpr ⟨j, w, h.lt q2, q2, rfl⟩, ?_⟩))
    simp only [Bool.and_eq_true, Bool.not_eq_true', beq_eq_false_iff_ne, ne_eq, Bool.and_eq_false_iff, mm_tr_cat]
    refine ⟨q1, ?_⟩
    by_cases z : j + 1 = i
    · exact Or.inr (fun z2 => q3 ⟨z, z2⟩)
    · exact Or.inl z
theorem mm_L.st2 {g : mm_G} {nL i : Nat} {ls : List (Option Value)} {lsM ls1 : Array Slot} {v : Value} (h : mm_L g nL ls lsM) (h1 : lv_has ls1 nL ((i, mm_tr g v) :: (mm_kn g nL ls).filter (fun q => !(q.1 == i) && (!(q.1 == i + 1) && !(q.1 + 1 == i && q.2.category == 2))))) : mm_L g nL (mm_st2 ls i v) ls1 := by
  refine ⟨h1.1, h1.2.1, fun j w hw => ?_⟩
  rcases mm_st2_of hw with ⟨rfl, rfl⟩ | ⟨q1, q2, q3, q4⟩
  · exact h1.2.2 (j, mm_tr g w) List.mem_cons_self
  · refine h1.2.2 (j, mm_tr g w) (List.mem_cons_of_mem _ (List.mem_filter.mpr ⟨mm_kn_mem.mpr ⟨j, w, h.lt q3, q3, rfl⟩, ?_⟩))
    simp only [Bool.and_eq_true, Bool.not_eq_true', beq_eq_false_iff_ne, ne_eq, Bool.and_eq_false_iff, mm_tr_cat]
    refine ⟨q1, q2, ?_⟩
    by_cases z : j + 1 = i
    · exact Or.inr (fun z2 => q4 ⟨z, z2⟩)
    · exact Or.inl z
theorem mm_L.less {g : mm_G} {nL : Nat} {ls ls1 : List (Option Value)} {lsM : Array Slot} (h : mm_L g nL ls lsM) (hs : ∀ (i : Nat) (v : Value), mm_lg ls1 i = some v → mm_lg ls i = some v) : mm_L g nL ls1 lsM := ⟨h.1, h.2.1, fun i v hv => h.2.2 i v (hs i v hv)⟩

/-! Rows over the reference's state. md_W b M0 s M: the cells hold s, and nothing else has changed since M0. -/
def md_F (b : Nat) (M M1 : mm_M) : Prop := ∀ a, a < b ∨ b + 42 ≤ a → M1 a = M a
def md_W (b : Nat) (M0 : mm_M) (s : md_S) (M : mm_M) : Prop := md_H b s M ∧ md_F b M0 M
theorem md_of_lt : ∀ k, md_of k < 42 := by
  intro k
  by_cases h : k < 69
  · exact (show ∀ k, k < 69 → md_of k < 42 by decide +kernel) k h
  · have : md_of k = 0 := by
      unfold md_of
      split <;> first | rfl | omega
    omega
def md_R (b : Nat) (M0 : mm_M) (n : Nat) (P : Option Value → md_S → Prop) : mm_O → Prop := fun o => ∃ (r : Option Value) (s1 : md_S) (M1 : mm_M), P r s1 ∧ o = (.inl r, M1, n) ∧ md_W b M0 s1 M1
/-- an index is in range -/
def md_ok (i : Int32) (N : Nat) : Bool := decide (0 ≤ i.toInt) && decide (i.toInt < (N : Int))
theorem md_ok_in {i : Int32} {N : Nat} (h : md_ok i N = true) : vp_in i N := by
  simp only [md_ok, Bool.and_eq_true, decide_eq_true_eq] at h
  exact vp_in_iff.mpr h
/-- fewer locals known -/
def mm_sub : List (Option Value) → List (Option Value) → Prop
  | [], _ => True
  | none :: l, [] => mm_sub l []
  | none :: l, _ :: r => mm_sub l r
  | some _ :: _, [] => False
  | some v :: l, x :: r => x = some v ∧ mm_sub l r
theorem mm_sub_lg : ∀ (l r : List (Option Value)), mm_sub l r → ∀ (i : Nat) (v : Value), mm_lg l i = some v → mm_lg r i = some v
  | [], _, _, i, v, h => by cases h
  | none :: l, [], hs, i, v, h => by
    cases i with
    | zero => cases h
    | succ i => have := mm_sub_lg l [] hs i v h; cases this
  | none :: l, x :: r, hs, i, v, h => by
    cases i with
    | zero => cases h
    | succ i => exact mm_sub_lg l r hs i v h
  | some w :: l, [], hs, i, v, h => by cases hs
  | some w :: l, x :: r, hs, i, v, h => by
    obtain ⟨h1, h2⟩ := hs
    cases i with
    | zero => rw [h1]; exact h
    | succ i => exact mm_sub_lg l r h2 i v h
section MDRW
variable {g : mm_G} {l : Launch} {Y : mm_Y} {rm : Room} {Q : mm_O → Prop} {pc : Nat} {ls : List (Option Value)} {st : List Value} {M M0 : mm_M} {n k j b : Nat} {s : md_S}
theorem mm_less {ls1 : List (Option Value)} (h : mm_sub ls1 ls) (kk : mm_Ev g l Y rm Q pc ls1 st M n k j) : mm_Ev g l Y rm Q pc ls st M n k j :=
  fun p e s m args below meth c H locs lsM hC hH hS hL => kk p e s m args below meth c H locs lsM hC hH hS (hL.less (mm_sub_lg _ _ h))
theorem mm_pc {pc1 : Nat} (h : pc = pc1) (kk : mm_Ev g l Y rm Q pc1 ls st M n k j) : mm_Ev g l Y rm Q pc ls st M n k j := h ▸ kk
theorem md_fv_at {kf : Nat} (hk : kf < 69) : ((List.range 69).map (md_fv b s))[kf]? = some (md_fv b s kf) := by
  rw [List.getElem?_map, List.getElem?_range hk]; rfl
theorem md_geti {kf index : Nat} {ty : FieldType} {fin : Bool} (h : md_W b M0 s M) (hd : decode Y.2.1 pc = .ok (.getfield index, 3)) (hF : mm_Fl Y.1.cls index 11 kf ty fin) (hk : kf < 69) (hkd : md_kd kf = 0) (kk : mm_Ev g l Y rm Q (pc + 3) ls (.int (md_i s kf) :: st) M n k j) : mm_Ev g l Y rm Q pc ls (.ref b :: st) M n k j :=
  mm_get hd hF h.1.1 (by rw [md_fv_at hk]; simp only [md_fv, hkd]) kk
theorem md_getl {kf index : Nat} {ty : FieldType} {fin : Bool} (h : md_W b M0 s M) (hd : decode Y.2.1 pc = .ok (.getfield index, 3)) (hF : mm_Fl Y.1.cls index 11 kf ty fin) (hk : kf < 69) (hkd : md_kd kf = 1) (kk : mm_Ev g l Y rm Q (pc + 3) ls (.long (md_l s kf) :: st) M n k j) : mm_Ev g l Y rm Q pc ls (.ref b :: st) M n k j :=
  mm_get hd hF h.1.1 (by rw [md_fv_at hk]; simp only [md_fv, hkd]) kk
theorem md_fv_r {kf : Nat} (hkd : 2 ≤ md_kd kf) : md_fv b s kf = .ref (b + md_of kf) := by
  unfold md_fv
  generalize md_kd kf = y at hkd
  match y, hkd with
  | y + 2, _ => rfl
theorem md_getr {kf index : Nat} {ty : FieldType} {fin : Bool} (h : md_W b M0 s M) (hd : decode Y.2.1 pc = .ok (.getfield index, 3)) (hF : mm_Fl Y.1.cls index 11 kf ty fin) (hk : kf < 69) (hkd : 2 ≤ md_kd kf) (kk : mm_Ev g l Y rm Q (pc + 3) ls (.ref (b + md_of kf) :: st) M n k j) : mm_Ev g l Y rm Q pc ls (.ref b :: st) M n k j :=
  mm_get hd hF h.1.1 (by rw [md_fv_at hk, md_fv_r hkd]) kk
theorem md_F_b {M1 : mm_M} {a : Nat} {e : mm_E} (h : md_F b M0 M) (ha : b ≤ a) (ha2 : a < b + 42) : md_F b M0 (mm_up M a e) := fun q hq => by rw [mm_up_n (by omega)]; exact h q hq
theorem md_puti {kf index : Nat} {x : Int32} (h : md_W b M0 s M) (hd : decode Y.2.1 pc = .ok (.putfield index, 3)) (hF : mm_Fl Y.1.cls index 11 kf .int false) (hk : kf < 69) (hkd : md_kd kf = 0) (kk : ∀ M1 : mm_M, md_W b M0 (md_si s kf x) M1 → mm_Ev g l Y rm Q (pc + 3) ls st M1 n k j) : mm_Ev g l Y rm Q pc ls (.int x :: .ref b :: st) M n k j := by
  refine mm_put hd hF h.1.1 (by simpa using hk) rfl rfl (fun M1 e => kk M1 ?_)
  have h9 := h.1.put (s1 := md_si s kf x) kf hk (by omega) (fun q hq => md_i_ne hq)
  have e9 : md_fv b (md_si s kf x) kf = .int x := by simp only [md_fv, hkd, md_ii]
  rw [e9] at h9
  rw [e]
  exact ⟨h9, md_F_b (M1 := M1) h.2 (Nat.le_refl _) (by omega)⟩
theorem md_putl {kf index : Nat} {x : Int64} (h : md_W b M0 s M) (hd : decode Y.2.1 pc = .ok (.putfield index, 3)) (hF : mm_Fl Y.1.cls index 11 kf .long false) (hk : kf < 69) (hkd : md_kd kf = 1) (kk : ∀ M1 : mm_M, md_W b M0 (md_sl s kf x) M1 → mm_Ev g l Y rm Q (pc + 3) ls st M1 n k j) : mm_Ev g l Y rm Q pc ls (.long x :: .ref b :: st) M n k j := by
  refine mm_put hd hF h.1.1 (by simpa using hk) rfl rfl (fun M1 e => kk M1 ?_)
  have h9 := h.1.put (s1 := md_sl s kf x) kf hk (by omega) (fun q hq => md_l_ne hq)
  have e9 : md_fv b (md_sl s kf x) kf = .long x := by simp only [md_fv, hkd, md_ll]
  rw [e9] at h9
  rw [e]
  exact ⟨h9, md_F_b (M1 := M1) h.2 (Nat.le_refl _) (by omega)⟩
theorem md_ial {kf : Nat} {i : Int32} (h : md_W b M0 s M) (hd : decode Y.2.1 pc = .ok (.iaload, 1)) (hk : kf < 69) (hkd : md_kd kf = 2) (hin : md_ok i (md_ln kf) = true) (kk : mm_Ev g l Y rm Q (pc + 1) ls (.int (md_a s kf i.toNatClampNeg) :: st) M n k j) : mm_Ev g l Y rm Q pc ls (.int i :: .ref (b + md_of kf) :: st) M n k j :=
  mm_iald hd (t := 3) (by rw [h.1.2 kf hk (by omega)]; simp only [md_av, hkd]) rfl (md_ok_in hin) kk
theorem md_lal {kf : Nat} {i : Int32} (h : md_W b M0 s M) (hd : decode Y.2.1 pc = .ok (.laload, 1)) (hk : kf < 69) (hkd : md_kd kf = 3) (hin : md_ok i (md_ln kf) = true) (kk : mm_Ev g l Y rm Q (pc + 1) ls (.long (md_b s kf i.toNatClampNeg) :: st) M n k j) : mm_Ev g l Y rm Q pc ls (.int i :: .ref (b + md_of kf) :: st) M n k j :=
  mm_lald hd (t := 1) (by rw [h.1.2 kf hk (by omega)]; simp only [md_av, hkd]) rfl (md_ok_in hin) kk
theorem md_zal {kf : Nat} {i : Int32} (h : md_W b M0 s M) (hd : decode Y.2.1 pc = .ok (.baload, 1)) (hk : kf < 69) (hkd : md_kd kf = 4) (hin : md_ok i (md_ln kf) = true) (kk : mm_Ev g l Y rm Q (pc + 1) ls (.int (md_a s kf i.toNatClampNeg) :: st) M n k j) : mm_Ev g l Y rm Q pc ls (.int i :: .ref (b + md_of kf) :: st) M n k j :=
  mm_zald hd (t := 6) (by rw [h.1.2 kf hk (by omega)]; simp only [md_av, hkd]) rfl (md_ok_in hin) kk
theorem md_ias {kf : Nat} {i x : Int32} (h : md_W b M0 s M) (hd : decode Y.2.1 pc = .ok (.iastore, 1)) (hk : kf < 69) (hkd : md_kd kf = 2) (hin : md_ok i (md_ln kf) = true) (kk : ∀ M1 : mm_M, md_W b M0 (md_sa s kf (upd (md_a s kf) i.toNatClampNeg x)) M1 → mm_Ev g l Y rm Q (pc + 1) ls st M1 n k j) : mm_Ev g l Y rm Q pc ls (.int x :: .int i :: .ref (b + md_of kf) :: st) M n k j := by
  refine mm_iast hd (t := 3) (by rw [h.1.2 kf hk (by omega)]; simp only [md_av, hkd]; rfl) rfl (md_ok_in hin) (fun M1 e => kk M1 ?_)
  have h9 := h.1.store (s1 := md_sa s kf (upd (md_a s kf) i.toNatClampNeg x)) kf hk (by omega) (fun q hq => md_a_ne hq)
  have e9 : md_av (md_sa s kf (upd (md_a s kf) i.toNatClampNeg x)) kf = .inl (3, md_ln kf, .inl (upd (md_a s kf) i.toNatClampNeg x)) := by simp only [md_av, hkd, md_aa]
  rw [e9] at h9
  rw [e]
  have := md_of_lt kf
  exact ⟨h9, md_F_b (M1 := M1) h.2 (by omega) (by omega)⟩
theorem md_las {kf : Nat} {i : Int32} {x : Int64} (h : md_W b M0 s M) (hd : decode Y.2.1 pc = .ok (.lastore, 1)) (hk : kf < 69) (hkd : md_kd kf = 3) (hin : md_ok i (md_ln kf) = true) (kk : ∀ M1 : mm_M, md_W b M0 (md_sb s kf (vp_updL (md_b s kf) i.toNatClampNeg x)) M1 → mm_Ev g l Y rm Q (pc + 1) ls st M1 n k j) : mm_Ev g l Y rm Q pc ls (.long x :: .int i :: .ref (b + md_of kf) :: st) M n k j := by
  refine mm_last hd (t := 1) (by rw [h.1.2 kf hk (by omega)]; simp only [md_av, hkd]; rfl) rfl (md_ok_in hin) (fun M1 e => kk M1 ?_)
  have h9 := h.1.store (s1 := md_sb s kf (vp_updL (md_b s kf) i.toNatClampNeg x)) kf hk (by omega) (fun q hq => md_b_ne hq)
  have e9 : md_av (md_sb s kf (vp_updL (md_b s kf) i.toNatClampNeg x)) kf = .inl (1, md_ln kf, .inr (.inl (vp_updL (md_b s kf) i.toNatClampNeg x))) := by simp only [md_av, hkd, md_bb]
  rw [e9] at h9
  rw [e]
  have := md_of_lt kf
  exact ⟨h9, md_F_b (M1 := M1) h.2 (by omega) (by omega)⟩
theorem md_zas {kf : Nat} {i x : Int32} (h : md_W b M0 s M) (hd : decode Y.2.1 pc = .ok (.bastore, 1)) (hk : kf < 69) (hkd : md_kd kf = 4) (hin : md_ok i (md_ln kf) = true) (kk : ∀ M1 : mm_M, md_W b M0 (md_sa s kf (upd (md_a s kf) i.toNatClampNeg (vp_nar .boolean x))) M1 → mm_Ev g l Y rm Q (pc + 1) ls st M1 n k j) : mm_Ev g l Y rm Q pc ls (.int x :: .int i :: .ref (b + md_of kf) :: st) M n k j := by
  refine mm_zast hd (t := 6) (by rw [h.1.2 kf hk (by omega)]; simp only [md_av, hkd]; rfl) rfl (md_ok_in hin) (fun M1 e => kk M1 ?_)
  have h9 := h.1.store (s1 := md_sa s kf (upd (md_a s kf) i.toNatClampNeg (vp_nar .boolean x))) kf hk (by omega) (fun q hq => md_a_ne hq)
  have e9 : md_av (md_sa s kf (upd (md_a s kf) i.toNatClampNeg (vp_nar .boolean x))) kf = .inl (6, md_ln kf, .inl (upd (md_a s kf) i.toNatClampNeg (vp_nar .boolean x))) := by simp only [md_av, hkd, md_aa]
  rw [e9] at h9
  rw [e]
  have := md_of_lt kf
  exact ⟨h9, md_F_b (M1 := M1) h.2 (by omega) (by omega)⟩
theorem md_Q_of {r : Option Value} {P : Option Value → md_S → Prop} (h : md_W b M0 s M) (hP : P r s) : md_R b M0 n P (.inl r, M, n) := ⟨r, s, M, hP, rfl, h⟩
/-- a call of a method of the reference's own object -/
theorem md_call {Z : mm_Y} {rz : Room} {P : Option Value → md_S → Prop} {index np : Nat} {as : List Value} (h : md_W b M0 s M) (hd : decode Y.2.1 pc = .ok (.invokevirtual index, 3)) (hZ : mm_Vl Y.1.cls index 11 np Z) (hM : ∀ (M : mm_M) (n : Nat), md_H b s M → mm_Met g l Z rz (.ref b :: as) M n (md_R b M n P)) (hlen : as.length = np)
    (hroom : rz.frames + 1 ≤ rm.frames ∧ (st.map fun v => v.category).sum + (Z.2.2.1 + 11) + rz.locals ≤ rm.locals) (hk : k + rz.cells ≤ rm.cells) (hj : j + rz.slots ≤ rm.slots)
    (kr : ∀ (r : Option Value) (s1 : md_S) (M1 : mm_M), P r s1 → md_W b M0 s1 M1 → mm_Ev g l Y rm Q (pc + 3) ls (r.toList ++ st) M1 n (k + rz.cells) (j + rz.slots)) : mm_Ev g l Y rm Q pc ls (as.reverse ++ .ref b :: st) M n k j := by
  refine mm_callV hd hZ (hM M n h.1) h.1.1 hlen hroom hk hj (fun v M1 n1 hQ => ?_) (fun i M1 n1 hQ => ?_)
  · obtain ⟨r, s1, M2, hP, e, hW⟩ := hQ
    cases e
    exact kr v s1 M1 hP ⟨hW.1, fun a ha => (hW.2 a ha).trans (h.2 a ha)⟩
  · obtain ⟨r, s1, M2, hP, e, hW⟩ := hQ
    cases e
/-- a call of a static method that touches no cell -/
theorem md_callS {Z : mm_Y} {rz : Room} {P : Option Value → Prop} {index np : Nat} {as : List Value} (hd : decode Y.2.1 pc = .ok (.invokestatic index, 3)) (hZ : mm_Sl Y.1.cls index np Z) (hM : ∀ (M : mm_M) (n : Nat), mm_Met g l Z rz as M n (fun o => ∃ r, P r ∧ o = (.inl r, M, n))) (hlen : as.length = np)
    (hroom : rz.frames + 1 ≤ rm.frames ∧ (st.map fun v => v.category).sum + (Z.2.2.1 + 11) + rz.locals ≤ rm.locals) (hk : k + rz.cells ≤ rm.cells) (hj : j + rz.slots ≤ rm.slots)
    (kr : ∀ (r : Option Value), P r → mm_Ev g l Y rm Q (pc + 3) ls (r.toList ++ st) M n (k + rz.cells) (j + rz.slots)) : mm_Ev g l Y rm Q pc ls (as.reverse ++ st) M n k j := by
  refine mm_callS hd hZ (hM M n) hlen hroom hk hj (fun v M1 n1 hQ => ?_) (fun i M1 n1 hQ => ?_)
  · obtain ⟨r, hP, e⟩ := hQ
    cases e
    exact kr v hP
  · obtain ⟨r, hP, e⟩ := hQ
    cases e
end MDRW

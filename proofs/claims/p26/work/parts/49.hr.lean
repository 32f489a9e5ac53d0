/-! The reference's network: forms, places, parameters; what keeps them. -/
def zz_sz (S : zz_S) (t : Nat) : Int := (S 1102 t * S 1103 t) * S 1104 t
def zz_tn (S : zz_S) (t : Nat) : Prop := 1 ≤ S 1102 t ∧ 1 ≤ S 1103 t ∧ 1 ≤ S 1104 t ∧ S 1105 t + zz_sz S t ≤ 2048
def zz_la (S : zz_S) (l : Nat) : Prop := S 1107 l ≤ (l : Int) ∧ (S 1106 l = 0 → 1 ≤ S 1109 l ∧ 1 ≤ S 1110 l ∧ S 1114 l + S 1104 (l + 1) * (4 + (S 1109 l * S 1110 l) * S 1104 (S 1107 l).toNat) ≤ 4096) ∧ (S 1106 l = 1 → 1 ≤ S 1110 l ∧ S 1111 l * (S 1102 (l + 1) - 1) + S 1109 l ≤ S 1102 (S 1107 l).toNat ∧ S 1111 l * (S 1103 (l + 1) - 1) + S 1110 l ≤ S 1103 (S 1107 l).toNat ∧ S 1104 (l + 1) = S 1104 (S 1107 l).toNat) ∧ (S 1106 l = 2 → S 1108 l ≤ (l : Int) ∧ (S 1102 (l + 1) = S 1102 (S 1107 l).toNat ∧ S 1103 (l + 1) = S 1103 (S 1107 l).toNat ∧ S 1104 (l + 1) = S 1104 (S 1107 l).toNat) ∧ (S 1102 (l + 1) = S 1102 (S 1108 l).toNat ∧ S 1103 (l + 1) = S 1103 (S 1108 l).toNat ∧ S 1104 (l + 1) = S 1104 (S 1108 l).toNat))
def zz_Hr (S : zz_S) : Prop := (∀ t : Nat, (t : Int) < S 1079 36 → zz_tn S t) ∧ (∀ l : Nat, (l : Int) + 1 < S 1079 36 → zz_la S l)
theorem zz_tn.same {S S1 : zz_S} {t : Nat} (h : zz_tn S t) (hs : ∀ a, 1102 ≤ a → a ≤ 1105 → S1 a t = S a t) : zz_tn S1 t := by
  unfold zz_tn zz_sz at h ⊢
  rw [hs 1102 (by decide) (by decide), hs 1103 (by decide) (by decide), hs 1104 (by decide) (by decide), hs 1105 (by decide) (by decide)]
  exact h
theorem zz_la.same {S S1 : zz_S} {l : Nat} (h : zz_la S l) (hs : ∀ a i, 1102 ≤ a → a ≤ 1114 → a ≠ 1105 → i ≤ l → S1 a i = S a i) (h2 : ∀ a, 1102 ≤ a → a ≤ 1104 → S1 a (l + 1) = S a (l + 1)) : zz_la S1 l := by
  unfold zz_la at h ⊢
  obtain ⟨h1, hc, hp, ha⟩ := h
  have q : ∀ a, 1102 ≤ a → a ≤ 1114 → a ≠ 1105 → S1 a l = S a l := fun a x y z => hs a l x y z (Nat.le_refl l)
  have o : ∀ a, 1102 ≤ a → a ≤ 1104 → S1 a (S 1107 l).toNat = S a (S 1107 l).toNat := fun a x y => hs a _ x (by omega) (by omega) (by omega)
  rw [q 1106 (by decide) (by decide) (by decide), q 1107 (by decide) (by decide) (by decide), q 1108 (by decide) (by decide) (by decide), q 1109 (by decide) (by decide) (by decide), q 1110 (by decide) (by decide) (by decide), q 1111 (by decide) (by decide) (by decide), q 1114 (by decide) (by decide) (by decide), h2 1102 (by decide) (by decide), h2 1103 (by decide) (by decide), h2 1104 (by decide) (by decide), o 1102 (by decide) (by decide), o 1103 (by decide) (by decide), o 1104 (by decide) (by decide)]
  refine ⟨h1, hc, hp, fun hk => ?_⟩
  have ha := ha hk
  have w : ∀ a, 1102 ≤ a → a ≤ 1104 → S1 a (S 1108 l).toNat = S a (S 1108 l).toNat := fun a x y => hs a _ x (by omega) (by omega) (by omega)
  rw [w 1102 (by decide) (by decide), w 1103 (by decide) (by decide), w 1104 (by decide) (by decide)]
  exact ha
/-- fewer tensors, or as many, that are the same -/
theorem zz_Hr.down {S S1 : zz_S} (h : zz_Hr S) (ht : S1 1079 36 ≤ S 1079 36) (hs : ∀ a i : Nat, 1102 ≤ a → a ≤ 1114 → (i : Int) < S1 1079 36 → S1 a i = S a i) : zz_Hr S1 := by
  refine ⟨fun t htt => (h.1 t (by omega)).same (fun a x y => hs a t x (by omega) htt), fun l hl => (h.2 l (by omega)).same (fun a i x y _ z => hs a i x y (by omega)) (fun a x y => hs a _ x (by omega) (by omega))⟩
theorem zz_our1 {sl : List (Nat × Nat)} {a i : Nat} (hs : sl.all (fun p => (Nat.blt p.1 1102 || Nat.blt 1114 p.1) && !(p == (1079, 36))) = true) (h : (1102 ≤ a ∧ a ≤ 1114) ∨ (a = 1079 ∧ i = 36)) : sl.contains (a, i) = false := by
  rw [List.all_eq_true] at hs
  cases hc : sl.contains (a, i) with
  | false => rfl
  | true =>
    have h1 := hs (a, i) (List.contains_iff_mem.mp hc)
    simp only [Bool.and_eq_true, Bool.or_eq_true, Nat.blt_eq, Bool.not_eq_true', beq_eq_false_iff_ne, ne_eq, Prod.mk.injEq] at h1
    omega
theorem zz_our2 {cl : List Nat} {a : Nat} (hs : cl.all (fun p => (Nat.blt p 1102 || Nat.blt 1114 p) && !(p == 1079)) = true) (h : (1102 ≤ a ∧ a ≤ 1114) ∨ a = 1079) : cl.contains a = false := by
  rw [List.all_eq_true] at hs
  cases hc : cl.contains a with
  | false => rfl
  | true =>
    have h1 := hs a (List.contains_iff_mem.mp hc)
    simp only [Bool.and_eq_true, Bool.or_eq_true, Nat.blt_eq, Bool.not_eq_true', beq_eq_false_iff_ne, ne_eq] at h1
    omega
theorem zz_Hr.fr {sl : List (Nat × Nat)} {cl : List Nat} {V : Nat → Nat → Prop} {S S1 : zz_S} (f : zz_fr sl cl V S S1) (hs : sl.all (fun p => (Nat.blt p.1 1102 || Nat.blt 1114 p.1) && !(p == (1079, 36))) = true) (hc : cl.all (fun p => (Nat.blt p 1102 || Nat.blt 1114 p) && !(p == 1079)) = true) (hv : ∀ a i, V a i → (a < 1102 ∨ 1114 < a) ∧ a ≠ 1079) (h : zz_Hr S) : zz_Hr S1 := by
  have hT : S1 1079 36 = S 1079 36 := f 1079 36 (zz_our1 hs (Or.inr ⟨rfl, rfl⟩)) (zz_our2 hc (Or.inr rfl)) (fun hV => (hv _ _ hV).2 rfl)
  exact h.down (by omega) (fun a i x y _ => f a i (zz_our1 hs (Or.inl ⟨x, y⟩)) (zz_our2 hc (Or.inl ⟨x, y⟩)) (fun hV => by have := (hv _ _ hV).1; omega))
theorem zz_Hr.one {S1 : zz_S} (ht : S1 1079 36 = 1) (hn : zz_tn S1 0) : zz_Hr S1 := by
  refine ⟨fun t h => ?_, fun l h => absurd h (by omega)⟩
  have : t = 0 := by omega
  subst this
  exact hn
theorem zz_Hr.none {S1 : zz_S} (ht : S1 1079 36 ≤ 0) : zz_Hr S1 := ⟨fun t h => absurd h (by omega), fun l h => absurd h (by omega)⟩
/-- one layer more -/
theorem zz_Hr.add {sl : List (Nat × Nat)} {cl : List Nat} {V : Nat → Nat → Prop} {S S1 : zz_S} {T l : Nat} (f : zz_fr sl cl V S S1) (hs : sl.all (fun p => Nat.blt p.1 1102 || Nat.blt 1114 p.1) = true) (hc : cl.all (fun p => Nat.blt p 1102 || Nat.blt 1114 p) = true) (hv : ∀ a i, V a i → a < 1102 ∨ 1114 < a ∨ (a ≤ 1104 ∧ i = T) ∨ (a = 1105 ∧ i = T + 1) ∨ (1106 ≤ a ∧ i + 1 = T)) (h : zz_Hr S) (hl1 : l + 1 = T) (hT : S 1079 36 = (T : Int)) (ht : S1 1079 36 = (T : Int) + 1) (hn : zz_tn S1 T) (hl : zz_la S1 l) : zz_Hr S1 := by
  have o1 : ∀ a i, 1102 ≤ a → a ≤ 1114 → sl.contains (a, i) = false := by
    intro a i x y
    refine zz_nc1 ?_
    rw [List.all_eq_true] at hs ⊢
    intro p hp
    have h1 := hs p hp
    simp only [Bool.or_eq_true, Nat.blt_eq] at h1
    have h2 : p.1 ≠ a := by omega
    simp [h2]
  have o2 : ∀ a, 1102 ≤ a → a ≤ 1114 → cl.contains a = false := by
    intro a x y
    rw [List.all_eq_true] at hc
    cases hq : cl.contains a with
    | false => rfl
    | true =>
      have h1 := hc a (List.contains_iff_mem.mp hq)
      simp only [Bool.or_eq_true, Nat.blt_eq] at h1
      omega
  have key : ∀ a i, 1102 ≤ a → a ≤ 1114 → ¬ (a ≤ 1104 ∧ i = T) → ¬ (a = 1105 ∧ i = T + 1) → ¬ (1106 ≤ a ∧ i + 1 = T) → S1 a i = S a i := by
    intro a i x y n1 n2 n3
    refine f a i (o1 a i x y) (o2 a x y) (fun hV => ?_)
    have := hv a i hV
    omega
  refine ⟨fun t htt => ?_, fun k hk => ?_⟩
  · by_cases e : t = T
    · subst e; exact hn
    · exact (h.1 t (by omega)).same (fun a x y => key a t x (by omega) (by omega) (by omega) (by omega))
  · by_cases e : k = l
    · subst e; exact hl
    · exact (h.2 k (by omega)).same (fun a i x y z w => key a i x y (by omega) (by omega) (by omega)) (fun a x y => key a _ x (by omega) (by omega) (by omega) (by omega))
/-- a place in a tensor -/
theorem zz_ix {h w c y x k F B : Int} (hy : 0 ≤ y ∧ y < h) (hx : 0 ≤ x ∧ x < w) (hk : 0 ≤ k ∧ k < c) (hF : F + (h * w) * c ≤ B) : 0 ≤ (y * w + x) * c ∧ F + (y * w + x) * c + k < B := by
  have h1 : y * w ≤ (h - 1) * w := Int.mul_le_mul_of_nonneg_right (by omega) (by omega)
  have h2 : (h - 1) * w = h * w - w := by rw [Int.sub_mul, Int.one_mul]
  have h3 : (y * w + x) * c ≤ (h * w - 1) * c := Int.mul_le_mul_of_nonneg_right (by omega) (by omega)
  have h4 : (h * w - 1) * c = (h * w) * c - c := by rw [Int.sub_mul, Int.one_mul]
  have h0 : 0 ≤ y * w := Int.mul_nonneg hy.1 (by omega)
  have h5 : 0 ≤ (y * w + x) * c := Int.mul_nonneg (by omega) (by omega)
  exact ⟨h5, by omega⟩
theorem zz_dm {k a b : Int} (hk : 0 ≤ k ∧ k < a * b) (hb : 1 ≤ b) : (0 ≤ k / b ∧ k / b < a) ∧ (0 ≤ k % b ∧ k % b < b) := by
  refine ⟨⟨Int.ediv_nonneg hk.1 (by omega), ?_⟩, Int.emod_nonneg _ (by omega), Int.emod_lt_of_pos _ (by omega)⟩
  exact Int.ediv_lt_of_lt_mul (by omega) hk.2
/-- places of a convolution's parameters -/
theorem zz_cv {P C m o k : Int} (h : P + C * (4 + m) ≤ 4096) (ho : 0 ≤ o ∧ o < C) (hm : 0 ≤ m) : P + 4 * o + 3 < 4096 ∧ (0 ≤ k ∧ k < m → 0 ≤ k * C ∧ P + 4 * C + k * C + o < 4096) := by
  have e : C * (4 + m) = 4 * C + m * C := by rw [Int.mul_add, Int.mul_comm C 4, Int.mul_comm C m]
  have h0 : 0 ≤ m * C := Int.mul_nonneg hm (by omega)
  refine ⟨by omega, fun hk => ?_⟩
  have h1 : k * C ≤ (m - 1) * C := Int.mul_le_mul_of_nonneg_right (by omega) (by omega)
  have h2 : (m - 1) * C = m * C - C := by rw [Int.sub_mul, Int.one_mul]
  have h3 : 0 ≤ k * C := Int.mul_nonneg hk.1 (by omega)
  exact ⟨h3, by omega⟩
/-- the network as it is kept -/
def zz_kp (S0 S : zz_S) : Prop := (∀ u : Nat, u < 11 → S 1119 (0 + u) = S0 1102 u) ∧ (∀ u : Nat, u < 11 → S 1119 (12 + u) = S0 1103 u) ∧ (∀ u : Nat, u < 11 → S 1119 (24 + u) = S0 1104 u) ∧ (∀ u : Nat, u < 12 → S 1119 (36 + u) = S0 1105 u) ∧ (∀ u : Nat, u < 10 → S 1119 (48 + u) = S0 1106 u) ∧ (∀ u : Nat, u < 10 → S 1119 (59 + u) = S0 1107 u) ∧ (∀ u : Nat, u < 10 → S 1119 (70 + u) = S0 1108 u) ∧ (∀ u : Nat, u < 10 → S 1119 (81 + u) = S0 1109 u) ∧ (∀ u : Nat, u < 10 → S 1119 (92 + u) = S0 1110 u) ∧ (∀ u : Nat, u < 10 → S 1119 (103 + u) = S0 1111 u) ∧ (∀ u : Nat, u < 10 → S 1119 (114 + u) = S0 1112 u) ∧ (∀ u : Nat, u < 10 → S 1119 (125 + u) = S0 1113 u) ∧ (∀ u : Nat, u < 10 → S 1119 (136 + u) = S0 1114 u)
theorem zz_kp.same {S0 S S1 : zz_S} (h : zz_kp S0 S) (hs : ∀ u, S1 1119 u = S 1119 u) : zz_kp S0 S1 := by
  unfold zz_kp at h ⊢
  simp only [hs]
  exact h
theorem zz_Hr.same {S S1 : zz_S} (h : zz_Hr S) (ht : S1 1079 36 = S 1079 36) (g : S 1079 36 ≤ 11) (h2 : ∀ u : Nat, u < 11 → S1 1102 u = S 1102 u) (h3 : ∀ u : Nat, u < 11 → S1 1103 u = S 1103 u) (h4 : ∀ u : Nat, u < 11 → S1 1104 u = S 1104 u) (h5 : ∀ u : Nat, u < 12 → S1 1105 u = S 1105 u) (h6 : ∀ u : Nat, u < 10 → S1 1106 u = S 1106 u) (h7 : ∀ u : Nat, u < 10 → S1 1107 u = S 1107 u) (h8 : ∀ u : Nat, u < 10 → S1 1108 u = S 1108 u) (h9 : ∀ u : Nat, u < 10 → S1 1109 u = S 1109 u) (h10 : ∀ u : Nat, u < 10 → S1 1110 u = S 1110 u) (h11 : ∀ u : Nat, u < 10 → S1 1111 u = S 1111 u) (h12 : ∀ u : Nat, u < 10 → S1 1112 u = S 1112 u) (h13 : ∀ u : Nat, u < 10 → S1 1113 u = S 1113 u) (h14 : ∀ u : Nat, u < 10 → S1 1114 u = S 1114 u) : zz_Hr S1 := by
  refine ⟨fun t htt => (h.1 t (by omega)).same (fun a x y => ?_), fun l hl => (h.2 l (by omega)).same (fun a i x y z w => ?_) (fun a x y => ?_)⟩
  · rcases (by omega : a = 1102 ∨ a = 1103 ∨ a = 1104 ∨ a = 1105) with rfl | rfl | rfl | rfl
    · exact h2 t (by omega)
    · exact h3 t (by omega)
    · exact h4 t (by omega)
    · exact h5 t (by omega)
  · rcases (by omega : a = 1102 ∨ a = 1103 ∨ a = 1104 ∨ a = 1106 ∨ a = 1107 ∨ a = 1108 ∨ a = 1109 ∨ a = 1110 ∨ a = 1111 ∨ a = 1112 ∨ a = 1113 ∨ a = 1114) with rfl | rfl | rfl | rfl | rfl | rfl | rfl | rfl | rfl | rfl | rfl | rfl
    · exact h2 i (by omega)
    · exact h3 i (by omega)
    · exact h4 i (by omega)
    · exact h6 i (by omega)
    · exact h7 i (by omega)
    · exact h8 i (by omega)
    · exact h9 i (by omega)
    · exact h10 i (by omega)
    · exact h11 i (by omega)
    · exact h12 i (by omega)
    · exact h13 i (by omega)
    · exact h14 i (by omega)
  · rcases (by omega : a = 1102 ∨ a = 1103 ∨ a = 1104) with rfl | rfl | rfl
    · exact h2 _ (by omega)
    · exact h3 _ (by omega)
    · exact h4 _ (by omega)
theorem zz_kp.from {S0 S1 S : zz_S} (h : zz_kp S1 S) (hs : ∀ a u : Nat, 1102 ≤ a → a ≤ 1114 → S1 a u = S0 a u) : zz_kp S0 S := by
  unfold zz_kp at h ⊢
  simp only [hs 1102 _ (by decide) (by decide), hs 1103 _ (by decide) (by decide), hs 1104 _ (by decide) (by decide), hs 1105 _ (by decide) (by decide), hs 1106 _ (by decide) (by decide), hs 1107 _ (by decide) (by decide), hs 1108 _ (by decide) (by decide), hs 1109 _ (by decide) (by decide), hs 1110 _ (by decide) (by decide), hs 1111 _ (by decide) (by decide), hs 1112 _ (by decide) (by decide), hs 1113 _ (by decide) (by decide), hs 1114 _ (by decide) (by decide)] at h
  exact h
/-- other places for the tensors -/
theorem zz_Hr.froms {S0 S : zz_S} (h : zz_Hr S0) (ht : S 1079 36 = S0 1079 36) (hs : ∀ a i : Nat, 1102 ≤ a → a ≤ 1114 → a ≠ 1105 → S a i = S0 a i) (hf : ∀ t : Nat, (t : Int) < S0 1079 36 → S 1105 t + zz_sz S0 t ≤ 2048) : zz_Hr S := by
  refine ⟨fun t htt => ?_, fun l hl => (h.2 l (by omega)).same (fun a i x y z _ => hs a i x y z) (fun a x y => hs a _ x (by omega) (by omega))⟩
  have h1 := h.1 t (by omega)
  have h2 := hf t (by omega)
  unfold zz_tn zz_sz at h1 ⊢
  unfold zz_sz at h2
  rw [hs 1102 t (by decide) (by decide) (by decide), hs 1103 t (by decide) (by decide) (by decide), hs 1104 t (by decide) (by decide) (by decide)]
  exact ⟨h1.1, h1.2.1, h1.2.2.1, h2⟩
theorem zz_nc4 {sl : List (Nat × Nat)} {a i : Nat} (hs : sl.all (fun p => Nat.blt p.1 1102 || Nat.blt 1114 p.1) = true) (h : 1102 ≤ a ∧ a ≤ 1114) : sl.contains (a, i) = false := by
  refine zz_nc1 ?_
  rw [List.all_eq_true] at hs ⊢
  intro p hp
  have h1 := hs p hp
  simp only [Bool.or_eq_true, Nat.blt_eq] at h1
  have h2 : p.1 ≠ a := by omega
  simp [h2]
theorem zz_nc3 {cl : List Nat} {a : Nat} (hs : cl.all (fun p => Nat.blt p 1102 || Nat.blt 1114 p) = true) (h : 1102 ≤ a ∧ a ≤ 1114) : cl.contains a = false := by
  rw [List.all_eq_true] at hs
  cases hc : cl.contains a with
  | false => rfl
  | true =>
    have h1 := hs a (List.contains_iff_mem.mp hc)
    simp only [Bool.or_eq_true, Nat.blt_eq] at h1
    omega
theorem zz_nc5 {cl : List Nat} {a : Nat} (hs : cl.all (fun p => (Nat.blt p 1102 || Nat.blt 1114 p) || p == 1105) = true) (h : 1102 ≤ a ∧ a ≤ 1114 ∧ a ≠ 1105) : cl.contains a = false := by
  rw [List.all_eq_true] at hs
  cases hc : cl.contains a with
  | false => rfl
  | true =>
    have h1 := hs a (List.contains_iff_mem.mp hc)
    simp only [Bool.or_eq_true, Nat.blt_eq, beq_iff_eq] at h1
    omega
theorem zz_ny2 {h w c k : Int} (hk : 0 ≤ k ∧ k < (h * w) * c) (hc : 1 ≤ c) (hw : 1 ≤ w) : (0 ≤ k % c ∧ k % c < c) ∧ (0 ≤ k / c % w ∧ k / c % w < w) ∧ (0 ≤ k / c / w ∧ k / c / w < h) := by
  have h1 := zz_dm hk hc
  have h2 := zz_dm (k := k / c) (a := h) (b := w) h1.1 hw
  exact ⟨h1.2, h2.2, h2.1⟩

/-! The class's networks: what holds of the layers that are there (kernels, channels), and what keeps it. -/
def zz_ly (S : zz_S) (z : Int) : Prop := (S (zz_rf 6 z) 0 = 3 ∨ (S (zz_rf 6 z) 3 ≤ 3 ∧ S (zz_rf 6 z) 4 ≤ 3)) ∧ S (zz_rf 6 z) 12 ≤ 63
def zz_nwk (S : zz_S) (q : Int) : Prop := ∀ k : Int, 0 ≤ k → k < S (zz_rf 3 q) 1 → zz_ly S (12 * q + k)
def zz_Hc (S : zz_S) : Prop := ∀ q : Int, 0 ≤ q ∧ q ≤ 1 → zz_nwk S q
theorem zz_ly.same {S S1 : zz_S} {z : Int} (h : ∀ i, S1 (zz_rf 6 z) i = S (zz_rf 6 z) i) (hl : zz_ly S z) : zz_ly S1 z := by
  unfold zz_ly at hl ⊢
  rw [h 0, h 3, h 4, h 12]
  exact hl
theorem zz_out1 {sl : List (Nat × Nat)} {a i : Nat} (hs : sl.all (fun p => Nat.blt p.1 1001 || Nat.blt 1028 p.1) = true) (h : 1001 ≤ a ∧ a ≤ 1028) : sl.contains (a, i) = false := by
  refine zz_nc1 ?_
  rw [List.all_eq_true] at hs ⊢
  intro p hp
  have h1 := hs p hp
  simp only [Bool.or_eq_true, Nat.blt_eq] at h1
  have h2 : p.1 ≠ a := by omega
  simp [h2]
theorem zz_out2 {cl : List Nat} {a : Nat} (hs : cl.all (fun p => Nat.blt p 1001 || Nat.blt 1028 p) = true) (h : 1001 ≤ a ∧ a ≤ 1028) : cl.contains a = false := by
  rw [List.all_eq_true] at hs
  cases hc : cl.contains a with
  | false => rfl
  | true =>
    have h1 := hs a (List.contains_iff_mem.mp hc)
    simp only [Bool.or_eq_true, Nat.blt_eq] at h1
    omega
/-- nothing changes in the networks but the draft of network q -/
theorem zz_Hc.fr {sl : List (Nat × Nat)} {cl : List Nat} {V : Nat → Nat → Prop} {S S1 : zz_S} {q z : Int} (f : zz_fr sl cl V S S1) (hs : sl.all (fun p => Nat.blt p.1 1001 || Nat.blt 1028 p.1) = true) (hc : cl.all (fun p => Nat.blt p 1001 || Nat.blt 1028 p) = true) (G : zz_G S) (hq : 0 ≤ q ∧ q ≤ 1) (hz : z = 12 * q + S (zz_rf 3 q) 1) (hv : ∀ a i, V a i → a < 1001 ∨ 1028 < a ∨ a = zz_rf 6 z) (h : zz_Hc S) : zz_Hc S1 := by
  have gq := zz_G.r G (zz_rf 3 q) 1 1 11 (zR_k3_1 hq) (zB_k3 hq)
  have hz6 := zz_rf6 (z := z) (by omega)
  have key : ∀ a i, 1001 ≤ a ∧ a ≤ 1028 → a ≠ zz_rf 6 z → S1 a i = S a i := by
    intro a i ha hne
    refine f a i (zz_out1 hs ha) (zz_out2 hc ha) ?_
    intro hV
    have := hv a i hV
    omega
  intro p hp k hk hkt
  have hp3 := zz_rf3 hp
  have gp := zz_G.r G (zz_rf 3 p) 1 1 11 (zR_k3_1 hp) (zB_k3 hp)
  have e1 : S1 (zz_rf 3 p) 1 = S (zz_rf 3 p) 1 := key _ _ (by omega) (by omega)
  rw [e1] at hkt
  have hk6 := zz_rf6 (z := 12 * p + k) (by omega)
  refine zz_ly.same (fun i => key _ i (by omega) ?_) (h p hp k hk hkt)
  intro he
  have he2 : (zz_rf 6 (12 * p + k) : Int) = (zz_rf 6 z : Int) := by rw [he]
  rcases (by omega : p = q ∨ p ≠ q) with rfl | hne
  · omega
  · omega
theorem zz_Hc.drop {S S1 : zz_S} {q : Int} (e : S1 = zz_st S (zz_rf 3 q) 1 1) (hq : 0 ≤ q ∧ q ≤ 1) (G : zz_G S) (h : zz_Hc S) : zz_Hc S1 := by
  intro p hp k hk hkt
  have hp3 := zz_rf3 hp
  have hq3 := zz_rf3 hq
  have gp := zz_G.r G (zz_rf 3 p) 1 1 11 (zR_k3_1 hp) (zB_k3 hp)
  have hlt : k < S (zz_rf 3 p) 1 := by
    by_cases hpq : p = q
    · subst hpq
      rw [zz_rs e] at hkt
      omega
    · rw [zz_ro (b := zz_rf 3 p) (j := 1) e (by omega) rfl] at hkt
      exact hkt
  have hk6 := zz_rf6 (z := 12 * p + k) (by omega)
  exact zz_ly.same (fun i => zz_ro e (by omega) rfl) (h p hp k hk hlt)
theorem zz_Hc.up {S S1 : zz_S} {q v : Int} (e : S1 = zz_st S (zz_rf 3 q) 1 v) (hv : v = S (zz_rf 3 q) 1 + 1) (hq : 0 ≤ q ∧ q ≤ 1) (G : zz_G S) (ht : S (zz_rf 3 q) 1 ≤ 10) (hl : zz_ly S (12 * q + S (zz_rf 3 q) 1)) (h : zz_Hc S) : zz_Hc S1 := by
  intro p hp k hk hkt
  have hp3 := zz_rf3 hp
  have hq3 := zz_rf3 hq
  have gp := zz_G.r G (zz_rf 3 p) 1 1 11 (zR_k3_1 hp) (zB_k3 hp)
  by_cases hpq : p = q
  · subst hpq
    rw [zz_rs e] at hkt
    have hk6 := zz_rf6 (z := 12 * p + k) (by omega)
    refine zz_ly.same (fun i => zz_ro e (by omega) rfl) ?_
    by_cases hke : k = S (zz_rf 3 p) 1
    · rw [hke]; exact hl
    · exact h p hp k hk (by omega)
  · rw [zz_ro (b := zz_rf 3 p) (j := 1) e (by omega) rfl] at hkt
    have hk6 := zz_rf6 (z := 12 * p + k) (by omega)
    exact zz_ly.same (fun i => zz_ro e (by omega) rfl) (h p hp k hk hkt)
/-- a network of the input alone -/
theorem zz_Hc.one {sl : List (Nat × Nat)} {cl : List Nat} {V : Nat → Nat → Prop} {S S1 : zz_S} {q z : Int} (f : zz_fr sl cl V S S1) (hs : sl.all (fun p => Nat.blt p.1 1001 || Nat.blt 1028 p.1) = true) (hc : cl.all (fun p => Nat.blt p 1001 || Nat.blt 1028 p) = true) (G : zz_G S) (hq : 0 ≤ q ∧ q ≤ 1) (hz : z = 12 * q) (hv : ∀ a i, V a i → a < 1001 ∨ 1028 < a ∨ a = zz_rf 3 q ∨ a = zz_rf 6 z) (h1 : S1 (zz_rf 3 q) 1 = 1) (hl : zz_ly S1 z) (h : zz_Hc S) : zz_Hc S1 := by
  have hz6 := zz_rf6 (z := z) (by omega)
  have hq3 := zz_rf3 hq
  have key : ∀ a i, 1001 ≤ a ∧ a ≤ 1028 → a ≠ zz_rf 6 z → a ≠ zz_rf 3 q → S1 a i = S a i := by
    intro a i ha hne hn3
    refine f a i (zz_out1 hs ha) (zz_out2 hc ha) ?_
    intro hV
    have := hv a i hV
    omega
  intro p hp k hk hkt
  have hp3 := zz_rf3 hp
  have gp := zz_G.r G (zz_rf 3 p) 1 1 11 (zR_k3_1 hp) (zB_k3 hp)
  by_cases hpq : p = q
  · subst hpq
    rw [h1] at hkt
    have hk0 : k = 0 := by omega
    subst hk0
    rw [show 12 * p + 0 = z by omega]
    exact hl
  · rw [key (zz_rf 3 p) 1 (by omega) (by omega) (by omega)] at hkt
    have hk6 := zz_rf6 (z := 12 * p + k) (by omega)
    exact zz_ly.same (fun i => key _ i (by omega) (by omega) (by omega)) (h p hp k hk hkt)

/-! What network the class has: network z shows v. By hand. -/
def zn_C (S : zz_S) (z : Int) (v : zn_T) : Prop := S (zz_rf 3 z) 1 = v 15 0 ∧ ∀ k : Int, 0 ≤ k → k < v 15 0 → ∀ s : Nat, s ≤ 13 → S (zz_rf 6 (12 * z + k)) s = v s k.toNat
theorem zn_C.same {S S1 : zz_S} {z : Int} {v : zn_T} (h : zn_C S z v) (h1 : S1 (zz_rf 3 z) 1 = S (zz_rf 3 z) 1) (h2 : ∀ k : Int, 0 ≤ k → k < v 15 0 → ∀ s : Nat, s ≤ 13 → S1 (zz_rf 6 (12 * z + k)) s = S (zz_rf 6 (12 * z + k)) s) : zn_C S1 z v := ⟨h1.trans h.1, fun k k1 k2 s hs => (h2 k k1 k2 s hs).trans (h.2 k k1 k2 s hs)⟩
theorem zn_key {sl : List (Nat × Nat)} {cl : List Nat} {V : Nat → Nat → Prop} {S S1 : zz_S} {q T : Int} (f : zz_fr sl cl V S S1) (hs : sl.all (fun p => Nat.blt p.1 1001 || Nat.blt 1028 p.1) = true) (hc : cl.all (fun p => Nat.blt p 1001 || Nat.blt 1028 p) = true) (hq : 0 ≤ q ∧ q ≤ 1) (hT : 1 ≤ T ∧ T ≤ 11) (hv : ∀ a i, V a i → a < 1001 ∨ 1028 < a ∨ a = zz_rf 6 (12 * q + T) ∨ a = zz_rf 3 q) (k : Int) (k1 : 0 ≤ k) (k2 : k < T) (s : Nat) : S1 (zz_rf 6 (12 * q + k)) s = S (zz_rf 6 (12 * q + k)) s := by
  have h6 := zz_rf6 (z := 12 * q + k) (by omega)
  have hT6 := zz_rf6 (z := 12 * q + T) (by omega)
  have h3 := zz_rf3 hq
  refine f _ s (zz_out1 hs (by omega)) (zz_out2 hc (by omega)) (fun hV => ?_)
  have h := hv _ _ hV
  omega
/-- only the draft changed, or nothing of the networks -/
theorem zn_C.fr {sl : List (Nat × Nat)} {cl : List Nat} {V : Nat → Nat → Prop} {S S1 : zz_S} {q : Int} {v : zn_T} (h : zn_C S q v) (hV : zn_V v) (f : zz_fr sl cl V S S1) (hs : sl.all (fun p => Nat.blt p.1 1001 || Nat.blt 1028 p.1) = true) (hc : cl.all (fun p => Nat.blt p 1001 || Nat.blt 1028 p) = true) (hq : 0 ≤ q ∧ q ≤ 1) (h1 : S1 (zz_rf 3 q) 1 = S (zz_rf 3 q) 1) (hv : ∀ a i, V a i → a < 1001 ∨ 1028 < a ∨ a = zz_rf 6 (12 * q + S (zz_rf 3 q) 1) ∨ a = zz_rf 3 q) : zn_C S1 q v := by
  have hT := hV.1
  refine h.same h1 (fun k k1 k2 s _ => zn_key (T := v 15 0) f hs hc hq ⟨hT.1, hT.2.1⟩ ?_ k k1 k2 s)
  rw [← h.1]
  exact hv
/-- the draft became a layer -/
theorem zn_C.up {sl : List (Nat × Nat)} {cl : List Nat} {V : Nat → Nat → Prop} {S S1 : zz_S} {q T : Int} {v : zn_T} {K a b kh kw st ed sh rl ch ad nm : Int} (h : zn_C S q v) (hV : zn_V v) (f : zz_fr sl cl V S S1) (hs : sl.all (fun p => Nat.blt p.1 1001 || Nat.blt 1028 p.1) = true) (hc : cl.all (fun p => Nat.blt p 1001 || Nat.blt 1028 p) = true) (hq : 0 ≤ q ∧ q ≤ 1) (hT : T = S (zz_rf 3 q) 1) (h1 : S1 (zz_rf 3 q) 1 = T + 1) (hv : ∀ a i, V a i → a < 1001 ∨ 1028 < a ∨ a = zz_rf 6 (12 * q + T) ∨ a = zz_rf 3 q)
    (d0 : S1 (zz_rf 6 (12 * q + T)) 0 = K) (d1 : S1 (zz_rf 6 (12 * q + T)) 1 = a) (d2 : S1 (zz_rf 6 (12 * q + T)) 2 = b) (d3 : S1 (zz_rf 6 (12 * q + T)) 3 = kh) (d4 : S1 (zz_rf 6 (12 * q + T)) 4 = kw) (d5 : S1 (zz_rf 6 (12 * q + T)) 5 = st) (d6 : S1 (zz_rf 6 (12 * q + T)) 6 = ed) (d7 : S1 (zz_rf 6 (12 * q + T)) 7 = sh) (d8 : S1 (zz_rf 6 (12 * q + T)) 8 = rl) (d9 : S1 (zz_rf 6 (12 * q + T)) 9 = ad) (d10 : S1 (zz_rf 6 (12 * q + T)) 10 = zn_out K kh st ed (v 10 a.toNat)) (d11 : S1 (zz_rf 6 (12 * q + T)) 11 = zn_out K kw st ed (v 11 a.toNat)) (d12 : S1 (zz_rf 6 (12 * q + T)) 12 = zn_ch K ch (v 12 a.toNat)) (d13 : S1 (zz_rf 6 (12 * q + T)) 13 = v 15 1) : zn_C S1 q (zn_nw v K a b kh kw st ed sh rl ch ad nm) := by
  have hT2 := hV.1
  have hTv : T = v 15 0 := hT.trans h.1
  have e0 : zn_nw v K a b kh kw st ed sh rl ch ad nm 15 0 = v 15 0 + 1 := rfl
  refine ⟨by rw [h1, e0, hTv], fun k k1 k2 s hs2 => ?_⟩
  rw [e0] at k2
  rcases (by omega : k < T ∨ k = T) with e | e
  · rw [zn_key (T := T) f hs hc hq (by omega) hv k k1 e s, h.2 k k1 (by omega) s hs2, zn_nwo (v := v) (s := s) (k := k.toNat) (by omega) (by omega)]
  · rw [e, zn_nwN (v := v) (s := s) (k := T.toNat) (by omega) (by omega)]
    rcases (by omega : s = 0 ∨ s = 1 ∨ s = 2 ∨ s = 3 ∨ s = 4 ∨ s = 5 ∨ s = 6 ∨ s = 7 ∨ s = 8 ∨ s = 9 ∨ s = 10 ∨ s = 11 ∨ s = 12 ∨ s = 13) with e | e | e | e | e | e | e | e | e | e | e | e | e | e
    · rw [e]
      exact d0
    · rw [e]
      exact d1
    · rw [e]
      exact d2
    · rw [e]
      exact d3
    · rw [e]
      exact d4
    · rw [e]
      exact d5
    · rw [e]
      exact d6
    · rw [e]
      exact d7
    · rw [e]
      exact d8
    · rw [e]
      exact d9
    · rw [e]
      exact d10
    · rw [e]
      exact d11
    · rw [e]
      exact d12
    · rw [e]
      exact d13
theorem zn_Cs {S : zz_S} {z : Int} {v : zn_T} (h : zn_C S z v) {k : Int} (k1 : 0 ≤ k) (k2 : k < S (zz_rf 3 z) 1) (s : Nat) (hs : s ≤ 13) : S (zz_rf 6 (12 * z + k)) s = v s k.toNat := h.2 k k1 (by rw [← h.1]; exact k2) s hs
/-- its forms -/
theorem zn_Cf {S : zz_S} {z : Int} {v : zn_T} (h : zn_C S z v) (hV : zn_V v) {k : Int} (k1 : 0 ≤ k) (k2 : k < S (zz_rf 3 z) 1) : (1 ≤ S (zz_rf 6 (12 * z + k)) 10 ∧ S (zz_rf 6 (12 * z + k)) 10 ≤ 63) ∧ (1 ≤ S (zz_rf 6 (12 * z + k)) 11 ∧ S (zz_rf 6 (12 * z + k)) 11 ≤ 63) ∧ (1 ≤ S (zz_rf 6 (12 * z + k)) 12 ∧ S (zz_rf 6 (12 * z + k)) 12 ≤ 63) ∧ 0 ≤ S (zz_rf 6 (12 * z + k)) 13 ∧ S (zz_rf 6 (12 * z + k)) 13 + (S (zz_rf 6 (12 * z + k)) 10 * S (zz_rf 6 (12 * z + k)) 11) * S (zz_rf 6 (12 * z + k)) 12 ≤ v 15 1 := by
  have g := hV.2.1 k k1 (by rw [← h.1]; exact k2)
  unfold zn_sz at g
  rw [zn_Cs h k1 k2 10 (by decide), zn_Cs h k1 k2 11 (by decide), zn_Cs h k1 k2 12 (by decide), zn_Cs h k1 k2 13 (by decide)]
  exact g
theorem zn_inC {S : zz_S} {z a b : Int} {v : zn_T} (h : zn_C S z v) : zn_in v a b ↔ (0 ≤ a ∧ a < S (zz_rf 3 z) 1) ∧ 0 ≤ b ∧ b < S (zz_rf 3 z) 1 := by
  unfold zn_in
  rw [h.1]
theorem zn_rsC {S : zz_S} {z K a b kh kw st ed ch ad : Int} {v : zn_T} (h : zn_C S z v) (hi : zn_in v a b) : zn_rs v K a b kh kw st ed ch ad ↔ zn_res K kh kw st ed ch ad (S (zz_rf 6 (12 * z + a)) 10) (S (zz_rf 6 (12 * z + a)) 11) (S (zz_rf 6 (12 * z + a)) 12) (S (zz_rf 6 (12 * z + b)) 10) (S (zz_rf 6 (12 * z + b)) 11) (S (zz_rf 6 (12 * z + b)) 12) := by
  have i := (zn_inC h).mp hi
  rw [zn_Cs h i.1.1 i.1.2 10 (by decide), zn_Cs h i.1.1 i.1.2 11 (by decide), zn_Cs h i.1.1 i.1.2 12 (by decide), zn_Cs h i.2.1 i.2.2 10 (by decide), zn_Cs h i.2.1 i.2.2 11 (by decide), zn_Cs h i.2.1 i.2.2 12 (by decide)]
  exact Iff.rfl
theorem zn_nzC {S : zz_S} {z K a kh kw st ed ch : Int} {v : zn_T} (h : zn_C S z v) (i1 : 0 ≤ a) (i2 : a < S (zz_rf 3 z) 1) : zn_nz v K a kh kw st ed ch = (zn_out K kh st ed (S (zz_rf 6 (12 * z + a)) 10) * zn_out K kw st ed (S (zz_rf 6 (12 * z + a)) 11)) * zn_ch K ch (S (zz_rf 6 (12 * z + a)) 12) := by
  rw [zn_Cs h i1 i2 10 (by decide), zn_Cs h i1 i2 11 (by decide), zn_Cs h i1 i2 12 (by decide)]
  rfl
/-- the end of all: the greatest so far -/
def zn_mx (S : zz_S) (z x k : Int) : Prop := ∀ v : zn_T, zn_C S z v → zn_V v → (0 ≤ x ∧ x ≤ v 15 1) ∧ ∀ i : Int, 0 ≤ i → i < k → v 13 i.toNat + zn_sz v i.toNat ≤ x
theorem zn_mx0 {S : zz_S} {z : Int} : zn_mx S z 0 0 := by
  intro v hC hV
  obtain ⟨q, q1, q2, q3⟩ := hV.2.2
  have g := hV.2.1 q q1 q2
  have p : 1 ≤ zn_sz v q.toNat := zn_mul3 g.1.1 g.2.1.1 g.2.2.1.1
  exact ⟨by omega, fun i i1 i2 => by omega⟩
theorem zn_mxS {S : zz_S} {z x k m b w : Int} (h : zn_mx S z x k) (k1 : 0 ≤ k) (k2 : k < S (zz_rf 3 z) 1) (hw : ((1 ≤ S (zz_rf 6 (12 * z + k)) 10 ∧ S (zz_rf 6 (12 * z + k)) 10 ≤ 63) ∧ (1 ≤ S (zz_rf 6 (12 * z + k)) 11 ∧ S (zz_rf 6 (12 * z + k)) 11 ≤ 63) ∧ (1 ≤ S (zz_rf 6 (12 * z + k)) 12 ∧ S (zz_rf 6 (12 * z + k)) 12 ≤ 63)) → w = (S (zz_rf 6 (12 * z + k)) 10 * S (zz_rf 6 (12 * z + k)) 11) * S (zz_rf 6 (12 * z + k)) 12) (hb : -2147483648 ≤ S (zz_rf 6 (12 * z + k)) 13 + w ∧ S (zz_rf 6 (12 * z + k)) 13 + w ≤ 2147483647 → b = S (zz_rf 6 (12 * z + k)) 13 + w) (h1 : x ≤ m) (h2 : b ≤ m) (h3 : m = x ∨ m = b) : zn_mx S z m (k + 1) := by
  intro v hC hV
  have g := zn_Cf hC hV k1 k2
  have e := hw ⟨g.1, g.2.1, g.2.2.1⟩
  have p := zn_mul3 g.1.1 g.2.1.1 g.2.2.1.1
  have u := hV.1
  have eb := hb (by omega)
  have o := h v hC hV
  refine ⟨by omega, fun i i1 i2 => ?_⟩
  rcases (by omega : i = k ∨ i < k) with q | q
  · unfold zn_sz
    rw [q, ← zn_Cs hC k1 k2 10 (by decide), ← zn_Cs hC k1 k2 11 (by decide), ← zn_Cs hC k1 k2 12 (by decide), ← zn_Cs hC k1 k2 13 (by decide)]
    omega
  · have := o.2 i i1 q
    omega
theorem zn_mxE {S : zz_S} {z x k : Int} (h : zn_mx S z x k) (hk : S (zz_rf 3 z) 1 ≤ k) : ∀ v : zn_T, zn_C S z v → zn_V v → x = v 15 1 := by
  intro v hC hV
  have o := h v hC hV
  obtain ⟨q, q1, q2, q3⟩ := hV.2.2
  have := o.2 q q1 (by have := hC.1; omega)
  omega
theorem zn_E0 {v : zn_T} (hV : zn_V v) : 1 ≤ v 15 1 ∧ v 15 1 ≤ 2048 := by
  obtain ⟨q, q1, q2, q3⟩ := hV.2.2
  have g := hV.2.1 q q1 q2
  have p : 1 ≤ zn_sz v q.toNat := zn_mul3 g.1.1 g.2.1.1 g.2.2.1.1
  have u := hV.1
  omega
/-- the draft's size is that of the new layer -/
theorem zn_ofS {S S1 : zz_S} {q y K a b kh kw st ed sh ch ad w : Int} {v : zn_T} (hC : zn_C S q v) (hV : zn_V v) (hK : K = 1 ∨ K = 2 ∨ K = 3) (hi : zn_in v a b) (hf : zn_fit K kh kw st ed sh ch) (hr : zn_res K kh kw st ed ch ad (S (zz_rf 6 (12 * q + a)) 10) (S (zz_rf 6 (12 * q + a)) 11) (S (zz_rf 6 (12 * q + a)) 12) (S (zz_rf 6 (12 * q + b)) 10) (S (zz_rf 6 (12 * q + b)) 11) (S (zz_rf 6 (12 * q + b)) 12)) (e10 : S1 (zz_rf 6 y) 10 = zn_out K kh st ed (S (zz_rf 6 (12 * q + a)) 10)) (e11 : S1 (zz_rf 6 y) 11 = zn_out K kw st ed (S (zz_rf 6 (12 * q + a)) 11)) (e12 : S1 (zz_rf 6 y) 12 = zn_ch K ch (S (zz_rf 6 (12 * q + a)) 12)) (hw : ((1 ≤ S1 (zz_rf 6 y) 10 ∧ S1 (zz_rf 6 y) 10 ≤ 63) ∧ (1 ≤ S1 (zz_rf 6 y) 11 ∧ S1 (zz_rf 6 y) 11 ≤ 63) ∧ (1 ≤ S1 (zz_rf 6 y) 12 ∧ S1 (zz_rf 6 y) 12 ≤ 63)) → w = (S1 (zz_rf 6 y) 10 * S1 (zz_rf 6 y) 11) * S1 (zz_rf 6 y) 12) : w = zn_nz v K a kh kw st ed ch ∧ 1 ≤ w ∧ w ≤ 250047 := by
  have i := (zn_inC hC).mp hi
  have g := zn_Cf hC hV i.1.1 i.1.2
  have f := zn_frm g.1 g.2.1 g.2.2.1 hf hK hr
  have e := hw (by rw [e10, e11, e12]; exact f)
  rw [e10, e11, e12] at e
  have m1 := zz_mulb (a := zn_out K kh st ed (S (zz_rf 6 (12 * q + a)) 10)) (b := zn_out K kw st ed (S (zz_rf 6 (12 * q + a)) 11)) 63 63 3969 (by omega) (by omega) (by decide)
  have m2 := zz_mulb (a := zn_out K kh st ed (S (zz_rf 6 (12 * q + a)) 10) * zn_out K kw st ed (S (zz_rf 6 (12 * q + a)) 11)) (b := zn_ch K ch (S (zz_rf 6 (12 * q + a)) 12)) 3969 63 250047 (by omega) (by omega) (by decide)
  have p := zn_mul3 f.1.1 f.2.1.1 f.2.2.1
  rw [zn_nzC hC i.1.1 i.1.2]
  exact ⟨e, by omega, by omega⟩
theorem zn_C.ip {S : zz_S} {z h w c nm : Int} (hT : S (zz_rf 3 z) 1 = 1) (d0 : S (zz_rf 6 (12 * z + 0)) 0 = 0) (d1 : S (zz_rf 6 (12 * z + 0)) 1 = 0) (d2 : S (zz_rf 6 (12 * z + 0)) 2 = 0) (d3 : S (zz_rf 6 (12 * z + 0)) 3 = 1) (d4 : S (zz_rf 6 (12 * z + 0)) 4 = 1) (d5 : S (zz_rf 6 (12 * z + 0)) 5 = 1) (d6 : S (zz_rf 6 (12 * z + 0)) 6 = 0) (d7 : S (zz_rf 6 (12 * z + 0)) 7 = 0) (d8 : S (zz_rf 6 (12 * z + 0)) 8 = 0) (d9 : S (zz_rf 6 (12 * z + 0)) 9 = 0) (d10 : S (zz_rf 6 (12 * z + 0)) 10 = h) (d11 : S (zz_rf 6 (12 * z + 0)) 11 = w) (d12 : S (zz_rf 6 (12 * z + 0)) 12 = c) (d13 : S (zz_rf 6 (12 * z + 0)) 13 = 0) : zn_C S z (zn_ip h w c nm) := by
  refine ⟨hT, fun k k1 k2 s hs => ?_⟩
  have e0 : zn_ip h w c nm 15 0 = 1 := rfl
  have e : k = 0 := by omega
  subst e
  rcases (by omega : s = 0 ∨ s = 1 ∨ s = 2 ∨ s = 3 ∨ s = 4 ∨ s = 5 ∨ s = 6 ∨ s = 7 ∨ s = 8 ∨ s = 9 ∨ s = 10 ∨ s = 11 ∨ s = 12 ∨ s = 13) with rfl | rfl | rfl | rfl | rfl | rfl | rfl | rfl | rfl | rfl | rfl | rfl | rfl | rfl
  · exact d0
  · exact d1
  · exact d2
  · exact d3
  · exact d4
  · exact d5
  · exact d6
  · exact d7
  · exact d8
  · exact d9
  · exact d10
  · exact d11
  · exact d12
  · exact d13
theorem zn_C.dp {S S1 : zz_S} {z : Int} {v : zn_T} (h : zn_C S z v) (hV : zn_V v) (hT : S1 (zz_rf 3 z) 1 = 1) (hs : ∀ s : Nat, s ≤ 13 → S1 (zz_rf 6 (12 * z + 0)) s = S (zz_rf 6 (12 * z + 0)) s) : zn_C S1 z (zn_dp v) := by
  refine ⟨hT, fun k k1 k2 s h2 => ?_⟩
  have e0 : zn_dp v 15 0 = 1 := rfl
  have hV1 := hV.1
  have e : k = 0 := by omega
  subst e
  have e2 : zn_dp v s (0 : Int).toNat = v s (0 : Int).toNat := if_neg (by omega)
  rw [e2, hs s h2, h.2 0 (by decide) (by omega) s h2]
/-- the draft shows what the options told (k = 0: an input's line, which has none) -/
def zn_D8 (S : zz_S) (Z : Int) (o : Nat → Int) : Prop := S (zz_rf 6 Z) 3 = o 1 ∧ S (zz_rf 6 Z) 4 = o 2 ∧ S (zz_rf 6 Z) 12 = o 3 ∧ S (zz_rf 6 Z) 9 = o 4 ∧ S (zz_rf 6 Z) 5 = o 5 ∧ S (zz_rf 6 Z) 6 = o 6 ∧ S (zz_rf 6 Z) 7 = o 7 ∧ S (zz_rf 6 Z) 8 = o 8
def zn_DS (k : Int) (S : zz_S) (Z : Int) (f : Nat → Int) (n : Int) (o : Nat → Int) : Prop := (k ≠ 0 → zn_D8 S Z o) ∧ zt_N1 f n (S 1073 4) (S 1073 5) (o 9)
theorem zn_DS.same {k : Int} {S S1 : zz_S} {Z : Int} {f : Nat → Int} {n : Int} {o : Nat → Int} (h : zn_DS k S Z f n o) (hs : ∀ i : Nat, S1 (zz_rf 6 Z) i = S (zz_rf 6 Z) i) (h4 : S1 1073 4 = S 1073 4) (h5 : S1 1073 5 = S 1073 5) : zn_DS k S1 Z f n o := by
  refine ⟨fun hk => ?_, by rw [h4, h5]; exact h.2⟩
  have g := h.1 hk
  unfold zn_D8 at g ⊢
  rw [hs 3, hs 4, hs 12, hs 9, hs 5, hs 6, hs 7, hs 8]
  exact g
theorem zn_DS0 {k : Int} {S S1 : zz_S} {Z : Int} {f : Nat → Int} {n : Int} (h : k ≠ 0 → zn_D8 S Z zn_o0) (hs : ∀ i : Nat, S1 (zz_rf 6 Z) i = S (zz_rf 6 Z) i) (h5 : S1 1073 5 = 0) : zn_DS k S1 Z f n zn_o0 := by
  refine ⟨fun hk => ?_, ?_⟩
  · have g := h hk
    unfold zn_D8 at g ⊢
    rw [hs 3, hs 4, hs 12, hs 9, hs 5, hs 6, hs 7, hs 8]
    exact g
  · rw [h5]
    exact ⟨⟨by decide, by decide⟩, fun x => absurd x (by decide), fun i h1 h2 => by omega, rfl⟩
/-- a layer's line up to its options -/
def zn_RL (tk te tv wc : Int → Int) (N : Nat → Int) (S : zz_S) (Z p r : Int) : Prop := zn_kd (tk p) (wc p) ≠ 0 ∧ S 1073 6 = zn_ma (zn_kd (tk p) (wc p)) ∧ S 1073 7 = zn_nd (zn_kd (tk p) (wc p)) ∧ S (zz_rf 6 Z) 0 = zn_kd (tk p) (wc p) ∧ S (zz_rf 6 Z) 1 = zn_m1 tk te tv wc N p ∧ S (zz_rf 6 Z) 2 = zn_m2 tk te tv wc N p ∧ zn_D8 S Z zn_o0 ∧ S 1070 3 = zn_l3 tk te wc p ∧ ((r = 1 ∧ zn_m1 tk te tv wc N p ≠ -1 ∧ zn_m2 tk te tv wc N p ≠ -1) ∨ (r = 0 ∧ ¬ (zn_m1 tk te tv wc N p ≠ -1 ∧ zn_m2 tk te tv wc N p ≠ -1)))
/-! A whole line, a whole text. -/
theorem zn_kcl {f : Nat → Int} {e a : Int} : zn_cl (zt_kn f e) (zt_te f e) (zt_kc f e) a e := by
  intro p h1 h2
  have g := zt_tke (g := f) h2 (fun i _ _ => rfl)
  exact ⟨g.2.2.2.1, g.2.2.2.2, fun h => by have := zt_kcp h h2; omega⟩
theorem zn_l3c {tk te wc : Int → Int} {a e p : Int} (h : zn_cl tk te wc a e) (hp : a ≤ p ∧ p ≤ e) : a ≤ zn_l3 tk te wc p ∧ zn_l3 tk te wc p ≤ e := by
  have x := h p hp.1 hp.2
  have y := h (te p) (by omega) (by omega)
  have w := h (te (te p)) (by omega) (by omega)
  unfold zn_l3
  split
  · omega
  · omega
/-- what options a layer's line comes to, with eleven names -/
noncomputable def zn_R (tk te tv wc : Int → Int) (N : Nat → Int) (p : Int) : Nat → Int := zt_no tk te tv wc (zn_al (zn_kd (tk p) (wc p))) N 11 1600 (tk (zn_l3 tk te wc p)) (wc (zn_l3 tk te wc p)) (te (zn_l3 tk te wc p)) zn_o0
theorem zn_lo11 {tk te tv wc : Int → Int} {v : zn_T} {a e p : Int} (hz : zn_nz0 v) (h1 : v 15 0 ≤ 11) (h : zn_cl tk te wc a e) (hp : a ≤ p ∧ p ≤ e) : zn_l1 tk te tv wc v p = zn_m1 tk te tv wc (v 14) p ∧ zn_l2 tk te tv wc v p = zn_m2 tk te tv wc (v 14) p ∧ zn_lo tk te tv wc v p = zn_R tk te tv wc (v 14) p := by
  have x := h p hp.1 hp.2
  have y := h (te p) (by omega) (by omega)
  have w := h (te (te p)) (by omega) (by omega)
  have l := zn_l11 (tk := tk) (te := te) (tv := tv) (wc := wc) (p := p) hz h1 (fun q hq => by
    rcases hq with e1 | e1
    · rw [e1]
      exact y.2.2
    · rw [e1]
      exact w.2.2)
  have l3 := zn_l3c h hp
  have l4 := h _ l3.1 l3.2
  exact ⟨l.1, l.2, zn_no11 hz h1 h 1600 _ _ _ _ (by omega) (by omega)⟩
theorem zn_lineN0 {tk te tv wc : Int → Int} {v : zn_T} {p : Int} (h : zn_kd (tk p) (wc p) = 0) : ¬ zn_lg tk te tv wc v p := fun g => g.1 h
theorem zn_lineN1 {tk te tv wc : Int → Int} {v : zn_T} {a e p Z : Int} {S : zz_S} (hz : zn_nz0 v) (h1 : v 15 0 ≤ 11) (hc : zn_cl tk te wc a e) (hp : a ≤ p ∧ p ≤ e) (h : zn_RL tk te tv wc (v 14) S Z p 0) : ¬ zn_lg tk te tv wc v p := by
  have l := zn_lo11 (tv := tv) hz h1 hc hp
  intro g
  rcases h.2.2.2.2.2.2.2.2 with x | x
  · exact absurd x.1 (by decide)
  · refine x.2 ⟨?_, ?_⟩
    · rw [← l.1]
      exact g.2.1
    · rw [← l.2.1]
      exact g.2.2.1
theorem zn_lineN2 {tk te tv wc : Int → Int} {v : zn_T} {a e p : Int} (hz : zn_nz0 v) (h1 : v 15 0 ≤ 11) (hc : zn_cl tk te wc a e) (hp : a ≤ p ∧ p ≤ e) (h : ¬ (zn_R tk te tv wc (v 14) p 0 = 1 ∧ zn_ne (zn_kd (tk p) (wc p)) (zn_R tk te tv wc (v 14) p))) : ¬ zn_lg tk te tv wc v p := by
  have l := zn_lo11 (tv := tv) hz h1 hc hp
  intro g
  refine h ⟨?_, ?_⟩
  · rw [← l.2.2]
    exact g.2.2.2.1
  · rw [← l.2.2]
    exact g.2.2.2.2.1
/-- an option that may not be told changes nothing -/
theorem zn_no6 {tk te tv wc : Int → Int} {A : Int → Prop} {N : Nat → Int} {T : Nat} (ha : ¬ A 5) (k : Nat) : ∀ (d w p : Int) (o : Nat → Int), o 6 = 0 → zt_no tk te tv wc A N T k d w p o 6 = 0 := by
  induction k with
  | zero =>
    intro d w p o h
    exact h
  | succ k ih =>
    intro d w p o h
    by_cases hd : d = 0
    · rw [zt_no0 hd]
      exact h
    · by_cases hb : zt_ob d w = 0 ∨ ¬ A (zt_ob d w) ∨ o (10 + (zt_ob d w).toNat) = 1 ∨ ¬ zt_og tk te wc N T (zt_ob d w) p
      · rw [zt_noN hd hb]
        exact h
      · rw [zt_noS hd hb]
        refine ih _ _ _ _ ?_
        have h5 : zt_ob d w ≠ 5 := fun e => hb (Or.inr (Or.inl (by rw [e]; exact ha)))
        have e3 : zt_ou te tv wc (zt_ob d w) p o 6 = o 6 := by
          have b := zt_obb d w
          unfold zt_ou
          rw [if_neg (by omega), if_neg (by omega), if_neg (by omega), if_neg (by omega), if_neg (by omega), if_neg (by omega)]
        rw [e3]
        exact h
theorem zn_ed0 {tk te tv wc : Int → Int} {N : Nat → Int} {p Z : Int} {S : zz_S} (d : zn_D8 S Z (zn_R tk te tv wc N p)) : zn_kd (tk p) (wc p) = 2 → S (zz_rf 6 Z) 6 = 0 := by
  intro h
  rw [d.2.2.2.2.2.1]
  exact zn_no6 (by unfold zn_al; omega) 1600 _ _ _ zn_o0 rfl
/-- what the draft is when it is offered -/
theorem zn_dft {tk te tv wc : Int → Int} {N : Nat → Int} {p Z n : Int} {f : Nat → Int} {S S1 : zz_S} (h : zn_RL tk te tv wc N S Z p 1) (hd : zn_DS (zn_kd (tk p) (wc p)) S1 Z f n (zn_R tk te tv wc N p)) (e0 : S1 (zz_rf 6 Z) 0 = S (zz_rf 6 Z) 0) (e1 : S1 (zz_rf 6 Z) 1 = S (zz_rf 6 Z) 1) (e2 : S1 (zz_rf 6 Z) 2 = S (zz_rf 6 Z) 2) : S1 (zz_rf 6 Z) 0 = zn_kd (tk p) (wc p) ∧ S1 (zz_rf 6 Z) 1 = zn_m1 tk te tv wc N p ∧ S1 (zz_rf 6 Z) 2 = zn_m2 tk te tv wc N p ∧ zn_D8 S1 Z (zn_R tk te tv wc N p) :=
  ⟨e0.trans h.2.2.2.1, e1.trans h.2.2.2.2.1, e2.trans h.2.2.2.2.2.1, hd.1 h.1⟩
theorem zn_lineN3 {tk te tv wc : Int → Int} {v : zn_T} {a e p Z r : Int} {S1 : zz_S} (hz : zn_nz0 v) (h1 : v 15 0 ≤ 11) (hc : zn_cl tk te wc a e) (hp : a ≤ p ∧ p ≤ e) (d : S1 (zz_rf 6 Z) 0 = zn_kd (tk p) (wc p) ∧ S1 (zz_rf 6 Z) 1 = zn_m1 tk te tv wc (v 14) p ∧ S1 (zz_rf 6 Z) 2 = zn_m2 tk te tv wc (v 14) p ∧ zn_D8 S1 Z (zn_R tk te tv wc (v 14) p)) (h : zn_F v (S1 (zz_rf 6 Z) 0) (S1 (zz_rf 6 Z) 1) (S1 (zz_rf 6 Z) 2) (S1 (zz_rf 6 Z) 3) (S1 (zz_rf 6 Z) 4) (S1 (zz_rf 6 Z) 5) (S1 (zz_rf 6 Z) 6) (S1 (zz_rf 6 Z) 7) (S1 (zz_rf 6 Z) 12) (S1 (zz_rf 6 Z) 9) r) (hr : r ≠ 0) : ¬ zn_lg tk te tv wc v p := by
  have l := zn_lo11 (tv := tv) hz h1 hc hp
  obtain ⟨d0, d1, d2, d3, d4, d12, d9, d5, d6, d7, d8⟩ := d
  rw [d0, d1, d2, d3, d4, d5, d6, d7, d12, d9] at h
  intro g
  have g6 := g.2.2.2.2.2
  rw [l.1, l.2.1, l.2.2] at g6
  exact hr (zn_Fu h g6)
theorem zn_lineY {tk te tv wc : Int → Int} {v : zn_T} {a e p Z z n : Int} {f : Nat → Int} {S1 S2 : zz_S} (hz : zn_nz0 v) (h1 : v 15 0 ≤ 11) (hc : zn_cl tk te wc a e) (hp : a ≤ p ∧ p ≤ e) (hk : zn_kd (tk p) (wc p) ≠ 0) (hm : zn_m1 tk te tv wc (v 14) p ≠ -1 ∧ zn_m2 tk te tv wc (v 14) p ≠ -1) (ho : zn_R tk te tv wc (v 14) p 0 = 1 ∧ zn_ne (zn_kd (tk p) (wc p)) (zn_R tk te tv wc (v 14) p)) (d : S1 (zz_rf 6 Z) 0 = zn_kd (tk p) (wc p) ∧ S1 (zz_rf 6 Z) 1 = zn_m1 tk te tv wc (v 14) p ∧ S1 (zz_rf 6 Z) 2 = zn_m2 tk te tv wc (v 14) p ∧ zn_D8 S1 Z (zn_R tk te tv wc (v 14) p)) (h : zn_F v (S1 (zz_rf 6 Z) 0) (S1 (zz_rf 6 Z) 1) (S1 (zz_rf 6 Z) 2) (S1 (zz_rf 6 Z) 3) (S1 (zz_rf 6 Z) 4) (S1 (zz_rf 6 Z) 5) (S1 (zz_rf 6 Z) 6) (S1 (zz_rf 6 Z) 7) (S1 (zz_rf 6 Z) 12) (S1 (zz_rf 6 Z) 9) 0) (hS : ∀ nm : Int, zn_C S2 z (zn_nw v (S1 (zz_rf 6 Z) 0) (S1 (zz_rf 6 Z) 1) (S1 (zz_rf 6 Z) 2) (S1 (zz_rf 6 Z) 3) (S1 (zz_rf 6 Z) 4) (S1 (zz_rf 6 Z) 5) (S1 (zz_rf 6 Z) 6) (S1 (zz_rf 6 Z) 7) (S1 (zz_rf 6 Z) 8) (S1 (zz_rf 6 Z) 12) (S1 (zz_rf 6 Z) 9) nm)) : zn_lg tk te tv wc v p ∧ zn_C S2 z (zn_lv tk te tv wc v p) ∧ zn_lv tk te tv wc v p 14 (v 15 0).toNat = zn_R tk te tv wc (v 14) p 9 ∧ (∀ i : Nat, (i : Int) < v 15 0 → zn_lv tk te tv wc v p 14 i = v 14 i) ∧ zn_lv tk te tv wc v p 15 0 = v 15 0 + 1 := by
  have l := zn_lo11 (tv := tv) hz h1 hc hp
  obtain ⟨d0, d1, d2, d3, d4, d12, d9, d5, d6, d7, d8⟩ := d
  rw [d0, d1, d2, d3, d4, d5, d6, d7, d12, d9] at h
  refine ⟨?_, ?_, ?_, fun i hi => zn_nwo (by decide) hi, rfl⟩
  · unfold zn_lg
    rw [l.1, l.2.1, l.2.2]
    exact ⟨hk, hm.1, hm.2, ho.1, ho.2, h⟩
  · have g := hS (zn_R tk te tv wc (v 14) p 9)
    rw [d0, d1, d2, d3, d4, d5, d6, d7, d8, d12, d9] at g
    unfold zn_lv
    rw [l.1, l.2.1, l.2.2]
    exact g
  · unfold zn_lv
    rw [l.2.2]
    have g : zn_in v (zn_l1 tk te tv wc v p) (zn_l2 tk te tv wc v p) := by
      rw [l.1, l.2.1]
      rcases h with x | x | x | x
      · exact absurd x.1 (by decide)
      · exact absurd x.1 (by decide)
      · exact absurd x.1 (by decide)
      · exact x.2.1
    exact (zn_nwN (by have := g.1; omega) (by decide)).trans rfl
/-- the names behind a line -/
theorem zt_NMup {f a b a1 b1 : Nat → Int} {n : Int} {N N1 : Nat → Int} {T : Nat} (h : zt_NM f a b n N) (hT : T < 11) (ha : ∀ i : Nat, i ≠ T → a1 i = a i) (hb : ∀ i : Nat, i ≠ T → b1 i = b i) (hn : ∀ i : Nat, i < T → N1 i = N i) (h0 : ∀ i : Nat, T ≤ i → i < 11 → N i = 0) (h1 : ∀ i : Nat, T < i → i < 11 → N1 i = 0) (hw : zt_N1 f n (a1 T) (b1 T) (N1 T)) (hu : N1 T = 0 ∨ zt_nf N (N1 T) 11 = -1) : zt_NM f a1 b1 n N1 := by
  have nf : ∀ (w : Int) (k : Nat), zt_nf N w k = -1 → ∀ i : Nat, i < k → N i ≠ w := by
    intro w k
    induction k with
    | zero =>
      intro _ i hi
      omega
    | succ k ih =>
      intro g i hi
      have g1 : (if N k = w then (k : Int) else zt_nf N w k) = -1 := g
      by_cases hk : N k = w
      · rw [if_pos hk] at g1
        omega
      · rw [if_neg hk] at g1
        rcases (by omega : i = k ∨ i < k) with e | e
        · rw [e]
          exact hk
        · exact ih g1 i e
  refine ⟨fun k hk => ?_, fun i k hi hk hne => ?_⟩
  · rcases (by omega : k = T ∨ k < T ∨ T < k) with e | e | e
    · rw [e]
      exact hw
    · rw [ha k (by omega), hb k (by omega), hn k e]
      exact h.1 k hk
    · have g := h.1 k hk
      rw [ha k (by omega), hb k (by omega), h1 k e hk, ← h0 k (by omega) hk]
      exact g
  · rcases (by omega : k = T ∨ k < T ∨ T < k) with e | e | e
    · rw [e]
      rw [hn i (by omega)] at hne ⊢
      rcases hu with u | u
      · rw [u]
        exact hne
      · exact nf _ 11 u i (by omega)
    · rw [hn i (by omega)] at hne ⊢
      rw [hn k e]
      exact h.2 i k hi hk hne
    · rw [h1 k e hk]
      exact hne
/-- a text under way: b an input was there, line q begins at a -/
def zn_RI (f : Nat → Int) (n z : Int) (b q a : Int) (S : zz_S) (res : Int × zn_T) : Prop := ∃ v : zn_T, zn_nt f n (1502 - q).toNat a q b v = res ∧ (b = 1 → zn_V v ∧ zn_C S z v ∧ zt_NM f (S 1074) (S 1075) n (v 14) ∧ zn_nz0 v) ∧ (b = 0 → ∀ i : Nat, i < 11 → S 1075 i = 0)
theorem zn_RI0 {f : Nat → Int} {n z a : Int} {S : zz_S} (ha : a = 0) (h : ∀ i : Nat, i < 11 → S 1075 i = 0) : zn_RI f n z 0 0 a S (zn_nt f n 1502 0 0 0 zn_v0) := by
  subst ha
  exact ⟨zn_v0, rfl, fun x => absurd x (by decide), fun _ => h⟩
theorem zn_RIB {f : Nat → Int} {n z a b q e a1 q1 : Int} {S S1 : zz_S} {res : Int × zn_T} (h : zn_RI f n z b q a S res) (hq : 0 ≤ q ∧ q ≤ 1500) (ha : a ≤ n) (he : e = zt_U 10 f n a) (h0 : zt_kn f e a = 0) (ea : a1 = e + 1) (eq : q1 = q + 1) (hC : ∀ v : zn_T, zn_V v → zn_C S z v → zn_C S1 z v) (h4 : S1 1074 = S 1074) (h5 : S1 1075 = S 1075) : zn_RI f n z b q1 a1 S1 res := by
  obtain ⟨v, h1, h2, h3⟩ := h
  subst ea eq
  refine ⟨v, ?_, fun x => ?_, fun x => ?_⟩
  · rw [show (1502 - q).toNat = (1502 - (q + 1)).toNat + 1 by omega, zn_ntB (by omega) he h0] at h1
    exact h1
  · obtain ⟨g1, g2, g3, g4⟩ := h2 x
    rw [h4, h5]
    exact ⟨g1, hC v g1 g2, g3, g4⟩
  · rw [h5]
    exact h3 x
theorem zn_RIE {f : Nat → Int} {n z a b q : Int} {S : zz_S} {res : Int × zn_T} (h : zn_RI f n z b q a S res) (hq : 0 ≤ q ∧ q ≤ 1501) (ha : n < a) : (b = 1 → res.1 = -1 ∧ zn_V res.2 ∧ zn_C S z res.2) ∧ (b = 0 → res.1 = q) := by
  obtain ⟨v, h1, h2, h3⟩ := h
  rw [show (1502 - q).toNat = (1502 - (q + 1)).toNat + 1 by omega, zn_ntE ha] at h1
  subst h1
  refine ⟨fun x => ?_, fun x => ?_⟩
  · obtain ⟨g1, g2, g3, g4⟩ := h2 x
    exact ⟨if_pos x, g1, g2⟩
  · exact if_neg (by omega)
theorem zn_RIN {f : Nat → Int} {n z a q e : Int} {S : zz_S} {res : Int × zn_T} (h : zn_RI f n z 1 q a S res) (hq : 0 ≤ q ∧ q ≤ 1500) (ha : a ≤ n) (he : e = zt_U 10 f n a) (h0 : zt_kn f e a ≠ 0) (hg : ∀ v : zn_T, zn_V v → zn_C S z v → zt_NM f (S 1074) (S 1075) n (v 14) → zn_nz0 v → ¬ zn_lg (zt_kn f e) (zt_te f e) (zt_tv f e) (zt_kc f e) v a) : res.1 = q := by
  obtain ⟨v, h1, h2, h3⟩ := h
  obtain ⟨g1, g2, g3, g4⟩ := h2 rfl
  rw [show (1502 - q).toNat = (1502 - (q + 1)).toNat + 1 by omega, zn_ntN (by omega) he h0 (hg v g1 g2 g3 g4)] at h1
  rw [← h1]
theorem zn_RIJ {f : Nat → Int} {n z a q e : Int} {S : zz_S} {res : Int × zn_T} (h : zn_RI f n z 0 q a S res) (hq : 0 ≤ q ∧ q ≤ 1500) (ha : a ≤ n) (he : e = zt_U 10 f n a) (h0 : zt_kn f e a ≠ 0) (hg : ¬ zn_ig (zt_kn f e) (zt_te f e) (zt_tv f e) (zt_kc f e) a) : res.1 = q := by
  obtain ⟨v, h1, h2, h3⟩ := h
  rw [show (1502 - q).toNat = (1502 - (q + 1)).toNat + 1 by omega, zn_ntJ (by omega) he h0 hg] at h1
  rw [← h1]
theorem zn_RIL {f : Nat → Int} {n z a q e a1 q1 : Int} {S S1 : zz_S} {res : Int × zn_T} (h : zn_RI f n z 1 q a S res) (hq : 0 ≤ q ∧ q ≤ 1500) (ha : a ≤ n) (he : e = zt_U 10 f n a) (h0 : zt_kn f e a ≠ 0) (ea : a1 = e + 1) (eq : q1 = q + 1) (hg : ∀ v : zn_T, zn_V v → zn_C S z v → zt_NM f (S 1074) (S 1075) n (v 14) → zn_nz0 v → zn_lg (zt_kn f e) (zt_te f e) (zt_tv f e) (zt_kc f e) v a ∧ zn_V (zn_lv (zt_kn f e) (zt_te f e) (zt_tv f e) (zt_kc f e) v a) ∧ zn_C S1 z (zn_lv (zt_kn f e) (zt_te f e) (zt_tv f e) (zt_kc f e) v a) ∧ zt_NM f (S1 1074) (S1 1075) n (zn_lv (zt_kn f e) (zt_te f e) (zt_tv f e) (zt_kc f e) v a 14) ∧ zn_nz0 (zn_lv (zt_kn f e) (zt_te f e) (zt_tv f e) (zt_kc f e) v a)) : zn_RI f n z 1 q1 a1 S1 res := by
  obtain ⟨v, h1, h2, h3⟩ := h
  obtain ⟨g1, g2, g3, g4⟩ := h2 rfl
  obtain ⟨y1, y2, y3, y4, y5⟩ := hg v g1 g2 g3 g4
  subst ea eq
  refine ⟨_, ?_, fun _ => ⟨y2, y3, y4, y5⟩, fun x => absurd x (by decide)⟩
  rw [show (1502 - q).toNat = (1502 - (q + 1)).toNat + 1 by omega, zn_ntL (by omega) he h0 y1] at h1
  exact h1
theorem zn_RII {f : Nat → Int} {n z a q e a1 q1 : Int} {S S1 : zz_S} {res : Int × zn_T} (h : zn_RI f n z 0 q a S res) (hq : 0 ≤ q ∧ q ≤ 1500) (ha : a ≤ n) (he : e = zt_U 10 f n a) (h0 : zt_kn f e a ≠ 0) (ea : a1 = e + 1) (eq : q1 = q + 1) (hg : zn_ig (zt_kn f e) (zt_te f e) (zt_tv f e) (zt_kc f e) a) (y2 : zn_V (zn_iv (zt_kn f e) (zt_te f e) (zt_tv f e) (zt_kc f e) a)) (y3 : zn_C S1 z (zn_iv (zt_kn f e) (zt_te f e) (zt_tv f e) (zt_kc f e) a)) (y4 : zt_NM f (S1 1074) (S1 1075) n (zn_iv (zt_kn f e) (zt_te f e) (zt_tv f e) (zt_kc f e) a 14)) (y5 : zn_nz0 (zn_iv (zt_kn f e) (zt_te f e) (zt_tv f e) (zt_kc f e) a)) : zn_RI f n z 1 q1 a1 S1 res := by
  obtain ⟨v, h1, h2, h3⟩ := h
  subst ea eq
  refine ⟨_, ?_, fun _ => ⟨y2, y3, y4, y5⟩, fun x => absurd x (by decide)⟩
  rw [show (1502 - q).toNat = (1502 - (q + 1)).toNat + 1 by omega, zn_ntI (by omega) he h0 hg] at h1
  exact h1
theorem zn_C.fr0 {sl : List (Nat × Nat)} {cl : List Nat} {S S1 : zz_S} {q : Int} {v : zn_T} (h : zn_C S q v) (hV : zn_V v) (f : zz_fr sl cl (fun _ _ => False) S S1) (hs : sl.all (fun p => Nat.blt p.1 1001 || Nat.blt 1028 p.1) = true) (hc : cl.all (fun p => Nat.blt p 1001 || Nat.blt 1028 p) = true) (hq : 0 ≤ q ∧ q ≤ 1) : zn_C S1 q v := by
  have h3 := zz_rf3 hq
  exact h.fr hV f hs hc hq (f _ _ (zz_out1 hs (by omega)) (zz_out2 hc (by omega)) (fun x => x)) (fun a i x => x.elim)
theorem zt_NM0 {f a b : Nat → Int} {n : Int} (h : ∀ i : Nat, i < 11 → b i = 0) : zt_NM f a b n (fun _ => 0) := by
  refine ⟨fun k hk => ?_, fun i k _ _ x => absurd rfl x⟩
  rw [h k hk]
  exact ⟨⟨by decide, by decide⟩, fun x => absurd x (by decide), fun i h1 h2 => by omega, rfl⟩
theorem zn_ioe {f : Nat → Int} {e a : Int} (ha : a ≤ e) : zn_io (zt_kn f e) (zt_te f e) (zt_tv f e) (zt_kc f e) (zt_te f e (zt_te f e (zt_te f e (zt_te f e (zt_te f e (zt_te f e a)))))) = zt_no (zt_kn f e) (zt_te f e) (zt_tv f e) (zt_kc f e) (zn_al 0) (fun _ => 0) 11 1600 (zt_kn f e (zt_te f e (zt_te f e (zt_te f e (zt_te f e (zt_te f e (zt_te f e a))))))) (zt_kc f e (zt_te f e (zt_te f e (zt_te f e (zt_te f e (zt_te f e (zt_te f e a))))))) (zt_te f e (zt_te f e (zt_te f e (zt_te f e (zt_te f e (zt_te f e (zt_te f e a))))))) zn_o0 := by
  have cl := zn_kcl (f := f) (e := e) (a := a)
  have c0 := cl a (Int.le_refl _) ha
  have c1 := cl _ (show a ≤ zt_te f e a by omega) (by omega)
  have c2 := cl _ (show a ≤ zt_te f e (zt_te f e a) by omega) (by omega)
  have c3 := cl _ (show a ≤ zt_te f e (zt_te f e (zt_te f e a)) by omega) (by omega)
  have c4 := cl _ (show a ≤ zt_te f e (zt_te f e (zt_te f e (zt_te f e a))) by omega) (by omega)
  have c5 := cl _ (show a ≤ zt_te f e (zt_te f e (zt_te f e (zt_te f e (zt_te f e a)))) by omega) (by omega)
  have c6 := cl _ (show a ≤ zt_te f e (zt_te f e (zt_te f e (zt_te f e (zt_te f e (zt_te f e a))))) by omega) (by omega)
  exact zn_no11 (v := zn_v0) (tv := zt_tv f e) (A := zn_al 0) (fun _ _ _ => rfl) (by decide) cl 1600 (zt_kn f e (zt_te f e (zt_te f e (zt_te f e (zt_te f e (zt_te f e (zt_te f e a))))))) (zt_kc f e (zt_te f e (zt_te f e (zt_te f e (zt_te f e (zt_te f e (zt_te f e a))))))) (zt_te f e (zt_te f e (zt_te f e (zt_te f e (zt_te f e (zt_te f e (zt_te f e a))))))) zn_o0 (by omega) (by omega)
theorem zn_ne0 (o : Nat → Int) : zn_ne 0 o := ⟨fun x => absurd x (by decide), fun x => absurd x (by decide)⟩
/-- an input's line that is right: what is there behind it -/
theorem zn_inpY {f : Nat → Int} {n e a z : Int} {S1 S2 : zz_S} (ha : a ≤ e) (hi : zn_ih (zt_kn f e) (zt_te f e) (zt_tv f e) (zt_kc f e) a) (hn : ∀ i : Nat, i < 11 → S1 1075 i = 0) (ho : zt_no (zt_kn f e) (zt_te f e) (zt_tv f e) (zt_kc f e) (zn_al 0) (fun _ => 0) 11 1600 (zt_kn f e (zt_te f e (zt_te f e (zt_te f e (zt_te f e (zt_te f e (zt_te f e a))))))) (zt_kc f e (zt_te f e (zt_te f e (zt_te f e (zt_te f e (zt_te f e (zt_te f e a))))))) (zt_te f e (zt_te f e (zt_te f e (zt_te f e (zt_te f e (zt_te f e (zt_te f e a))))))) zn_o0 0 = 1) (hC : ∀ nm : Int, zn_C S2 z (zn_ip (zt_tv f e (zt_te f e a)) (zt_tv f e (zt_te f e (zt_te f e (zt_te f e a)))) (zt_tv f e (zt_te f e (zt_te f e (zt_te f e (zt_te f e (zt_te f e a)))))) nm)) (h4 : ∀ i : Nat, i ≠ 0 → S2 1074 i = S1 1074 i) (h5 : ∀ i : Nat, i ≠ 0 → S2 1075 i = S1 1075 i) (hw : zt_N1 f n (S2 1074 0) (S2 1075 0) (zt_no (zt_kn f e) (zt_te f e) (zt_tv f e) (zt_kc f e) (zn_al 0) (fun _ => 0) 11 1600 (zt_kn f e (zt_te f e (zt_te f e (zt_te f e (zt_te f e (zt_te f e (zt_te f e a))))))) (zt_kc f e (zt_te f e (zt_te f e (zt_te f e (zt_te f e (zt_te f e (zt_te f e a))))))) (zt_te f e (zt_te f e (zt_te f e (zt_te f e (zt_te f e (zt_te f e (zt_te f e a))))))) zn_o0 9)) : zn_ig (zt_kn f e) (zt_te f e) (zt_tv f e) (zt_kc f e) a ∧ zn_V (zn_iv (zt_kn f e) (zt_te f e) (zt_tv f e) (zt_kc f e) a) ∧ zn_C S2 z (zn_iv (zt_kn f e) (zt_te f e) (zt_tv f e) (zt_kc f e) a) ∧ zt_NM f (S2 1074) (S2 1075) n (zn_iv (zt_kn f e) (zt_te f e) (zt_tv f e) (zt_kc f e) a 14) ∧ zn_nz0 (zn_iv (zt_kn f e) (zt_te f e) (zt_tv f e) (zt_kc f e) a) := by
  have eo := zn_ioe (f := f) ha
  have fp := hi.2.2.2.2.2.2
  refine ⟨zn_igx.mpr ⟨hi, by rw [eo]; exact ho⟩, zn_Vip fp.1 fp.2.1 fp.2.2.1 fp.2.2.2, hC _, ?_, ?_⟩
  · refine zt_NMup (T := 0) (N := fun _ => 0) (zt_NM0 hn) (by decide) h4 h5 (fun i x => by omega) (fun _ _ _ => rfl) (fun i x _ => if_neg (by omega)) ?_ ?_
    · show zt_N1 f n (S2 1074 0) (S2 1075 0) (zn_io (zt_kn f e) (zt_te f e) (zt_tv f e) (zt_kc f e) (zt_te f e (zt_te f e (zt_te f e (zt_te f e (zt_te f e (zt_te f e a)))))) 9)
      rw [eo]
      exact hw
    · show zn_io (zt_kn f e) (zt_te f e) (zt_tv f e) (zt_kc f e) (zt_te f e (zt_te f e (zt_te f e (zt_te f e (zt_te f e (zt_te f e a)))))) 9 = 0 ∨ zt_nf (fun _ => 0) (zn_io (zt_kn f e) (zt_te f e) (zt_tv f e) (zt_kc f e) (zt_te f e (zt_te f e (zt_te f e (zt_te f e (zt_te f e (zt_te f e a)))))) 9) 11 = -1
      rw [eo]
      exact zn_no9 1600 _ _ _ zn_o0 (Or.inl rfl)
  · intro i x _
    have x1 : (1 : Int) ≤ (i : Int) := x
    show (if i = 0 then _ else (0 : Int)) = 0
    rw [if_neg (by omega)]
/-- a layer's line that is right: what is there behind it -/
theorem zn_layY {f : Nat → Int} {n e a z Z : Int} {v : zn_T} {S S3 S4 S5 S6 : zz_S} (hV : zn_V v) (hN : zt_NM f (S 1074) (S 1075) n (v 14)) (hz : zn_nz0 v) (ha : a ≤ e) (h3 : zn_RL (zt_kn f e) (zt_te f e) (zt_tv f e) (zt_kc f e) (v 14) S3 Z a 1) (ho : zn_R (zt_kn f e) (zt_te f e) (zt_tv f e) (zt_kc f e) (v 14) a 0 = 1 ∧ zn_ne (zn_kd (zt_kn f e a) (zt_kc f e a)) (zn_R (zt_kn f e) (zt_te f e) (zt_tv f e) (zt_kc f e) (v 14) a)) (hd : zn_DS (zn_kd (zt_kn f e a) (zt_kc f e a)) S4 Z f n (zn_R (zt_kn f e) (zt_te f e) (zt_tv f e) (zt_kc f e) (v 14) a)) (e0 : S4 (zz_rf 6 Z) 0 = S3 (zz_rf 6 Z) 0) (e1 : S4 (zz_rf 6 Z) 1 = S3 (zz_rf 6 Z) 1) (e2 : S4 (zz_rf 6 Z) 2 = S3 (zz_rf 6 Z) 2) (h : zn_F v (S4 (zz_rf 6 Z) 0) (S4 (zz_rf 6 Z) 1) (S4 (zz_rf 6 Z) 2) (S4 (zz_rf 6 Z) 3) (S4 (zz_rf 6 Z) 4) (S4 (zz_rf 6 Z) 5) (S4 (zz_rf 6 Z) 6) (S4 (zz_rf 6 Z) 7) (S4 (zz_rf 6 Z) 12) (S4 (zz_rf 6 Z) 9) 0) (hS : ∀ nm : Int, zn_C S5 z (zn_nw v (S4 (zz_rf 6 Z) 0) (S4 (zz_rf 6 Z) 1) (S4 (zz_rf 6 Z) 2) (S4 (zz_rf 6 Z) 3) (S4 (zz_rf 6 Z) 4) (S4 (zz_rf 6 Z) 5) (S4 (zz_rf 6 Z) 6) (S4 (zz_rf 6 Z) 7) (S4 (zz_rf 6 Z) 8) (S4 (zz_rf 6 Z) 12) (S4 (zz_rf 6 Z) 9) nm)) (h6 : ∀ w : zn_T, zn_V w → zn_C S5 z w → zn_C S6 z w) (h4 : ∀ i : Nat, i ≠ (v 15 0).toNat → S6 1074 i = S 1074 i) (h5 : ∀ i : Nat, i ≠ (v 15 0).toNat → S6 1075 i = S 1075 i) (h7 : S6 1074 (v 15 0).toNat = S4 1073 4) (h8 : S6 1075 (v 15 0).toNat = S4 1073 5) : zn_lg (zt_kn f e) (zt_te f e) (zt_tv f e) (zt_kc f e) v a ∧ zn_V (zn_lv (zt_kn f e) (zt_te f e) (zt_tv f e) (zt_kc f e) v a) ∧ zn_C S6 z (zn_lv (zt_kn f e) (zt_te f e) (zt_tv f e) (zt_kc f e) v a) ∧ zt_NM f (S6 1074) (S6 1075) n (zn_lv (zt_kn f e) (zt_te f e) (zt_tv f e) (zt_kc f e) v a 14) ∧ zn_nz0 (zn_lv (zt_kn f e) (zt_te f e) (zt_tv f e) (zt_kc f e) v a) := by
  have cl := zn_kcl (f := f) (e := e) (a := a)
  have hV1 := hV.1
  have d := zn_dft h3 hd e0 e1 e2
  have hm := (h3.2.2.2.2.2.2.2.2.resolve_right (fun x => absurd x.1 (by decide))).2
  have y := zn_lineY (f := f) (n := n) hz (by omega) cl ⟨Int.le_refl _, ha⟩ h3.1 hm ho d h hS
  have kd : zn_kd (zt_kn f e a) (zt_kc f e a) = 1 ∨ zn_kd (zt_kn f e a) (zt_kc f e a) = 2 ∨ zn_kd (zt_kn f e a) (zt_kc f e a) = 3 := by
    have x := h3.1
    unfold zn_kd at x ⊢
    by_cases q1 : zt_kn f e a = 102
    · rw [if_pos q1] at x ⊢
      by_cases q2 : zt_kc f e a = 735715
      · rw [if_pos q2]
        exact Or.inl rfl
      · rw [if_neg q2] at x ⊢
        by_cases q3 : zt_kc f e a = 409072
        · rw [if_pos q3]
          exact Or.inr (Or.inl rfl)
        · rw [if_neg q3] at x ⊢
          by_cases q4 : zt_kc f e a = 4225
          · rw [if_pos q4]
            exact Or.inr (Or.inr rfl)
          · rw [if_neg q4] at x
            exact absurd rfl x
    · rw [if_neg q1] at x
      exact absurd rfl x
  have V2 : zn_V (zn_lv (zt_kn f e) (zt_te f e) (zt_tv f e) (zt_kc f e) v a) := zn_Vnw hV kd y.1.2.2.2.2.2
  have tT : v 15 0 ≤ 10 := by
    have q := V2.1
    have q2 := y.2.2.2.2
    omega
  refine ⟨y.1, V2, h6 _ V2 y.2.1, ?_, ?_⟩
  · refine zt_NMup (T := (v 15 0).toNat) hN (by omega) h4 h5 (fun i x => y.2.2.2.1 i (by omega)) (fun i x w => hz i (by omega) w) (fun i x w => ?_) ?_ ?_
    · have g : zn_lv (zt_kn f e) (zt_te f e) (zt_tv f e) (zt_kc f e) v a 14 i = v 14 i := by
        exact zn_nwq (by decide) (by omega)
      rw [g]
      exact hz i (by omega) w
    · rw [y.2.2.1, h7, h8]
      exact hd.2
    · rw [y.2.2.1]
      exact zn_no9 1600 _ _ _ zn_o0 (Or.inl rfl)
  · intro i x w
    have x1 : v 15 0 + 1 ≤ (i : Int) := x
    have g : zn_lv (zt_kn f e) (zt_te f e) (zt_tv f e) (zt_kc f e) v a 14 i = v 14 i := zn_nwq (by decide) (by omega)
    rw [g]
    exact hz i (by omega) w
theorem zn_C.kp {S S1 : zz_S} {q : Int} {v : zn_T} (h : zn_C S q v) (hV : zn_V v) (hk : ∀ a i : Nat, 1001 ≤ a → a ≤ 1028 → a ≠ zz_rf 6 (12 * q + S (zz_rf 3 q) 1) → S1 a i = S a i) (hq : 0 ≤ q ∧ q ≤ 1) : zn_C S1 q v := by
  have hV1 := hV.1
  have hT := h.1
  have h3 := zz_rf3 hq
  have hT6 := zz_rf6 (z := 12 * q + S (zz_rf 3 q) 1) (by omega)
  refine h.same (hk _ _ (by omega) (by omega) (by omega)) (fun k k1 k2 s _ => ?_)
  have h6 := zz_rf6 (z := 12 * q + k) (by omega)
  exact hk _ _ (by omega) (by omega) (by omega)
/-! Places anew (class). -/
def zn_B (S : zz_S) (z : Int) : Nat → Int := fun k => S (zz_rf 6 (12 * z + (k : Int))) 14
theorem zn_Bk {S : zz_S} {z k : Int} (h : 0 ≤ k) : zn_B S z k.toNat = S (zz_rf 6 (12 * z + k)) 14 := by
  show S (zz_rf 6 (12 * z + ((k.toNat : Nat) : Int))) 14 = _
  rw [show ((k.toNat : Nat) : Int) = k by omega]
theorem zn_tkC {S : zz_S} {z k p : Int} {v : zn_T} (hC : zn_C S z v) (hW : zn_W v) (k1 : 1 ≤ k) (k2 : k < S (zz_rf 3 z) 1) : (S (zz_rf 6 (12 * z + k)) 0 ≠ 0 ∧ (S (zz_rf 6 (12 * z + k)) 1 = p ∨ S (zz_rf 6 (12 * z + k)) 2 = p)) ↔ zn_tk v k p := by
  rw [zn_Cs hC (by omega) k2 0 (by decide), zn_Cs hC (by omega) k2 1 (by decide), zn_Cs hC (by omega) k2 2 (by decide)]
  have w := hW.2 k k1 (by rw [← hC.1]; exact k2)
  unfold zn_tk
  constructor
  · intro g
    rcases g.2 with x | x
    · exact Or.inl x
    · rcases Decidable.em (v 0 k.toNat = 3) with y | y
      · exact Or.inr ⟨y, x⟩
      · exact Or.inl (by rw [← w.2 y]; exact x)
  · intro g
    refine ⟨by omega, ?_⟩
    rcases g with x | x
    · exact Or.inl x
    · exact Or.inr x.2
/-- is it needed, so far: x says whether a layer ahead of k took it; none from q on did -/
def zn_NI (S : zz_S) (z p q x k : Int) : Prop := ∀ v : zn_T, zn_C S z v → zn_W v → ((x = 1 ∧ ∃ j : Int, 1 ≤ j ∧ j < k ∧ zn_tk v j p) ∨ (x = 0 ∧ ¬ ∃ j : Int, 1 ≤ j ∧ j < k ∧ zn_tk v j p)) ∧ ¬ ∃ j : Int, 1 ≤ j ∧ q ≤ j ∧ j < k ∧ zn_tk v j p
theorem zn_NI0 {S : zz_S} {z p q : Int} : zn_NI S z p q 0 1 := by
  intro v _ _
  refine ⟨Or.inr ⟨rfl, fun ⟨j, a, b, _⟩ => by omega⟩, fun ⟨j, a, _, b, _⟩ => by omega⟩
theorem zn_NIs {S : zz_S} {z p q x k : Int} (h : zn_NI S z p q x k) (k1 : 1 ≤ k) (k2 : k < S (zz_rf 3 z) 1) (ht : ¬ (S (zz_rf 6 (12 * z + k)) 0 ≠ 0 ∧ (S (zz_rf 6 (12 * z + k)) 1 = p ∨ S (zz_rf 6 (12 * z + k)) 2 = p))) : zn_NI S z p q x (k + 1) := by
  intro v hC hW
  have g := h v hC hW
  have n := fun y => ht ((zn_tkC hC hW k1 k2).mpr y)
  refine ⟨?_, fun ⟨j, a, b, c, d⟩ => ?_⟩
  · rcases g.1 with ⟨y, j, a, b, c⟩ | ⟨y, w⟩
    · exact Or.inl ⟨y, j, a, by omega, c⟩
    · refine Or.inr ⟨y, fun ⟨j, a, b, c⟩ => ?_⟩
      rcases (by omega : j = k ∨ j < k) with e | e
      · rw [e] at c
        exact n c
      · exact w ⟨j, a, e, c⟩
  · rcases (by omega : j = k ∨ j < k) with e | e
    · rw [e] at d
      exact n d
    · exact g.2 ⟨j, a, b, e, d⟩
theorem zn_NIt {S : zz_S} {z p q x k : Int} (h : zn_NI S z p q x k) (k1 : 1 ≤ k) (k2 : k < S (zz_rf 3 z) 1) (ht : S (zz_rf 6 (12 * z + k)) 0 ≠ 0 ∧ (S (zz_rf 6 (12 * z + k)) 1 = p ∨ S (zz_rf 6 (12 * z + k)) 2 = p)) (hq : k < q) : zn_NI S z p q 1 (k + 1) := by
  intro v hC hW
  have g := h v hC hW
  have n := (zn_tkC hC hW k1 k2).mp ht
  refine ⟨Or.inl ⟨rfl, k, k1, by omega, n⟩, fun ⟨j, a, b, c, d⟩ => ?_⟩
  exact g.2 ⟨j, a, b, by omega, d⟩
def zn_NDp (S : zz_S) (z p q r : Int) : Prop := ∀ v : zn_T, zn_C S z v → zn_W v → (r = 1 ∧ zn_nd8 v p q) ∨ (r = 0 ∧ ¬ zn_nd8 v p q)
theorem zn_NIy {S : zz_S} {z p q k : Int} (k1 : 1 ≤ k) (k2 : k < S (zz_rf 3 z) 1) (ht : S (zz_rf 6 (12 * z + k)) 0 ≠ 0 ∧ (S (zz_rf 6 (12 * z + k)) 1 = p ∨ S (zz_rf 6 (12 * z + k)) 2 = p)) (hq : q ≤ k) : zn_NDp S z p q 1 := by
  intro v hC hW
  have n := (zn_tkC hC hW k1 k2).mp ht
  have h1 := hC.1
  exact Or.inl ⟨rfl, Or.inl ⟨k, k1, hq, by omega, n⟩⟩
theorem zn_NIe {S : zz_S} {z p q x k r : Int} (h : zn_NI S z p q x k) (hk : S (zz_rf 3 z) 1 ≤ k) (hk2 : k ≤ S (zz_rf 3 z) 1 ∨ k = 1) (hr : (x = 0 ∧ r = 1) ∨ (x ≠ 0 ∧ r = 0)) : zn_NDp S z p q r := by
  intro v hC hW
  have g := h v hC hW
  have h1 := hC.1
  rcases hr with y | y
  · refine Or.inl ⟨y.2, Or.inr ?_⟩
    rcases g.1 with w | w
    · omega
    · intro ⟨j, a, b, c⟩
      exact w.2 ⟨j, a, by omega, c⟩
  · refine Or.inr ⟨y.2, fun n => ?_⟩
    rcases g.1 with w | w
    · rcases n with ⟨j, a, b, c, d⟩ | n
      · exact g.2 ⟨j, a, b, by omega, d⟩
      · obtain ⟨j, a, b, c⟩ := w.2
        exact n ⟨j, a, by omega, c⟩
    · omega
/-- the sizes by the class -/
theorem zn_szC {S : zz_S} {z k w : Int} {v : zn_T} (hC : zn_C S z v) (hV : zn_V v) (k1 : 0 ≤ k) (k2 : k < S (zz_rf 3 z) 1) (hw : ((1 ≤ S (zz_rf 6 (12 * z + k)) 10 ∧ S (zz_rf 6 (12 * z + k)) 10 ≤ 63) ∧ (1 ≤ S (zz_rf 6 (12 * z + k)) 11 ∧ S (zz_rf 6 (12 * z + k)) 11 ≤ 63) ∧ (1 ≤ S (zz_rf 6 (12 * z + k)) 12 ∧ S (zz_rf 6 (12 * z + k)) 12 ≤ 63)) → w = (S (zz_rf 6 (12 * z + k)) 10 * S (zz_rf 6 (12 * z + k)) 11) * S (zz_rf 6 (12 * z + k)) 12) : w = zn_sz v k.toNat ∧ 1 ≤ w ∧ w ≤ 2048 := by
  have g := zn_Cf hC hV k1 k2
  have e := hw ⟨g.1, g.2.1, g.2.2.1⟩
  have p := zn_mul3 g.1.1 g.2.1.1 g.2.2.1.1
  have u := hV.1
  unfold zn_sz
  rw [← zn_Cs hC k1 k2 10 (by decide), ← zn_Cs hC k1 k2 11 (by decide), ← zn_Cs hC k1 k2 12 (by decide)]
  exact ⟨e, by omega, by omega⟩
/-- the least spot, under way: the spots ahead of p are within -/
def zn_LA (S : zz_S) (z p : Int) (v : zn_T) : Prop := zn_C S z v ∧ zn_V v ∧ zn_W v ∧ ∀ j : Int, 0 ≤ j → j < p → 0 ≤ zn_B S z j.toNat ∧ zn_B S z j.toNat + zn_sz v j.toNat ≤ 2048
def zn_LO (S : zz_S) (z p x y : Int) : Prop := ∀ v : zn_T, zn_LA S z p v → (0 ≤ x ∧ x ≤ 2048) ∧ (∀ u : Int, 0 ≤ u → u < x → ¬ zn_fe v (zn_B S z) p u) ∧ (zn_fe v (zn_B S z) p x ∨ y ≤ (zn_cn v (zn_B S z) x p.toNat : Int))
def zn_LI (S : zz_S) (z p x y k : Int) : Prop := ∀ v : zn_T, zn_LA S z p v → (0 ≤ x ∧ x ≤ 2048) ∧ (∀ u : Int, 0 ≤ u → u < x → ¬ zn_fe v (zn_B S z) p u) ∧ (zn_fe v (zn_B S z) p x ∨ y + 1 ≤ (zn_cn v (zn_B S z) x p.toNat : Int) ∨ (y ≤ (zn_cn v (zn_B S z) x p.toNat : Int) ∧ ∀ t : Int, 0 ≤ t → t < k → zn_nd8 v t p → ¬ (x < zn_B S z t.toNat + zn_sz v t.toNat ∧ zn_B S z t.toNat < x + zn_sz v p.toNat)))
theorem zn_LO0 {S : zz_S} {z p : Int} : zn_LO S z p 0 0 := by
  intro v _
  exact ⟨by omega, fun u u1 u2 => by omega, Or.inr (by omega)⟩
theorem zn_LIo {S : zz_S} {z p x y : Int} (h : zn_LO S z p x y) : zn_LI S z p x y 0 := by
  intro v hA
  obtain ⟨a, b, c⟩ := h v hA
  refine ⟨a, b, ?_⟩
  rcases c with c | c
  · exact Or.inl c
  · exact Or.inr (Or.inr ⟨c, fun t t1 t2 => by omega⟩)
theorem zn_LOi {S : zz_S} {z p x y k : Int} (h : zn_LI S z p x y k) (hk : p ≤ k) : zn_LO S z p x (y + 1) := by
  intro v hA
  obtain ⟨a, b, c⟩ := h v hA
  refine ⟨a, b, ?_⟩
  rcases c with c | c | c
  · exact Or.inl c
  · exact Or.inr c
  · exact Or.inl (fun t t1 t2 hn => c.2 t t1 (by omega) hn)
theorem zn_LOe {S : zz_S} {z p x y : Int} (h : zn_LO S z p x y) (hp : 0 ≤ p) (hy : p ≤ y) : ∀ v : zn_T, zn_LA S z p v → zn_ls v (zn_B S z) p x ∧ x ≤ 2048 := by
  intro v hA
  obtain ⟨a, b, c⟩ := h v hA
  refine ⟨⟨a.1, ?_, b⟩, a.2⟩
  rcases c with c | c
  · exact c
  · have d := (zn_cnb (v := v) (B := zn_B S z) (s := x) p.toNat).1
    exact zn_fea hp (by omega)
def zn_pz (S : zz_S) (Z w : Int) : Prop := ((1 ≤ S (zz_rf 6 Z) 10 ∧ S (zz_rf 6 Z) 10 ≤ 63) ∧ (1 ≤ S (zz_rf 6 Z) 11 ∧ S (zz_rf 6 Z) 11 ≤ 63) ∧ (1 ≤ S (zz_rf 6 Z) 12 ∧ S (zz_rf 6 Z) 12 ≤ 63)) → w = (S (zz_rf 6 Z) 10 * S (zz_rf 6 Z) 11) * S (zz_rf 6 Z) 12
theorem zn_LIn {S : zz_S} {z p x y k x3 w e : Int} (h : zn_LI S z p x y k) (p2 : p < S (zz_rf 3 z) 1) (k1 : 0 ≤ k) (k2 : k < p) (hx : zn_pz S (12 * z + p) x3) (hw : zn_pz S (12 * z + k) w) (he : -2147483648 ≤ S (zz_rf 6 (12 * z + k)) 14 + w ∧ S (zz_rf 6 (12 * z + k)) 14 + w ≤ 2147483647 → e = S (zz_rf 6 (12 * z + k)) 14 + w) (hn : e ≤ x ∨ (∃ b : Int, (-2147483648 ≤ x + x3 ∧ x + x3 ≤ 2147483647 → b = x + x3) ∧ b ≤ S (zz_rf 6 (12 * z + k)) 14) ∨ zn_NDp S z k p 0) : zn_LI S z p x y (k + 1) := by
  intro v hA
  obtain ⟨a, b, c⟩ := h v hA
  obtain ⟨hC, hV, hW, hB⟩ := hA
  have s1 := zn_szC hC hV (k := k) k1 (by omega) hw
  have s2 := zn_szC hC hV (k := p) (by omega) p2 hx
  have b1 := hB k k1 k2
  have b2 := zn_Bk (S := S) (z := z) k1
  have e1 := he (by omega)
  refine ⟨a, b, ?_⟩
  rcases c with c | c | c
  · exact Or.inl c
  · exact Or.inr (Or.inl c)
  · refine Or.inr (Or.inr ⟨c.1, fun t t1 t2 hd g => ?_⟩)
    rcases (by omega : t = k ∨ t < k) with q | q
    · rw [q] at hd g
      rcases hn with n | ⟨n, n1, n2⟩ | n
      · omega
      · have n3 := n1 (by omega)
        omega
      · rcases n v hC hW with m | m
        · omega
        · exact m.2 hd
    · exact c.2 t t1 q hd g
theorem zn_LIc {S : zz_S} {z p x y k x3 w e b : Int} (h : zn_LI S z p x y k) (p2 : p < S (zz_rf 3 z) 1) (k1 : 0 ≤ k) (k2 : k < p) (hx : zn_pz S (12 * z + p) x3) (hw : zn_pz S (12 * z + k) w) (he : -2147483648 ≤ S (zz_rf 6 (12 * z + k)) 14 + w ∧ S (zz_rf 6 (12 * z + k)) 14 + w ≤ 2147483647 → e = S (zz_rf 6 (12 * z + k)) 14 + w) (h1 : x < e) (hb : -2147483648 ≤ x + x3 ∧ x + x3 ≤ 2147483647 → b = x + x3) (h2 : S (zz_rf 6 (12 * z + k)) 14 < b) (h3 : zn_NDp S z k p 1) : zn_LI S z p e y (k + 1) := by
  intro v hA
  obtain ⟨a, m, c⟩ := h v hA
  obtain ⟨hC, hV, hW, hB⟩ := hA
  have s1 := zn_szC hC hV (k := k) k1 (by omega) hw
  have s2 := zn_szC hC hV (k := p) (by omega) p2 hx
  have b1 := hB k k1 k2
  have b2 := zn_Bk (S := S) (z := z) k1
  have e1 := he (by omega)
  have b3 := hb (by omega)
  have hd : zn_nd8 v k p := by
    rcases h3 v hC hW with q | q
    · exact q.2
    · omega
  have g1 : x < zn_B S z k.toNat + zn_sz v k.toNat := by omega
  have g2 : zn_B S z k.toNat < x + zn_sz v p.toNat := by omega
  have e2 : e = zn_B S z k.toNat + zn_sz v k.toNat := by omega
  have f := zn_feg k1 k2 hd g1 g2 m
  rw [e2]
  refine ⟨by omega, f, ?_⟩
  have c1 := zn_cnS (v := v) (B := zn_B S z) (s := x) (u := zn_B S z k.toNat + zn_sz v k.toNat) (t := k.toNat) g1 (Int.le_refl _) p.toNat (by omega)
  rcases c with c | c | c
  · exact absurd ⟨g1, g2⟩ (c k k1 k2 hd)
  · exact Or.inr (Or.inl (by omega))
  · exact Or.inr (Or.inl (by omega))
/-- only one kind of slot changed -/
theorem zn_nsl {sl : List (Nat × Nat)} {a i c : Nat} (hs : sl.all (fun p => Nat.beq p.2 c) = true) (h : i ≠ c) : sl.contains (a, i) = false := by
  cases e : sl.contains (a, i) with
  | false => rfl
  | true =>
    rw [List.all_eq_true] at hs
    have h1 := hs (a, i) (List.contains_iff_mem.mp e)
    exact absurd (Nat.eq_of_beq_eq_true h1) h
theorem zn_C.sl {sl : List (Nat × Nat)} {V : Nat → Nat → Prop} {S S1 : zz_S} {q : Int} {v : zn_T} (h : zn_C S q v) (f : zz_fr sl [] V S S1) (hs : sl.all (fun p => Nat.beq p.2 14) = true) (hv : ∀ a i, V a i → i = 14) : zn_C S1 q v :=
  h.same (f _ _ (zn_nsl hs (by decide)) rfl (fun x => absurd (hv _ _ x) (by decide))) (fun k _ _ s hs2 => f _ _ (zn_nsl hs (by omega)) rfl (fun x => by have := hv _ _ x; omega))
/-- the spots found so far -/
def zn_FS (S0 S : zz_S) (z k : Int) : Prop := ∀ v : zn_T, zn_C S0 z v → zn_V v → zn_W v → zn_pl v (zn_B S z) k ∧ ∀ j : Int, 0 ≤ j → j < k → zn_B S z j.toNat + zn_sz v j.toNat ≤ 2048
theorem zn_FS1 {S0 S : zz_S} {z : Int} (h : S (zz_rf 6 (12 * z + 0)) 14 = 0) : zn_FS S0 S z 1 := by
  intro v _ hV _
  have h0 : zn_B S z 0 = 0 := h
  have hV1 := hV.1
  have g := hV.2.1 0 (by decide) (by omega)
  have g5 : v 13 0 + zn_sz v 0 ≤ v 15 1 := g.2.2.2.2
  refine ⟨zn_pl1 h0, fun j j1 j2 => ?_⟩
  rw [show j.toNat = 0 by omega, h0]
  omega
theorem zn_FSs {S0 S S1 : zz_S} {z k s : Int} (h : zn_FS S0 S z k) (hz : 0 ≤ z ∧ z ≤ 1) (hk : 1 ≤ k ∧ k ≤ 11) (hC : ∀ v : zn_T, zn_C S0 z v → zn_C S z v) (hs : ∀ v : zn_T, zn_LA S z k v → zn_ls v (zn_B S z) k s ∧ s ≤ 2048) (e : S1 = zz_st S (zz_rf 6 (12 * z + k)) 14 s) : ∀ v : zn_T, zn_C S0 z v → zn_V v → zn_W v → zn_pl v (zn_B S1 z) (k + 1) ∧ (∀ j : Int, 0 ≤ j → j < k → zn_B S1 z j.toNat + zn_sz v j.toNat ≤ 2048) ∧ zn_B S1 z k.toNat = s ∧ 0 ≤ s ∧ s ≤ 2048 := by
  intro v c hV hW
  have g := h v c hV hW
  have hB : ∀ t : Int, 0 ≤ t → t < k → zn_B S z t.toNat = zn_B S1 z t.toNat := by
    intro t t1 t2
    rw [zn_Bk t1, zn_Bk t1]
    have a := zz_rf6 (z := 12 * z + k) (by omega)
    have b := zz_rf6 (z := 12 * z + t) (by omega)
    exact (zz_ro e (fun x => by omega) rfl).symm
  have hk9 : zn_B S1 z k.toNat = s := (zn_Bk (by omega)).trans (zz_rs e)
  have l := hs v ⟨hC v c, hV, hW, fun j j1 j2 => ⟨zn_pl0 g.1 j1 j2, g.2 j j1 j2⟩⟩
  refine ⟨zn_plS g.1 hk.1 hB (by rw [hk9]; exact l.1), fun j j1 j2 => ?_, hk9, l.1.1, l.2⟩
  rw [← hB j j1 j2]
  exact g.2 j j1 j2
/-- all spots found, or one ends too late -/
def zn_FP (S0 S : zz_S) (z r : Int) : Prop := ∀ v : zn_T, zn_C S0 z v → zn_V v → zn_W v → zn_C S z v ∧ ((r = 1 ∧ zn_pl v (zn_B S z) (v 15 0) ∧ ∀ j : Int, 0 ≤ j → j < v 15 0 → zn_B S z j.toNat + zn_sz v j.toNat ≤ 2048) ∨ (r = 0 ∧ zn_PN v))
theorem zn_FPe {S0 S : zz_S} {z k : Int} (h : zn_FS S0 S z k) (hC : ∀ v : zn_T, zn_C S0 z v → zn_C S z v) (hk : S0 (zz_rf 3 z) 1 ≤ k) : zn_FP S0 S z 1 := by
  intro v c hV hW
  have g := h v c hV hW
  have e := c.1
  exact ⟨hC v c, Or.inl ⟨rfl, zn_plm g.1 (by omega), fun j j1 j2 => g.2 j j1 (by omega)⟩⟩
theorem zn_FPn {S0 S1 : zz_S} {z k s w b : Int} (h : ∀ v : zn_T, zn_C S0 z v → zn_V v → zn_W v → zn_pl v (zn_B S1 z) (k + 1) ∧ (∀ j : Int, 0 ≤ j → j < k → zn_B S1 z j.toNat + zn_sz v j.toNat ≤ 2048) ∧ zn_B S1 z k.toNat = s ∧ 0 ≤ s ∧ s ≤ 2048) (hC : ∀ v : zn_T, zn_C S0 z v → zn_C S1 z v) (hk : 1 ≤ k ∧ k < S0 (zz_rf 3 z) 1) (hw : zn_pz S1 (12 * z + k) w) (hb : -2147483648 ≤ s + w ∧ s + w ≤ 2147483647 → b = s + w) (h2 : 2048 < b) : zn_FP S0 S1 z 0 := by
  intro v c hV hW
  obtain ⟨g1, g2, g3, g4, g5⟩ := h v c hV hW
  have e := c.1
  have e1 := (hC v c).1
  have s1 := zn_szC (hC v c) hV (k := k) (by omega) (by omega) hw
  have b1 := hb (by omega)
  exact ⟨hC v c, Or.inr ⟨rfl, zn_B S1 z, k, hk.1, by omega, g1, by omega⟩⟩
theorem zn_FSn {S0 S1 : zz_S} {z k s w b : Int} (h : ∀ v : zn_T, zn_C S0 z v → zn_V v → zn_W v → zn_pl v (zn_B S1 z) (k + 1) ∧ (∀ j : Int, 0 ≤ j → j < k → zn_B S1 z j.toNat + zn_sz v j.toNat ≤ 2048) ∧ zn_B S1 z k.toNat = s ∧ 0 ≤ s ∧ s ≤ 2048) (hC : ∀ v : zn_T, zn_C S0 z v → zn_C S1 z v) (hk : 1 ≤ k ∧ k < S0 (zz_rf 3 z) 1) (hw : zn_pz S1 (12 * z + k) w) (hb : -2147483648 ≤ s + w ∧ s + w ≤ 2147483647 → b = s + w) (h2 : b ≤ 2048) : zn_FS S0 S1 z (k + 1) := by
  intro v c hV hW
  obtain ⟨g1, g2, g3, g4, g5⟩ := h v c hV hW
  have e := c.1
  have e1 := (hC v c).1
  have s1 := zn_szC (hC v c) hV (k := k) (by omega) (by omega) hw
  have b1 := hb (by omega)
  refine ⟨g1, fun j j1 j2 => ?_⟩
  rcases (by omega : j = k ∨ j < k) with q | q
  · rw [q, g3]
    omega
  · exact g2 j j1 q
/-- the spots are taken -/
theorem zn_C.rp {sl : List (Nat × Nat)} {S S1 : zz_S} {z m : Int} {v : zn_T} (h : zn_C S z v) (f : zz_fr sl [] (fun _ _ => False) S S1) (hs : sl.all (fun p => Nat.beq p.2 13) = true) (h13 : ∀ k : Int, 0 ≤ k → k < S (zz_rf 3 z) 1 → S1 (zz_rf 6 (12 * z + k)) 13 = S (zz_rf 6 (12 * z + k)) 14) : zn_C S1 z (zn_rp v (zn_B S z) m) := by
  refine ⟨(f _ _ (zn_nsl hs (by decide)) rfl (fun x => x)).trans h.1, fun k k1 k2 s s1 => ?_⟩
  have k3 : k < v 15 0 := k2
  rcases (by omega : s = 13 ∨ s ≠ 13) with e | e
  · rw [e, h13 k k1 (by rw [h.1]; exact k3)]
    exact (zn_Bk k1).symm
  · rw [f _ _ (zn_nsl hs e) rfl (fun x => x), h.2 k k1 k3 s s1, zn_rpo e (by omega)]
/-- place of the class -/
def zn_PP (S0 S : zz_S) (z r : Int) : Prop := ∀ v : zn_T, zn_C S0 z v → zn_V v → zn_W v → ∃ B : Nat → Int, zn_PL v B r ∧ r ≤ 2048 ∧ zn_C S z (zn_rp v B r)
def zn_PX (S0 S : zz_S) (z : Int) : Prop := ∀ v : zn_T, zn_C S0 z v → zn_V v → zn_W v → zn_PN v ∧ zn_C S z v
theorem zn_PPe {sl : List (Nat × Nat)} {S0 S S1 : zz_S} {z r : Int} (h : zn_FP S0 S z 1) (f : zz_fr sl [] (fun _ _ => False) S S1) (hs : sl.all (fun p => Nat.beq p.2 13) = true) (h13 : ∀ k : Int, 0 ≤ k → k < S (zz_rf 3 z) 1 → S1 (zz_rf 6 (12 * z + k)) 13 = S (zz_rf 6 (12 * z + k)) 14) (hr : ∀ v : zn_T, zn_C S1 z v → zn_V v → r = v 15 1) : zn_PP S0 S1 z r := by
  intro v c hV hW
  obtain ⟨c1, g⟩ := h v c hV hW
  rcases g with g | g
  · obtain ⟨m, hm⟩ := zn_PLe hV g.2.1
    have hm2 : m ≤ 2048 := by
      obtain ⟨j, j1, j2, j3⟩ := hm.2.2
      have := g.2.2 j j1 j2
      omega
    have V1 := zn_Vrp hV hm hm2
    have C1 := zn_C.rp (m := m) c1 f hs h13
    have e := hr _ C1 V1
    have e2 : r = m := e
    subst e2
    exact ⟨zn_B S z, hm, hm2, C1⟩
  · exact absurd g.1 (by decide)
theorem zn_PXe {S0 S : zz_S} {z : Int} (h : zn_FP S0 S z 0) : zn_PX S0 S z := by
  intro v c hV hW
  obtain ⟨c1, g⟩ := h v c hV hW
  rcases g with g | g
  · exact absurd g.1 (by decide)
  · exact ⟨g.2, c1⟩

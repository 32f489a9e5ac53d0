/-! Lemmas that rows of both sides use. By program (wip/zz/common.py). -/
theorem zz_mulh {a b : Int} (A1 A2 B C1 C2 : Int) (ha : A1 ≤ a ∧ a ≤ A2) (hb : 0 ≤ b ∧ b ≤ B) (h1 : A1 ≤ 0) (h2 : 0 ≤ A2) (e1 : A1 * B = C1) (e2 : A2 * B = C2) : C1 ≤ a * b ∧ a * b ≤ C2 := by
  rw [← e1, ← e2]
  refine ⟨?_, Int.mul_le_mul ha.2 hb.2 hb.1 h2⟩
  have q1 : A1 * b ≤ a * b := Int.mul_le_mul_of_nonneg_right ha.1 hb.1
  have q2 : A1 * B ≤ A1 * b := Int.mul_le_mul_of_nonpos_left h1 hb.2
  omega
theorem zz_divb {x y v : Int} (hx : 0 ≤ x) (hy : 1 ≤ y) (e : v = x.tdiv y) : 0 ≤ v ∧ v ≤ x := by
  subst e
  rw [Int.tdiv_eq_ediv_of_nonneg hx]
  exact ⟨Int.ediv_nonneg hx (by omega), Int.ediv_le_self y hx⟩
theorem zz_cret {g : mm_G} {l : Launch} {Y : mm_Y} {rm : Room} {Q : mm_O → Prop} {pc pc1 : Nat} {ls : List (Option Value)} {S : zz_S} {n k j : Nat} {v : Int} (hd : zz_D Y pc .ireturn 1 pc1) (hr : Y.2.2.2 = some .char) (hv : 0 ≤ v ∧ v ≤ 65535) (hk : k ≤ rm.cells) (hj : j ≤ rm.slots) (hQ : Q (.inl (some (zi v)), zz_M S n, n)) : zz_E g l Y rm Q S n pc ls [zi v] k j := by
  refine mm_zret hd.1 hr ?_ hk hj hQ
  have h : narrow .char (.int (Int32.ofInt v)) = .int (vp_nar .char (Int32.ofInt v)) := rfl
  rw [h, zz_nar_char hv]
theorem zz_remb {x y v : Int} (hx : 0 ≤ x) (hy : 1 ≤ y) (e : v = x.tmod y) : 0 ≤ v ∧ v < y := by
  subst e
  rw [Int.tmod_eq_emod_of_nonneg hx]
  exact ⟨Int.emod_nonneg x (by omega), Int.emod_lt_of_pos x (by omega)⟩
theorem zz_divc {x y v : Int} (A B C : Int) (hx : 0 ≤ x ∧ x ≤ A) (hy : B ≤ y) (hB : 1 ≤ B) (hC : 0 ≤ C) (e : v = x.tdiv y) (hc : A < (C + 1) * B) : v ≤ C := by
  subst e
  rw [Int.tdiv_eq_ediv_of_nonneg hx.1]
  have h1 : (C + 1) * B ≤ (C + 1) * y := Int.mul_le_mul_of_nonneg_left hy (by omega)
  have h2 : x / y < C + 1 := Int.ediv_lt_of_lt_mul (by omega) (Int.lt_of_le_of_lt hx.2 (Int.lt_of_lt_of_le hc h1))
  omega
theorem zz_divl {x y v : Int} (A B C : Int) (hx : A ≤ x) (hA : 0 ≤ A) (hy : 1 ≤ y ∧ y ≤ B) (hC : 0 ≤ C) (e : v = x.tdiv y) (hc : C * B ≤ A) : C ≤ v := by
  subst e
  rw [Int.tdiv_eq_ediv_of_nonneg (Int.le_trans hA hx)]
  have h1 : C * y ≤ C * B := Int.mul_le_mul_of_nonneg_left hy.2 hC
  exact Int.le_ediv_of_mul_le (by omega) (Int.le_trans h1 (Int.le_trans hc hx))
theorem zz_shr0 {x v : Int} (hx : -2147483648 ≤ x ∧ x ≤ 2147483647) (e : v = (Int32.ofInt x >>> (Int32.ofInt 0 &&& 31)).toInt) : v = x := by
  have h5 : Int32.ofInt 0 &&& 31 = 0 := by decide
  rw [h5, Int32.shiftRight_zero, zz_t32 hx] at e
  exact e
theorem zz_eqvl {g : mm_G} {l : Launch} {Y : mm_Y} {rm : Room} {Q : mm_O → Prop} {pc : Nat} {ls : List (Option Value)} {st : List Value} {S : zz_S} {n k j : Nat} {e v : Int} (h : e = v) (kk : zz_E g l Y rm Q S n pc ls (zl v :: st) k j) : zz_E g l Y rm Q S n pc ls (zl e :: st) k j := h ▸ kk
/-- bits F on, under the mask m -/
def zz_fx (w F m : Int) : Int := (Int64.ofInt (Int64.ofInt ((Int64.ofInt w).toUInt64 >>> ((Int32.ofInt F).toInt64.toUInt64 &&& Int64.toUInt64 63)).toInt64.toInt &&& Int64.ofInt m).toInt).toInt32.toInt
/-- an instruction that may be done: kind, address, rows, columns, a, b, stride, n, side -/
def zz_lg (k ad ro co a b st n s : Int) : Prop := (1 ≤ k ∧ k ≤ 9) ∧ (k ≠ 9 → 1 ≤ ro ∧ 1 ≤ co ∧ co ≤ s) ∧ (k = 9 → ro = 0 ∧ co = 0) ∧ (k = 1 → ad + (ro - 1) * st + co - 1 < 4096 ∧ a + (ro - 1) * s + co - 1 < 512) ∧ (k = 2 → ad + (ro - 1) * st + co - 1 < 4096 ∧ a + (ro - 1) * s + co - 1 < 512) ∧ (k = 3 → a + (ro - 1) * s + co - 1 < 512) ∧ (k = 4 → ad + (ro - 1) * st + 4 * co - 1 < 4096 ∧ a + (ro - 1) * s + co - 1 < 256) ∧ (k = 5 → 1 ≤ n / 2 ∧ n / 2 ≤ s ∧ a + (ro - 1) * s + n / 2 - 1 < 512 ∧ st + (n / 2 - 1) * s + co - 1 < 512 ∧ b + (ro - 1) * s + co - 1 < 256) ∧ (k = 6 → a + (ro - 1) * s + co - 1 < 512 ∧ b + (ro - 1) * s + co - 1 < 256) ∧ (k = 7 → a + (ro - 1) * s + co - 1 < 256 ∧ b + (ro - 1) * s + co - 1 < 256) ∧ (k = 8 → a + (ro - 1) * s + co - 1 < 256 ∧ ad + (ro - 1) * st + co - 1 < 4096)
def zz_lgl (w s : Int) : Prop := zz_lg (zz_fx w 0 15) (zz_fx w 8 4095) (zz_fx w 20 63) (zz_fx w 26 31) (zz_fx w 31 511) (zz_fx w 40 511) (zz_fx w 49 1023) (zz_fx w 59 31) s
/-- the class's field: bits F on, then the mask m -/
def zz_fy (w F m : Int) : Int := (Int32.ofInt (Int64.ofInt ((Int64.ofInt w).toUInt64 >>> ((Int32.ofInt F).toInt64.toUInt64 &&& Int64.toUInt64 63)).toInt64.toInt).toInt32.toInt &&& Int32.ofInt m).toInt
/-- a word of the class that may be done: kind, address, rows, columns, a, b, stride, n, side -/
def zz_lc (k ad ro co a b st n s : Int) : Prop := (1 ≤ k ∧ k ≤ 9) ∧ (k ≠ 9 → 1 ≤ ro ∧ 1 ≤ co ∧ co ≤ s) ∧ (k = 1 → ad + (ro - 1) * st + co - 1 < 4096 ∧ a + (ro - 1) * s + co - 1 < 512) ∧ (k = 2 → ad + (ro - 1) * st + co - 1 < 4096 ∧ a + (ro - 1) * s + co - 1 < 512) ∧ (k = 3 → a + (ro - 1) * s + co - 1 < 512) ∧ (k = 4 → a + (ro - 1) * s + co - 1 < 256) ∧ (k = 5 → 1 ≤ n / 2 ∧ n / 2 ≤ s ∧ a + (ro - 1) * s + n / 2 - 1 < 512 ∧ st + (n / 2 - 1) * s + co - 1 < 512 ∧ b + (ro - 1) * s + co - 1 < 256) ∧ (k = 6 → a + (ro - 1) * s + co - 1 < 512 ∧ b + (ro - 1) * s + co - 1 < 256) ∧ (k = 7 → a + (ro - 1) * s + co - 1 < 256 ∧ b + (ro - 1) * s + co - 1 < 256) ∧ (k = 8 → a + (ro - 1) * s + co - 1 < 256 ∧ ad + (ro - 1) * st + co - 1 < 4096)
def zz_lcl (w s : Int) : Prop := zz_lc (zz_fy w 0 15) (zz_fy w 8 4095) (zz_fy w 20 63) (zz_fy w 26 31) (zz_fy w 31 511) (zz_fy w 40 511) (zz_fy w 49 1023) (zz_fy w 59 31) s
def zz_fyk (w k : Int) : Int := if k = 0 then zz_fy w 0 15 else if k = 1 then zz_fy w 4 1 else if k = 2 then zz_fy w 5 1 else if k = 3 then zz_fy w 6 1 else if k = 4 then zz_fy w 7 1 else if k = 5 then zz_fy w 8 4095 else if k = 6 then zz_fy w 20 63 else if k = 7 then zz_fy w 26 31 else if k = 8 then zz_fy w 31 511 else if k = 9 then zz_fy w 40 511 else if k = 10 then zz_fy w 49 1023 else if k = 11 then zz_fy w 59 31 else 0
def zz_fxk (w k : Int) : Int := if k = 0 then zz_fx w 0 15 else if k = 1 then zz_fx w 4 1 else if k = 2 then zz_fx w 5 1 else if k = 3 then zz_fx w 6 1 else if k = 4 then zz_fx w 7 1 else if k = 5 then zz_fx w 8 4095 else if k = 6 then zz_fx w 20 63 else if k = 7 then zz_fx w 26 31 else if k = 8 then zz_fx w 31 511 else if k = 9 then zz_fx w 40 511 else if k = 10 then zz_fx w 49 1023 else if k = 11 then zz_fx w 59 31 else 0
theorem zz_fxy (w F m : Int) : zz_fx w F m = zz_fy w F m := by
  unfold zz_fx zz_fy
  simp only [Int64.ofInt_toInt, Int32.ofInt_toInt, Int64.toInt32_and, Int64.toInt32_ofInt]
theorem zz_fxyk (w k : Int) : zz_fxk w k = zz_fyk w k := by
  unfold zz_fxk zz_fyk
  simp only [zz_fxy]
theorem zz_lg_mk {k ad ro co a b st n s R1 R3 R5 R7 R9 W1 W3 W5 W7 W9 : Int} (hk : 1 ≤ k ∧ k ≤ 9) (hs : (k = 9 ∧ ro = 0 ∧ co = 0) ∨ (k ≠ 9 ∧ 1 ≤ ro ∧ 1 ≤ co ∧ co ≤ s)) (h5 : k = 5 → 1 ≤ n / 2 ∧ n / 2 ≤ s) (q0 : k = 1 → R1 = ad + (ro - 1) * st + co - 1 ∧ W3 = a + (ro - 1) * s + co - 1) (q1 : k = 2 → R1 = ad + (ro - 1) * st + co - 1 ∧ W5 = a + (ro - 1) * s + co - 1) (q2 : k = 3 → W3 = a + (ro - 1) * s + co - 1) (q3 : k = 4 → R1 = ad + (ro - 1) * st + 4 * co - 1 ∧ W7 = a + (ro - 1) * s + co - 1) (q4 : k = 5 → R3 = a + (ro - 1) * s + n / 2 - 1 ∧ R5 = st + (n / 2 - 1) * s + co - 1 ∧ W7 = b + (ro - 1) * s + co - 1) (q5 : k = 6 → R3 = a + (ro - 1) * s + co - 1 ∧ W7 = b + (ro - 1) * s + co - 1) (q6 : k = 7 → R7 = a + (ro - 1) * s + co - 1 ∧ W9 = b + (ro - 1) * s + co - 1) (q7 : k = 8 → R9 = a + (ro - 1) * s + co - 1 ∧ W1 = ad + (ro - 1) * st + co - 1) (bR1 : R1 < 4096) (bR3 : R3 < 512) (bR5 : R5 < 512) (bR7 : R7 < 256) (bR9 : R9 < 256) (bW1 : W1 < 4096) (bW3 : W3 < 512) (bW5 : W5 < 512) (bW7 : W7 < 256) (bW9 : W9 < 256) : zz_lg k ad ro co a b st n s := by
  unfold zz_lg
  exact ⟨by clear q0 q1 q2 q3 q4 q5 q6 q7; omega, by clear q0 q1 q2 q3 q4 q5 q6 q7; omega, by clear q0 q1 q2 q3 q4 q5 q6 q7; omega, fun h => by have h9 := q0 h; clear q0 q1 q2 q3 q4 q5 q6 q7; omega, fun h => by have h9 := q1 h; clear q0 q1 q2 q3 q4 q5 q6 q7; omega, fun h => by have h9 := q2 h; clear q0 q1 q2 q3 q4 q5 q6 q7; omega, fun h => by have h9 := q3 h; clear q0 q1 q2 q3 q4 q5 q6 q7; omega, fun h => by have h9 := q4 h; clear q0 q1 q2 q3 q4 q5 q6 q7; omega, fun h => by have h9 := q5 h; clear q0 q1 q2 q3 q4 q5 q6 q7; omega, fun h => by have h9 := q6 h; clear q0 q1 q2 q3 q4 q5 q6 q7; omega, fun h => by have h9 := q7 h; clear q0 q1 q2 q3 q4 q5 q6 q7; omega⟩
theorem zz_lc_mk {k ad ro co a b st n s R1 R3 R5 R7 R9 W1 W3 W5 W7 W9 : Int} (hk : 1 ≤ k ∧ k ≤ 9) (hs : k = 9 ∨ (1 ≤ ro ∧ 1 ≤ co ∧ co ≤ s)) (h5 : k = 5 → 1 ≤ n / 2 ∧ n / 2 ≤ s) (q0 : k = 5 → R3 = a + ((ro - 1) * s + (n / 2 - 1)) ∧ R5 = st + ((n / 2 - 1) * s + (co - 1)) ∧ W7 = b + ((ro - 1) * s + (co - 1))) (q1 : k = 6 → R3 = a + ((ro - 1) * s + (co - 1)) ∧ W7 = b + ((ro - 1) * s + (co - 1))) (q2 : k = 7 → R7 = a + ((ro - 1) * s + (co - 1)) ∧ W9 = b + ((ro - 1) * s + (co - 1))) (q3 : k = 1 → R1 = ad + ((ro - 1) * st + (co - 1)) ∧ W3 = a + ((ro - 1) * s + (co - 1))) (q4 : k = 2 → R1 = ad + ((ro - 1) * st + (co - 1)) ∧ W5 = a + ((ro - 1) * s + (co - 1))) (q5 : k = 3 → W3 = a + ((ro - 1) * s + (co - 1))) (q6 : k = 4 → W7 = a + ((ro - 1) * s + (co - 1))) (q7 : k = 8 → R9 = a + ((ro - 1) * s + (co - 1)) ∧ W1 = ad + ((ro - 1) * st + (co - 1))) (bb : R1 < 4096 ∧ W1 < 4096 ∧ R3 < 512 ∧ W3 < 512 ∧ R5 < 512 ∧ W5 < 512 ∧ R7 < 256 ∧ W7 < 256 ∧ R9 < 256 ∧ W9 < 256) : zz_lc k ad ro co a b st n s := by
  unfold zz_lc
  exact ⟨by clear q0 q1 q2 q3 q4 q5 q6 q7; omega, by clear q0 q1 q2 q3 q4 q5 q6 q7; omega, fun h => by have h9 := q3 h; clear q0 q1 q2 q3 q4 q5 q6 q7; omega, fun h => by have h9 := q4 h; clear q0 q1 q2 q3 q4 q5 q6 q7; omega, fun h => by have h9 := q5 h; clear q0 q1 q2 q3 q4 q5 q6 q7; omega, fun h => by have h9 := q6 h; clear q0 q1 q2 q3 q4 q5 q6 q7; omega, fun h => by have h9 := q0 h; clear q0 q1 q2 q3 q4 q5 q6 q7; omega, fun h => by have h9 := q1 h; clear q0 q1 q2 q3 q4 q5 q6 q7; omega, fun h => by have h9 := q2 h; clear q0 q1 q2 q3 q4 q5 q6 q7; omega, fun h => by have h9 := q7 h; clear q0 q1 q2 q3 q4 q5 q6 q7; omega⟩
theorem zz_fr.put1 {S S1 : zz_S} {a i : Nat} {v : Int} (e : S1 = zz_st S a i v) : zz_fr [] [] (fun b j => b = a ∧ j = i) S S1 := by
  intro b j _ _ h
  rw [e]
  exact zz_st_n h

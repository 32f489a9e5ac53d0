/-! What makes a word illegal, as numbers 0 and 1, of its fields and the side. By hand. -/
/-- does kind k name field u (5 .. 11)? -/
def zz_nm (k u : Int) : Int := if u = 5 then (if k = 1 ∨ k = 2 ∨ k = 4 ∨ k = 8 then 1 else 0) else if u = 6 ∨ u = 7 ∨ u = 8 then (if k = 9 then 0 else 1) else if u = 9 then (if k = 5 ∨ k = 6 ∨ k = 7 then 1 else 0) else if u = 10 then (if k = 1 ∨ k = 2 ∨ k = 4 ∨ k = 5 ∨ k = 8 then 1 else 0) else (if k = 5 ∨ k = 6 ∨ k = 7 ∨ k = 9 then 1 else 0)
/-- is the number f in field u strange for kind k? -/
def zz_st1 (k u f : Int) : Int := if zz_nm k u = 0 ∧ f ≠ 0 then 1 else 0
/-- is one of the fields 5 .. x - 1 strange? -/
def zz_sa (k ad ro co a b st n x : Int) : Int := if (5 < x ∧ zz_st1 k 5 ad = 1) ∨ (6 < x ∧ zz_st1 k 6 ro = 1) ∨ (7 < x ∧ zz_st1 k 7 co = 1) ∨ (8 < x ∧ zz_st1 k 8 a = 1) ∨ (9 < x ∧ zz_st1 k 9 b = 1) ∨ (10 < x ∧ zz_st1 k 10 st = 1) ∨ (11 < x ∧ zz_st1 k 11 n = 1) then 1 else 0
/-- no kind, or a strange field -/
def zz_sf (k ad ro co a b st n : Int) : Int := if k < 1 ∨ 9 < k ∨ zz_sa k ad ro co a b st n 12 = 1 then 1 else 0
/-- rows and columns don't fit -/
def zz_sh (k ro co s : Int) : Int := if k ≠ 9 ∧ (ro < 1 ∨ co < 1 ∨ s < co) then 1 else 0
/-- N doesn't fit -/
def zz_nf (k n s : Int) : Int := if (k = 5 ∧ (n / 2 < 1 ∨ s < n / 2)) ∨ ((k = 6 ∨ k = 9) ∧ 2 < n) then 1 else 0
/-- pops and pushes don't fit -/
def zz_tf (k pb ph sb sh n : Int) : Int := if ((k < 5 ∨ (k = 9 ∧ n = 0)) ∧ (pb ≠ 0 ∨ sb ≠ 0)) ∨ ((k = 8 ∨ (k = 9 ∧ n = 2)) ∧ (ph ≠ 0 ∨ sh ≠ 0)) then 1 else 0
/-- something isn't there -/
def zz_re (k ad ro co a b st n s : Int) : Int := if
  ((k = 1 ∨ k = 2) ∧ (4096 ≤ ad + (ro - 1) * st + co - 1 ∨ 512 ≤ a + (ro - 1) * s + co - 1)) ∨
  (k = 3 ∧ 512 ≤ a + (ro - 1) * s + co - 1) ∨
  (k = 4 ∧ (4096 ≤ ad + (ro - 1) * st + 4 * co - 1 ∨ 256 ≤ a + (ro - 1) * s + co - 1)) ∨
  (k = 5 ∧ (512 ≤ a + (ro - 1) * s + n / 2 - 1 ∨ 512 ≤ st + (n / 2 - 1) * s + co - 1 ∨ 256 ≤ b + (ro - 1) * s + co - 1)) ∨
  (k = 6 ∧ (512 ≤ a + (ro - 1) * s + co - 1 ∨ 256 ≤ b + (ro - 1) * s + co - 1)) ∨
  (k = 7 ∧ (256 ≤ a + (ro - 1) * s + co - 1 ∨ 256 ≤ b + (ro - 1) * s + co - 1)) ∨
  (k = 8 ∧ (256 ≤ a + (ro - 1) * s + co - 1 ∨ 4096 ≤ ad + (ro - 1) * st + co - 1)) then 1 else 0
/-- illegal -/
def zz_il (k pb ph sb sh ad ro co a b st n s : Int) : Int := if zz_sf k ad ro co a b st n = 1 ∨ zz_sh k ro co s = 1 ∨ zz_nf k n s = 1 ∨ zz_tf k pb ph sb sh n = 1 ∨ zz_re k ad ro co a b st n s = 1 then 1 else 0
theorem zz_01 {p : Prop} {d : Decidable p} : 0 ≤ (@ite Int p d 1 0) ∧ (@ite Int p d 1 0) ≤ 1 := by
  by_cases h : p
  · rw [if_pos h]
    exact ⟨by decide, by decide⟩
  · rw [if_neg h]
    exact ⟨by decide, by decide⟩
theorem zz_nm01 (k u : Int) : 0 ≤ zz_nm k u ∧ zz_nm k u ≤ 1 := by
  unfold zz_nm
  split
  · exact zz_01
  · split
    · split
      · exact ⟨by decide, by decide⟩
      · exact ⟨by decide, by decide⟩
    · split
      · exact zz_01
      · split
        · exact zz_01
        · exact zz_01
theorem zz_st01 (k u f : Int) : 0 ≤ zz_st1 k u f ∧ zz_st1 k u f ≤ 1 := zz_01
theorem zz_sa01 (k ad ro co a b st n x : Int) : 0 ≤ zz_sa k ad ro co a b st n x ∧ zz_sa k ad ro co a b st n x ≤ 1 := zz_01
theorem zz_sf01 (k ad ro co a b st n : Int) : 0 ≤ zz_sf k ad ro co a b st n ∧ zz_sf k ad ro co a b st n ≤ 1 := zz_01
theorem zz_sh01 (k ro co s : Int) : 0 ≤ zz_sh k ro co s ∧ zz_sh k ro co s ≤ 1 := zz_01
theorem zz_nf01 (k n s : Int) : 0 ≤ zz_nf k n s ∧ zz_nf k n s ≤ 1 := zz_01
theorem zz_tf01 (k pb ph sb sh n : Int) : 0 ≤ zz_tf k pb ph sb sh n ∧ zz_tf k pb ph sb sh n ≤ 1 := zz_01
theorem zz_re01 (k ad ro co a b st n s : Int) : 0 ≤ zz_re k ad ro co a b st n s ∧ zz_re k ad ro co a b st n s ≤ 1 := zz_01
theorem zz_il01 (k pb ph sb sh ad ro co a b st n s : Int) : 0 ≤ zz_il k pb ph sb sh ad ro co a b st n s ∧ zz_il k pb ph sb sh ad ro co a b st n s ≤ 1 := zz_01
theorem zz_st0 {k u f : Int} (h : zz_nm k u = 1 ∨ f = 0) : zz_st1 k u f = 0 := by
  unfold zz_st1
  rw [if_neg (by omega)]
theorem zz_st2 {k u f : Int} (h : zz_nm k u = 0) (hf : f ≠ 0) : zz_st1 k u f = 1 := by
  unfold zz_st1
  rw [if_pos ⟨h, hf⟩]
theorem zz_sa5 (k ad ro co a b st n : Int) : zz_sa k ad ro co a b st n 5 = 0 := by
  unfold zz_sa
  rw [if_neg (by omega)]
/-- one field more -/
theorem zz_saS {k ad ro co a b st n x y f : Int} (hx : 5 ≤ x ∧ x ≤ 11) (hy : y = x + 1) (h : zz_sa k ad ro co a b st n x = 0) (hf : (x = 5 → f = ad) ∧ (x = 6 → f = ro) ∧ (x = 7 → f = co) ∧ (x = 8 → f = a) ∧ (x = 9 → f = b) ∧ (x = 10 → f = st) ∧ (x = 11 → f = n)) (hs : zz_st1 k x f = 0) : zz_sa k ad ro co a b st n y = 0 := by
  subst hy
  have h0 : ¬ ((5 < x ∧ zz_st1 k 5 ad = 1) ∨ (6 < x ∧ zz_st1 k 6 ro = 1) ∨ (7 < x ∧ zz_st1 k 7 co = 1) ∨ (8 < x ∧ zz_st1 k 8 a = 1) ∨ (9 < x ∧ zz_st1 k 9 b = 1) ∨ (10 < x ∧ zz_st1 k 10 st = 1) ∨ (11 < x ∧ zz_st1 k 11 n = 1)) := by
    intro h1
    unfold zz_sa at h
    rw [if_pos h1] at h
    exact absurd h (by decide)
  unfold zz_sa
  rw [if_neg]
  rcases (by omega : x = 5 ∨ x = 6 ∨ x = 7 ∨ x = 8 ∨ x = 9 ∨ x = 10 ∨ x = 11) with rfl | rfl | rfl | rfl | rfl | rfl | rfl
  · have e := hf.1 rfl
    subst e
    omega
  · have e := hf.2.1 rfl
    subst e
    omega
  · have e := hf.2.2.1 rfl
    subst e
    omega
  · have e := hf.2.2.2.1 rfl
    subst e
    omega
  · have e := hf.2.2.2.2.1 rfl
    subst e
    omega
  · have e := hf.2.2.2.2.2.1 rfl
    subst e
    omega
  · have e := hf.2.2.2.2.2.2 rfl
    subst e
    omega
/-- a strange one -/
theorem zz_sf1 {k ad ro co a b st n x f : Int} (hx : 5 ≤ x ∧ x ≤ 11) (hf : (x = 5 → f = ad) ∧ (x = 6 → f = ro) ∧ (x = 7 → f = co) ∧ (x = 8 → f = a) ∧ (x = 9 → f = b) ∧ (x = 10 → f = st) ∧ (x = 11 → f = n)) (hs : zz_st1 k x f = 1) : zz_sf k ad ro co a b st n = 1 := by
  have h : zz_sa k ad ro co a b st n 12 = 1 := by
    unfold zz_sa
    rw [if_pos]
    rcases (by omega : x = 5 ∨ x = 6 ∨ x = 7 ∨ x = 8 ∨ x = 9 ∨ x = 10 ∨ x = 11) with rfl | rfl | rfl | rfl | rfl | rfl | rfl
    · have e := hf.1 rfl
      subst e
      omega
    · have e := hf.2.1 rfl
      subst e
      omega
    · have e := hf.2.2.1 rfl
      subst e
      omega
    · have e := hf.2.2.2.1 rfl
      subst e
      omega
    · have e := hf.2.2.2.2.1 rfl
      subst e
      omega
    · have e := hf.2.2.2.2.2.1 rfl
      subst e
      omega
    · have e := hf.2.2.2.2.2.2 rfl
      subst e
      omega
  unfold zz_sf
  rw [if_pos (Or.inr (Or.inr h))]
theorem zz_sfk {k ad ro co a b st n : Int} (h : k < 1 ∨ 9 < k) : zz_sf k ad ro co a b st n = 1 := by
  unfold zz_sf
  rw [if_pos (by omega)]
theorem zz_sf0 {k ad ro co a b st n : Int} (hk : 1 ≤ k ∧ k ≤ 9) (h : zz_sa k ad ro co a b st n 12 = 0) : zz_sf k ad ro co a b st n = 0 := by
  unfold zz_sf
  rw [if_neg (by omega)]
theorem zz_il1 {k pb ph sb sh ad ro co a b st n s : Int} (h : zz_sf k ad ro co a b st n = 1 ∨ zz_sh k ro co s = 1 ∨ zz_nf k n s = 1 ∨ zz_tf k pb ph sb sh n = 1 ∨ zz_re k ad ro co a b st n s = 1) : zz_il k pb ph sb sh ad ro co a b st n s = 1 := by
  unfold zz_il
  rw [if_pos h]
theorem zz_il0 {k pb ph sb sh ad ro co a b st n s : Int} (h1 : zz_sf k ad ro co a b st n = 0) (h2 : zz_sh k ro co s = 0) (h3 : zz_nf k n s = 0) (h4 : zz_tf k pb ph sb sh n = 0) (h5 : zz_re k ad ro co a b st n s = 0) : zz_il k pb ph sb sh ad ro co a b st n s = 0 := by
  unfold zz_il
  rw [if_neg (by omega)]
theorem zz_shx {k ro co s r : Int} (h : (r = 1 ∧ k ≠ 9 ∧ (ro < 1 ∨ co < 1 ∨ s < co)) ∨ (r = 0 ∧ (k = 9 ∨ (1 ≤ ro ∧ 1 ≤ co ∧ co ≤ s)))) : zz_sh k ro co s = r := by
  unfold zz_sh
  split
  · omega
  · omega
theorem zz_nfx {k n s r : Int} (h : (r = 1 ∧ ((k = 5 ∧ (n / 2 < 1 ∨ s < n / 2)) ∨ ((k = 6 ∨ k = 9) ∧ 2 < n))) ∨ (r = 0 ∧ (k = 5 → 1 ≤ n / 2 ∧ n / 2 ≤ s) ∧ ((k = 6 ∨ k = 9) → n ≤ 2))) : zz_nf k n s = r := by
  unfold zz_nf
  split
  · omega
  · omega
theorem zz_tfx {k pb ph sb sh n r : Int} (h : (r = 1 ∧ (((k < 5 ∨ (k = 9 ∧ n = 0)) ∧ (pb ≠ 0 ∨ sb ≠ 0)) ∨ ((k = 8 ∨ (k = 9 ∧ n = 2)) ∧ (ph ≠ 0 ∨ sh ≠ 0)))) ∨ (r = 0 ∧ ((k < 5 ∨ (k = 9 ∧ n = 0)) → pb = 0 ∧ sb = 0) ∧ ((k = 8 ∨ (k = 9 ∧ n = 2)) → ph = 0 ∧ sh = 0))) : zz_tf k pb ph sb sh n = r := by
  unfold zz_tf
  split
  · omega
  · omega
theorem zz_re1 {k ad ro co a b st n s R0 R1 R2 R3 R4 W0 W1 W2 W3 W4 : Int} (hk : 1 ≤ k ∧ k ≤ 9) (q1 : k = 1 → R0 = ad + (ro - 1) * st + co - 1 ∧ R1 = -1 ∧ R2 = -1 ∧ R3 = -1 ∧ R4 = -1 ∧ W0 = -1 ∧ W1 = a + (ro - 1) * s + co - 1 ∧ W2 = -1 ∧ W3 = -1 ∧ W4 = -1) (q2 : k = 2 → R0 = ad + (ro - 1) * st + co - 1 ∧ R1 = -1 ∧ R2 = -1 ∧ R3 = -1 ∧ R4 = -1 ∧ W0 = -1 ∧ W1 = -1 ∧ W2 = a + (ro - 1) * s + co - 1 ∧ W3 = -1 ∧ W4 = -1) (q3 : k = 3 → R0 = -1 ∧ R1 = -1 ∧ R2 = -1 ∧ R3 = -1 ∧ R4 = -1 ∧ W0 = -1 ∧ W1 = a + (ro - 1) * s + co - 1 ∧ W2 = -1 ∧ W3 = -1 ∧ W4 = -1) (q4 : k = 4 → R0 = ad + (ro - 1) * st + 4 * co - 1 ∧ R1 = -1 ∧ R2 = -1 ∧ R3 = -1 ∧ R4 = -1 ∧ W0 = -1 ∧ W1 = -1 ∧ W2 = -1 ∧ W3 = a + (ro - 1) * s + co - 1 ∧ W4 = -1) (q5 : k = 5 → R0 = -1 ∧ R1 = a + (ro - 1) * s + n / 2 - 1 ∧ R2 = st + (n / 2 - 1) * s + co - 1 ∧ (R3 = b + (ro - 1) * s + co - 1 ∨ R3 = -1) ∧ R4 = -1 ∧ W0 = -1 ∧ W1 = -1 ∧ W2 = -1 ∧ W3 = b + (ro - 1) * s + co - 1 ∧ W4 = -1) (q6 : k = 6 → R0 = -1 ∧ R1 = a + (ro - 1) * s + co - 1 ∧ R2 = -1 ∧ (R3 = b + (ro - 1) * s + co - 1 ∨ R3 = -1) ∧ R4 = -1 ∧ W0 = -1 ∧ W1 = -1 ∧ W2 = -1 ∧ W3 = b + (ro - 1) * s + co - 1 ∧ W4 = -1) (q7 : k = 7 → R0 = -1 ∧ R1 = -1 ∧ R2 = -1 ∧ R3 = a + (ro - 1) * s + co - 1 ∧ R4 = -1 ∧ W0 = -1 ∧ W1 = -1 ∧ W2 = -1 ∧ W3 = -1 ∧ W4 = b + (ro - 1) * s + co - 1) (q8 : k = 8 → R0 = -1 ∧ R1 = -1 ∧ R2 = -1 ∧ R3 = -1 ∧ R4 = a + (ro - 1) * s + co - 1 ∧ W0 = ad + (ro - 1) * st + co - 1 ∧ W1 = -1 ∧ W2 = -1 ∧ W3 = -1 ∧ W4 = -1) (q9 : k = 9 → R0 = -1 ∧ R1 = -1 ∧ R2 = -1 ∧ R3 = -1 ∧ R4 = -1 ∧ W0 = -1 ∧ W1 = -1 ∧ W2 = -1 ∧ W3 = -1 ∧ W4 = -1) (h : 4096 ≤ R0 ∨ 4096 ≤ W0 ∨ 512 ≤ R1 ∨ 512 ≤ W1 ∨ 512 ≤ R2 ∨ 512 ≤ W2 ∨ 256 ≤ R3 ∨ 256 ≤ W3 ∨ 256 ≤ R4 ∨ 256 ≤ W4) : zz_re k ad ro co a b st n s = 1 := by
  rcases (by omega : k = 1 ∨ k = 2 ∨ k = 3 ∨ k = 4 ∨ k = 5 ∨ k = 6 ∨ k = 7 ∨ k = 8 ∨ k = 9) with rfl | rfl | rfl | rfl | rfl | rfl | rfl | rfl | rfl
  · have h9 := q1 rfl
    clear q1 q2 q3 q4 q5 q6 q7 q8 q9
    unfold zz_re
    rw [if_pos (by omega)]
  · have h9 := q2 rfl
    clear q1 q2 q3 q4 q5 q6 q7 q8 q9
    unfold zz_re
    rw [if_pos (by omega)]
  · have h9 := q3 rfl
    clear q1 q2 q3 q4 q5 q6 q7 q8 q9
    unfold zz_re
    rw [if_pos (by omega)]
  · have h9 := q4 rfl
    clear q1 q2 q3 q4 q5 q6 q7 q8 q9
    unfold zz_re
    rw [if_pos (by omega)]
  · have h9 := q5 rfl
    clear q1 q2 q3 q4 q5 q6 q7 q8 q9
    unfold zz_re
    rw [if_pos (by omega)]
  · have h9 := q6 rfl
    clear q1 q2 q3 q4 q5 q6 q7 q8 q9
    unfold zz_re
    rw [if_pos (by omega)]
  · have h9 := q7 rfl
    clear q1 q2 q3 q4 q5 q6 q7 q8 q9
    unfold zz_re
    rw [if_pos (by omega)]
  · have h9 := q8 rfl
    clear q1 q2 q3 q4 q5 q6 q7 q8 q9
    unfold zz_re
    rw [if_pos (by omega)]
  · have h9 := q9 rfl
    clear q1 q2 q3 q4 q5 q6 q7 q8 q9
    unfold zz_re
    rw [if_pos (by omega)]
theorem zz_re0 {k ad ro co a b st n s R0 R1 R2 R3 R4 W0 W1 W2 W3 W4 : Int} (hk : 1 ≤ k ∧ k ≤ 9) (q1 : k = 1 → R0 = ad + (ro - 1) * st + co - 1 ∧ R1 = -1 ∧ R2 = -1 ∧ R3 = -1 ∧ R4 = -1 ∧ W0 = -1 ∧ W1 = a + (ro - 1) * s + co - 1 ∧ W2 = -1 ∧ W3 = -1 ∧ W4 = -1) (q2 : k = 2 → R0 = ad + (ro - 1) * st + co - 1 ∧ R1 = -1 ∧ R2 = -1 ∧ R3 = -1 ∧ R4 = -1 ∧ W0 = -1 ∧ W1 = -1 ∧ W2 = a + (ro - 1) * s + co - 1 ∧ W3 = -1 ∧ W4 = -1) (q3 : k = 3 → R0 = -1 ∧ R1 = -1 ∧ R2 = -1 ∧ R3 = -1 ∧ R4 = -1 ∧ W0 = -1 ∧ W1 = a + (ro - 1) * s + co - 1 ∧ W2 = -1 ∧ W3 = -1 ∧ W4 = -1) (q4 : k = 4 → R0 = ad + (ro - 1) * st + 4 * co - 1 ∧ R1 = -1 ∧ R2 = -1 ∧ R3 = -1 ∧ R4 = -1 ∧ W0 = -1 ∧ W1 = -1 ∧ W2 = -1 ∧ W3 = a + (ro - 1) * s + co - 1 ∧ W4 = -1) (q5 : k = 5 → R0 = -1 ∧ R1 = a + (ro - 1) * s + n / 2 - 1 ∧ R2 = st + (n / 2 - 1) * s + co - 1 ∧ (R3 = b + (ro - 1) * s + co - 1 ∨ R3 = -1) ∧ R4 = -1 ∧ W0 = -1 ∧ W1 = -1 ∧ W2 = -1 ∧ W3 = b + (ro - 1) * s + co - 1 ∧ W4 = -1) (q6 : k = 6 → R0 = -1 ∧ R1 = a + (ro - 1) * s + co - 1 ∧ R2 = -1 ∧ (R3 = b + (ro - 1) * s + co - 1 ∨ R3 = -1) ∧ R4 = -1 ∧ W0 = -1 ∧ W1 = -1 ∧ W2 = -1 ∧ W3 = b + (ro - 1) * s + co - 1 ∧ W4 = -1) (q7 : k = 7 → R0 = -1 ∧ R1 = -1 ∧ R2 = -1 ∧ R3 = a + (ro - 1) * s + co - 1 ∧ R4 = -1 ∧ W0 = -1 ∧ W1 = -1 ∧ W2 = -1 ∧ W3 = -1 ∧ W4 = b + (ro - 1) * s + co - 1) (q8 : k = 8 → R0 = -1 ∧ R1 = -1 ∧ R2 = -1 ∧ R3 = -1 ∧ R4 = a + (ro - 1) * s + co - 1 ∧ W0 = ad + (ro - 1) * st + co - 1 ∧ W1 = -1 ∧ W2 = -1 ∧ W3 = -1 ∧ W4 = -1) (q9 : k = 9 → R0 = -1 ∧ R1 = -1 ∧ R2 = -1 ∧ R3 = -1 ∧ R4 = -1 ∧ W0 = -1 ∧ W1 = -1 ∧ W2 = -1 ∧ W3 = -1 ∧ W4 = -1) (h : R0 < 4096 ∧ W0 < 4096 ∧ R1 < 512 ∧ W1 < 512 ∧ R2 < 512 ∧ W2 < 512 ∧ R3 < 256 ∧ W3 < 256 ∧ R4 < 256 ∧ W4 < 256) : zz_re k ad ro co a b st n s = 0 := by
  rcases (by omega : k = 1 ∨ k = 2 ∨ k = 3 ∨ k = 4 ∨ k = 5 ∨ k = 6 ∨ k = 7 ∨ k = 8 ∨ k = 9) with rfl | rfl | rfl | rfl | rfl | rfl | rfl | rfl | rfl
  · have h9 := q1 rfl
    clear q1 q2 q3 q4 q5 q6 q7 q8 q9
    unfold zz_re
    rw [if_neg (by omega)]
  · have h9 := q2 rfl
    clear q1 q2 q3 q4 q5 q6 q7 q8 q9
    unfold zz_re
    rw [if_neg (by omega)]
  · have h9 := q3 rfl
    clear q1 q2 q3 q4 q5 q6 q7 q8 q9
    unfold zz_re
    rw [if_neg (by omega)]
  · have h9 := q4 rfl
    clear q1 q2 q3 q4 q5 q6 q7 q8 q9
    unfold zz_re
    rw [if_neg (by omega)]
  · have h9 := q5 rfl
    clear q1 q2 q3 q4 q5 q6 q7 q8 q9
    unfold zz_re
    rw [if_neg (by omega)]
  · have h9 := q6 rfl
    clear q1 q2 q3 q4 q5 q6 q7 q8 q9
    unfold zz_re
    rw [if_neg (by omega)]
  · have h9 := q7 rfl
    clear q1 q2 q3 q4 q5 q6 q7 q8 q9
    unfold zz_re
    rw [if_neg (by omega)]
  · have h9 := q8 rfl
    clear q1 q2 q3 q4 q5 q6 q7 q8 q9
    unfold zz_re
    rw [if_neg (by omega)]
  · have h9 := q9 rfl
    clear q1 q2 q3 q4 q5 q6 q7 q8 q9
    unfold zz_re
    rw [if_neg (by omega)]
theorem zz_nmx {k u r : Int} (hu : 5 ≤ u ∧ u ≤ 11) (h : (r = 1 ∧ ((u = 5 ∧ (k = 1 ∨ k = 2 ∨ k = 4 ∨ k = 8)) ∨ ((u = 6 ∨ u = 7 ∨ u = 8) ∧ k ≠ 9) ∨ (u = 9 ∧ (k = 5 ∨ k = 6 ∨ k = 7)) ∨ (u = 10 ∧ (k = 1 ∨ k = 2 ∨ k = 4 ∨ k = 5 ∨ k = 8)) ∨ (u = 11 ∧ (k = 5 ∨ k = 6 ∨ k = 7 ∨ k = 9)))) ∨ (r = 0 ∧ ¬ ((u = 5 ∧ (k = 1 ∨ k = 2 ∨ k = 4 ∨ k = 8)) ∨ ((u = 6 ∨ u = 7 ∨ u = 8) ∧ k ≠ 9) ∨ (u = 9 ∧ (k = 5 ∨ k = 6 ∨ k = 7)) ∨ (u = 10 ∧ (k = 1 ∨ k = 2 ∨ k = 4 ∨ k = 5 ∨ k = 8)) ∨ (u = 11 ∧ (k = 5 ∨ k = 6 ∨ k = 7 ∨ k = 9))))) : zz_nm k u = r := by
  unfold zz_nm
  split
  · split
    · omega
    · omega
  · split
    · split
      · omega
      · omega
    · split
      · split
        · omega
        · omega
      · split
        · split
          · omega
          · omega
        · split
          · omega
          · omega
theorem zz_st67 {k u f : Int} (hu : u = 6 ∨ u = 7) (hk : k = 9 → f = 0) : zz_st1 k u f = 0 := by
  refine zz_st0 ?_
  by_cases h : k = 9
  · exact Or.inr (hk h)
  · exact Or.inl (zz_nmx (by omega) (by omega))
theorem zz_nbx {i u z v w : Int} (hi : 1 ≤ i ∧ i ≤ 9) (hu : 5 ≤ u ∧ u ≤ 11) (tv : ([0, 1504, 1504, 448, 1504, 4032, 3008, 3008, 1504, 2048] : List Int32).getD i.toNat 0 = Int32.ofInt z) (e1 : v = (Int32.ofInt z >>> (Int32.ofInt u &&& 31)).toInt) (e2 : w = (Int32.ofInt v &&& Int32.ofInt 1).toInt) : w = zz_nm i u := by
  subst e2
  subst e1
  rw [← tv]
  rcases (by omega : i = 1 ∨ i = 2 ∨ i = 3 ∨ i = 4 ∨ i = 5 ∨ i = 6 ∨ i = 7 ∨ i = 8 ∨ i = 9) with rfl | rfl | rfl | rfl | rfl | rfl | rfl | rfl | rfl <;> rcases (by omega : u = 5 ∨ u = 6 ∨ u = 7 ∨ u = 8 ∨ u = 9 ∨ u = 10 ∨ u = 11) with rfl | rfl | rfl | rfl | rfl | rfl | rfl <;> decide +kernel
theorem zz_e1 {k pb ph sb sh ad ro co a b st n s : Int} (hk : 1 ≤ k ∧ k ≤ 9) (h : (k = 9 ∧ (0 < ro ∨ 0 < co ∨ 2 < n)) ∨ (k ≠ 9 ∧ (ro < 1 ∨ co < 1 ∨ s < co))) : zz_il k pb ph sb sh ad ro co a b st n s = 1 := by
  by_cases h9 : k = 9
  · by_cases h6 : ro = 0
    · by_cases h7 : co = 0
      · exact zz_il1 (Or.inr (Or.inr (Or.inl (zz_nfx (by omega)))))
      · exact zz_il1 (Or.inl (zz_sf1 (x := 7) (f := co) (by omega) ⟨fun h => absurd h (by decide), fun h => absurd h (by decide), fun _ => rfl, fun h => absurd h (by decide), fun h => absurd h (by decide), fun h => absurd h (by decide), fun h => absurd h (by decide)⟩ (zz_st2 (zz_nmx (by omega) (by omega)) h7)))
    · exact zz_il1 (Or.inl (zz_sf1 (x := 6) (f := ro) (by omega) ⟨fun h => absurd h (by decide), fun _ => rfl, fun h => absurd h (by decide), fun h => absurd h (by decide), fun h => absurd h (by decide), fun h => absurd h (by decide), fun h => absurd h (by decide)⟩ (zz_st2 (zz_nmx (by omega) (by omega)) h6)))
  · exact zz_il1 (Or.inr (Or.inl (zz_shx (by omega))))
theorem zz_lg_mk2 {k ad ro co a b st n s R0 R1 R2 R3 R4 W0 W1 W2 W3 W4 : Int} (hk : 1 ≤ k ∧ k ≤ 9) (hs : (k = 9 ∧ ro = 0 ∧ co = 0) ∨ (k ≠ 9 ∧ 1 ≤ ro ∧ 1 ≤ co ∧ co ≤ s)) (h5 : k = 5 → 1 ≤ n / 2 ∧ n / 2 ≤ s) (q1 : k = 1 → R0 = ad + (ro - 1) * st + co - 1 ∧ R1 = -1 ∧ R2 = -1 ∧ R3 = -1 ∧ R4 = -1 ∧ W0 = -1 ∧ W1 = a + (ro - 1) * s + co - 1 ∧ W2 = -1 ∧ W3 = -1 ∧ W4 = -1) (q2 : k = 2 → R0 = ad + (ro - 1) * st + co - 1 ∧ R1 = -1 ∧ R2 = -1 ∧ R3 = -1 ∧ R4 = -1 ∧ W0 = -1 ∧ W1 = -1 ∧ W2 = a + (ro - 1) * s + co - 1 ∧ W3 = -1 ∧ W4 = -1) (q3 : k = 3 → R0 = -1 ∧ R1 = -1 ∧ R2 = -1 ∧ R3 = -1 ∧ R4 = -1 ∧ W0 = -1 ∧ W1 = a + (ro - 1) * s + co - 1 ∧ W2 = -1 ∧ W3 = -1 ∧ W4 = -1) (q4 : k = 4 → R0 = ad + (ro - 1) * st + 4 * co - 1 ∧ R1 = -1 ∧ R2 = -1 ∧ R3 = -1 ∧ R4 = -1 ∧ W0 = -1 ∧ W1 = -1 ∧ W2 = -1 ∧ W3 = a + (ro - 1) * s + co - 1 ∧ W4 = -1) (q5 : k = 5 → R0 = -1 ∧ R1 = a + (ro - 1) * s + n / 2 - 1 ∧ R2 = st + (n / 2 - 1) * s + co - 1 ∧ (R3 = b + (ro - 1) * s + co - 1 ∨ R3 = -1) ∧ R4 = -1 ∧ W0 = -1 ∧ W1 = -1 ∧ W2 = -1 ∧ W3 = b + (ro - 1) * s + co - 1 ∧ W4 = -1) (q6 : k = 6 → R0 = -1 ∧ R1 = a + (ro - 1) * s + co - 1 ∧ R2 = -1 ∧ (R3 = b + (ro - 1) * s + co - 1 ∨ R3 = -1) ∧ R4 = -1 ∧ W0 = -1 ∧ W1 = -1 ∧ W2 = -1 ∧ W3 = b + (ro - 1) * s + co - 1 ∧ W4 = -1) (q7 : k = 7 → R0 = -1 ∧ R1 = -1 ∧ R2 = -1 ∧ R3 = a + (ro - 1) * s + co - 1 ∧ R4 = -1 ∧ W0 = -1 ∧ W1 = -1 ∧ W2 = -1 ∧ W3 = -1 ∧ W4 = b + (ro - 1) * s + co - 1) (q8 : k = 8 → R0 = -1 ∧ R1 = -1 ∧ R2 = -1 ∧ R3 = -1 ∧ R4 = a + (ro - 1) * s + co - 1 ∧ W0 = ad + (ro - 1) * st + co - 1 ∧ W1 = -1 ∧ W2 = -1 ∧ W3 = -1 ∧ W4 = -1) (q9 : k = 9 → R0 = -1 ∧ R1 = -1 ∧ R2 = -1 ∧ R3 = -1 ∧ R4 = -1 ∧ W0 = -1 ∧ W1 = -1 ∧ W2 = -1 ∧ W3 = -1 ∧ W4 = -1) (bb : R0 < 4096 ∧ W0 < 4096 ∧ R1 < 512 ∧ W1 < 512 ∧ R2 < 512 ∧ W2 < 512 ∧ R3 < 256 ∧ W3 < 256 ∧ R4 < 256 ∧ W4 < 256) : zz_lg k ad ro co a b st n s := by
  unfold zz_lg
  exact ⟨by clear q1 q2 q3 q4 q5 q6 q7 q8 q9; omega, by clear q1 q2 q3 q4 q5 q6 q7 q8 q9; omega, by clear q1 q2 q3 q4 q5 q6 q7 q8 q9; omega, fun h => by have h9 := q1 h; clear q1 q2 q3 q4 q5 q6 q7 q8 q9; omega, fun h => by have h9 := q2 h; clear q1 q2 q3 q4 q5 q6 q7 q8 q9; omega, fun h => by have h9 := q3 h; clear q1 q2 q3 q4 q5 q6 q7 q8 q9; omega, fun h => by have h9 := q4 h; clear q1 q2 q3 q4 q5 q6 q7 q8 q9; omega, fun h => by have h9 := q5 h; clear q1 q2 q3 q4 q5 q6 q7 q8 q9; omega, fun h => by have h9 := q6 h; clear q1 q2 q3 q4 q5 q6 q7 q8 q9; omega, fun h => by have h9 := q7 h; clear q1 q2 q3 q4 q5 q6 q7 q8 q9; omega, fun h => by have h9 := q8 h; clear q1 q2 q3 q4 q5 q6 q7 q8 q9; omega⟩
theorem zz_lc_mk2 {k ad ro co a b st n s R0 R1 R2 R3 R4 W0 W1 W2 W3 W4 : Int} (hk : 1 ≤ k ∧ k ≤ 9) (hs : k = 9 ∨ (1 ≤ ro ∧ 1 ≤ co ∧ co ≤ s)) (h5 : k = 5 → 1 ≤ n / 2 ∧ n / 2 ≤ s) (q1 : k = 1 → R0 = ad + (ro - 1) * st + co - 1 ∧ R1 = -1 ∧ R2 = -1 ∧ R3 = -1 ∧ R4 = -1 ∧ W0 = -1 ∧ W1 = a + (ro - 1) * s + co - 1 ∧ W2 = -1 ∧ W3 = -1 ∧ W4 = -1) (q2 : k = 2 → R0 = ad + (ro - 1) * st + co - 1 ∧ R1 = -1 ∧ R2 = -1 ∧ R3 = -1 ∧ R4 = -1 ∧ W0 = -1 ∧ W1 = -1 ∧ W2 = a + (ro - 1) * s + co - 1 ∧ W3 = -1 ∧ W4 = -1) (q3 : k = 3 → R0 = -1 ∧ R1 = -1 ∧ R2 = -1 ∧ R3 = -1 ∧ R4 = -1 ∧ W0 = -1 ∧ W1 = a + (ro - 1) * s + co - 1 ∧ W2 = -1 ∧ W3 = -1 ∧ W4 = -1) (q4 : k = 4 → R0 = ad + (ro - 1) * st + 4 * co - 1 ∧ R1 = -1 ∧ R2 = -1 ∧ R3 = -1 ∧ R4 = -1 ∧ W0 = -1 ∧ W1 = -1 ∧ W2 = -1 ∧ W3 = a + (ro - 1) * s + co - 1 ∧ W4 = -1) (q5 : k = 5 → R0 = -1 ∧ R1 = a + (ro - 1) * s + n / 2 - 1 ∧ R2 = st + (n / 2 - 1) * s + co - 1 ∧ (R3 = b + (ro - 1) * s + co - 1 ∨ R3 = -1) ∧ R4 = -1 ∧ W0 = -1 ∧ W1 = -1 ∧ W2 = -1 ∧ W3 = b + (ro - 1) * s + co - 1 ∧ W4 = -1) (q6 : k = 6 → R0 = -1 ∧ R1 = a + (ro - 1) * s + co - 1 ∧ R2 = -1 ∧ (R3 = b + (ro - 1) * s + co - 1 ∨ R3 = -1) ∧ R4 = -1 ∧ W0 = -1 ∧ W1 = -1 ∧ W2 = -1 ∧ W3 = b + (ro - 1) * s + co - 1 ∧ W4 = -1) (q7 : k = 7 → R0 = -1 ∧ R1 = -1 ∧ R2 = -1 ∧ R3 = a + (ro - 1) * s + co - 1 ∧ R4 = -1 ∧ W0 = -1 ∧ W1 = -1 ∧ W2 = -1 ∧ W3 = -1 ∧ W4 = b + (ro - 1) * s + co - 1) (q8 : k = 8 → R0 = -1 ∧ R1 = -1 ∧ R2 = -1 ∧ R3 = -1 ∧ R4 = a + (ro - 1) * s + co - 1 ∧ W0 = ad + (ro - 1) * st + co - 1 ∧ W1 = -1 ∧ W2 = -1 ∧ W3 = -1 ∧ W4 = -1) (q9 : k = 9 → R0 = -1 ∧ R1 = -1 ∧ R2 = -1 ∧ R3 = -1 ∧ R4 = -1 ∧ W0 = -1 ∧ W1 = -1 ∧ W2 = -1 ∧ W3 = -1 ∧ W4 = -1) (bb : R0 < 4096 ∧ W0 < 4096 ∧ R1 < 512 ∧ W1 < 512 ∧ R2 < 512 ∧ W2 < 512 ∧ R3 < 256 ∧ W3 < 256 ∧ R4 < 256 ∧ W4 < 256) : zz_lc k ad ro co a b st n s := by
  unfold zz_lc
  exact ⟨by clear q1 q2 q3 q4 q5 q6 q7 q8 q9; omega, by clear q1 q2 q3 q4 q5 q6 q7 q8 q9; omega, fun h => by have h9 := q1 h; clear q1 q2 q3 q4 q5 q6 q7 q8 q9; omega, fun h => by have h9 := q2 h; clear q1 q2 q3 q4 q5 q6 q7 q8 q9; omega, fun h => by have h9 := q3 h; clear q1 q2 q3 q4 q5 q6 q7 q8 q9; omega, fun h => by have h9 := q4 h; clear q1 q2 q3 q4 q5 q6 q7 q8 q9; omega, fun h => by have h9 := q5 h; clear q1 q2 q3 q4 q5 q6 q7 q8 q9; omega, fun h => by have h9 := q6 h; clear q1 q2 q3 q4 q5 q6 q7 q8 q9; omega, fun h => by have h9 := q7 h; clear q1 q2 q3 q4 q5 q6 q7 q8 q9; omega, fun h => by have h9 := q8 h; clear q1 q2 q3 q4 q5 q6 q7 q8 q9; omega⟩

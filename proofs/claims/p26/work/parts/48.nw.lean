/-! Words by their codes, tokens of networks' texts. By hand. -/
/-- k signs from q on -/
def zt_ls (f : Nat → Int) : Int → Nat → List Int
  | _, 0 => []
  | q, k + 1 => f q.toNat :: zt_ls f (q + 1) k
theorem zt_lsl (f : Nat → Int) (k : Nat) : ∀ q : Int, (zt_ls f q k).length = k := by
  induction k with
  | zero =>
    intro q
    rfl
  | succ k ih =>
    intro q
    show (zt_ls f (q + 1) k).length + 1 = k + 1
    rw [ih]
theorem zt_lsm (f : Nat → Int) : ∀ (w : List Int) (q : Int), zt_ms f q w ↔ zt_ls f q w.length = w := by
  intro w
  induction w with
  | nil =>
    intro q
    exact ⟨fun _ => rfl, fun _ => trivial⟩
  | cons c cs ih =>
    intro q
    show (f q.toNat = c ∧ zt_ms f (q + 1) cs) ↔ f q.toNat :: zt_ls f (q + 1) cs.length = c :: cs
    rw [ih (q + 1), List.cons.injEq]
theorem zt_lss (f : Nat → Int) (k : Nat) : ∀ q : Int, zt_ls f q (k + 1) = zt_ls f q k ++ [f (q + (k : Int)).toNat] := by
  induction k with
  | zero =>
    intro q
    show [f q.toNat] = [f (q + ((0 : Nat) : Int)).toNat]
    rw [show q + ((0 : Nat) : Int) = q by omega]
  | succ k ih =>
    intro q
    show f q.toNat :: zt_ls f (q + 1) (k + 1) = f q.toNat :: (zt_ls f (q + 1) k ++ [f (q + ((k + 1 : Nat) : Int)).toNat])
    rw [ih (q + 1), show q + 1 + (k : Int) = q + ((k + 1 : Nat) : Int) by omega]
theorem zt_cda (a : List Int) (c : Int) : zt_cd (a ++ [c]) = zt_cd a + 32 ^ a.length * (c - 96) := by
  induction a with
  | nil =>
    show (c - 96) + 32 * 0 = 0 + 32 ^ 0 * (c - 96)
    rw [Int.pow_zero]
    omega
  | cons d ds ih =>
    show (d - 96) + 32 * zt_cd (ds ++ [c]) = (d - 96) + 32 * zt_cd ds + 32 ^ (ds.length + 1) * (c - 96)
    rw [ih, Int.pow_succ, Int.mul_add, Int.add_assoc, Int.mul_comm (32 ^ ds.length) 32, Int.mul_assoc]
theorem zt_cdi : ∀ a b : List Int, (∀ c ∈ a, 97 ≤ c ∧ c ≤ 122) → (∀ c ∈ b, 97 ≤ c ∧ c ≤ 122) → zt_cd a = zt_cd b → a = b := by
  intro a
  induction a with
  | nil =>
    intro b _ hb h
    exact ((zt_cd0 b hb).2 (by rw [← h]; exact Int.le_refl _)).symm
  | cons c cs ih =>
    intro b ha hb h
    cases b with
    | nil => exact absurd ((zt_cd0 (c :: cs) ha).2 (by rw [h]; exact Int.le_refl _)) (by intro h1; cases h1)
    | cons d ds =>
      have h1 := ha c (List.mem_cons_self ..)
      have h2 := hb d (List.mem_cons_self ..)
      have h3 : (c - 96) + 32 * zt_cd cs = (d - 96) + 32 * zt_cd ds := h
      have h4 : c = d := by omega
      rw [h4, ih ds (fun x hx => ha x (List.mem_cons_of_mem _ hx)) (fun x hx => hb x (List.mem_cons_of_mem _ hx)) (by omega)]
/-- the code of k letters from q on -/
def zt_cw (f : Nat → Int) (q : Int) (k : Nat) : Int := zt_cd (zt_ls f q k)
theorem zt_cws (f : Nat → Int) (q : Int) (k : Nat) : zt_cw f q (k + 1) = zt_cw f q k + 32 ^ k * (f (q + (k : Int)).toNat - 96) := by
  unfold zt_cw
  rw [zt_lss, zt_cda, zt_lsl]
theorem zt_lsr (f : Nat → Int) (k : Nat) : ∀ q : Int, (∀ i : Int, q ≤ i → i < q + (k : Int) → 97 ≤ f i.toNat ∧ f i.toNat ≤ 122) → ∀ c ∈ zt_ls f q k, 97 ≤ c ∧ c ≤ 122 := by
  induction k with
  | zero =>
    intro q _ c hc
    cases hc
  | succ k ih =>
    intro q h c hc
    have hc1 : c ∈ f q.toNat :: zt_ls f (q + 1) k := hc
    rcases List.mem_cons.mp hc1 with h1 | h1
    · rw [h1]
      exact h q (Int.le_refl _) (by omega)
    · exact ih (q + 1) (fun i h2 h3 => h i (by omega) (by omega)) c h1
/-- a part of letters is the word w if its code is w's -/
theorem zt_cwx {f : Nat → Int} {q r : Int} {w : List Int} (hq : q ≤ r) (hl : ∀ i : Int, q ≤ i → i < r → 97 ≤ f i.toNat ∧ f i.toNat ≤ 122) (hw : ∀ c ∈ w, 97 ≤ c ∧ c ≤ 122) : zt_iw f q r w ↔ zt_cw f q (r - q).toNat = zt_cd w := by
  constructor
  · intro h
    have h1 : (r - q).toNat = w.length := by
      have h2 := h.1
      omega
    unfold zt_cw
    rw [h1, (zt_lsm f w q).mp h.2]
  · intro h
    have h1 := zt_cdi _ _ (zt_lsr f (r - q).toNat q (fun i h2 h3 => hl i h2 (by omega))) hw h
    have h2 := zt_lsl f (r - q).toNat q
    rw [h1] at h2
    refine ⟨by omega, (zt_lsm f w q).mpr ?_⟩
    rw [h2]
    exact h1
/-- two parts of letters are the same if their codes are -/
theorem zt_cwe {f : Nat → Int} {q r p s : Int} (hq : q ≤ r) (hp : p ≤ s) (hl : ∀ i : Int, q ≤ i → i < r → 97 ≤ f i.toNat ∧ f i.toNat ≤ 122) (hm : ∀ i : Int, p ≤ i → i < s → 97 ≤ f i.toNat ∧ f i.toNat ≤ 122) : zt_cw f q (r - q).toNat = zt_cw f p (s - p).toNat ↔ zt_ls f q (r - q).toNat = zt_ls f p (s - p).toNat := by
  constructor
  · intro h
    exact zt_cdi _ _ (zt_lsr f _ q (fun i h2 h3 => hl i h2 (by omega))) (zt_lsr f _ p (fun i h2 h3 => hm i h2 (by omega))) h
  · intro h
    unfold zt_cw
    rw [h]
theorem zt_lse {f g : Nat → Int} (k : Nat) : ∀ q : Int, (∀ i : Int, q ≤ i → i < q + (k : Int) → f i.toNat = g i.toNat) → zt_ls f q k = zt_ls g q k := by
  induction k with
  | zero =>
    intro q _
    rfl
  | succ k ih =>
    intro q h
    show f q.toNat :: zt_ls f (q + 1) k = g q.toNat :: zt_ls g (q + 1) k
    rw [h q (Int.le_refl _) (by omega), ih (q + 1) (fun i h1 h2 => h i (by omega) (by omega))]
/-- a token of a network's text, by its code among the words of instructions, its first sign's place and its end: 0 none, 100 a number, 102 a word of up to eight letters, 101 another -/
def zt_kk (f : Nat → Int) (q t x : Int) : Int := if t = 0 then 0 else if t = 100 then 100 else if 97 ≤ f q.toNat ∧ f q.toNat ≤ 122 ∧ x - q ≤ 8 then 102 else 101
noncomputable def zt_kn (f : Nat → Int) (e p : Int) : Int := zt_kk f (zt_R 32 32 f e p) (zt_tk f e p) (zt_te f e p)
noncomputable def zt_km (f : Nat → Int) (e p : Int) : Int := zt_kk f (zt_R 32 32 f e p) (zt_tm f e p) (zt_tn f e p)
def zt_kc (f : Nat → Int) (e p : Int) : Int := zt_cw f (zt_R 32 32 f e p) (zt_te f e p - zt_R 32 32 f e p).toNat
def zt_kd (f : Nat → Int) (e p : Int) : Int := zt_cw f (zt_R 32 32 f e p) (zt_tn f e p - zt_R 32 32 f e p).toNat
theorem zt_keq {f : Nat → Int} {e c s p : Int} (hc : c = zt_U 35 f e s) (hs : s ≤ e) (h1 : s ≤ p) (h2 : p ≤ c) : zt_km f c p = zt_kn f e p ∧ zt_tn f c p = zt_te f e p ∧ zt_tv f c p = zt_tv f e p ∧ zt_kd f c p = zt_kc f e p ∧ p ≤ zt_te f e p ∧ zt_te f e p ≤ c := by
  have a := zt_eq hc hs h1 h2
  have hU := zt_Ub (c := 35) (f := f) hs
  rw [← hc] at hU
  have hq : zt_R 32 32 f e p = zt_R 32 32 f c p := zt_Rc h2 hU.1.2 (hU.2.elim Or.inl (fun h => Or.inr (by rw [h]; omega)))
  refine ⟨?_, a.2.1, a.2.2.1, ?_, a.2.2.2.1, a.2.2.2.2⟩
  · unfold zt_km zt_kn
    rw [a.1, a.2.1, hq]
  · unfold zt_kd zt_kc
    rw [a.2.1, hq]
theorem zt_kn0 {f : Nat → Int} {e p : Int} (h : zt_tk f e p = 0) : zt_kn f e p = 0 := by
  unfold zt_kn zt_kk
  rw [if_pos h]
theorem zt_knx {f : Nat → Int} {e p : Int} (h : zt_tk f e p = 100) : zt_kn f e p = 100 := by
  unfold zt_kn zt_kk
  rw [if_neg (by omega), if_pos h]
theorem zt_knw {f : Nat → Int} {e p q x : Int} (hq : q = zt_R 32 32 f e p) (h : zt_tk f e p = zt_wl f q x 20) (hx : zt_te f e p = x) (hl : 97 ≤ f q.toNat ∧ f q.toNat ≤ 122) : zt_kn f e p = if x - q ≤ 8 then 102 else 101 := by
  have b := zt_wlb (f := f) (q := q) (r := x) (k := 20) (by omega)
  unfold zt_kn zt_kk
  rw [← hq, hx, if_neg (by omega), if_neg (by omega)]
  by_cases h8 : x - q ≤ 8
  · rw [if_pos ⟨hl.1, hl.2, h8⟩, if_pos h8]
  · rw [if_neg (by omega), if_neg h8]
theorem zt_knd {f : Nat → Int} {e p q : Int} (hq : q = zt_R 32 32 f e p) (h : zt_tk f e p = 101) (hl : ¬ (97 ≤ f q.toNat ∧ f q.toNat ≤ 122)) : zt_kn f e p = 101 := by
  unfold zt_kn zt_kk
  rw [← hq, if_neg (by omega), if_neg (by omega), if_neg (by omega)]
theorem zt_knb (f : Nat → Int) (e p : Int) : zt_kn f e p = 0 ∨ zt_kn f e p = 100 ∨ zt_kn f e p = 101 ∨ zt_kn f e p = 102 := by
  unfold zt_kn zt_kk
  split
  · exact Or.inl rfl
  · split
    · exact Or.inr (Or.inl rfl)
    · split
      · exact Or.inr (Or.inr (Or.inr rfl))
      · exact Or.inr (Or.inr (Or.inl rfl))
/-- the class's sort of a token (0 nothing, 1 a word, 2 a number, 3 wrong) and its size -/
def zt_k4 (s d : Int) : Int := if s = 0 then 0 else if s = 2 then 100 else if s = 1 ∧ d ≤ 8 then 102 else 101
theorem zt_k4x {s d : Int} : (s = 0 → zt_k4 s d = 0) ∧ (s = 2 → zt_k4 s d = 100) ∧ (s = 1 → d ≤ 8 → zt_k4 s d = 102) ∧ (s = 1 → 8 < d → zt_k4 s d = 101) ∧ (s ≠ 0 → s ≠ 1 → s ≠ 2 → zt_k4 s d = 101) := by
  unfold zt_k4
  refine ⟨fun h => ?_, fun h => ?_, fun h h1 => ?_, fun h h1 => ?_, fun h h1 h2 => ?_⟩
  · rw [if_pos h]
  · rw [if_neg (by omega), if_pos h]
  · rw [if_neg (by omega), if_neg (by omega), if_pos ⟨h, h1⟩]
  · rw [if_neg (by omega), if_neg (by omega), if_neg (by omega)]
  · rw [if_neg h, if_neg h2, if_neg (by omega)]
theorem zt_Rl {lo hi e p i : Int} {f : Nat → Int} (h1 : p ≤ i) (h2 : i < zt_R lo hi f e p) : lo ≤ f i.toNat ∧ f i.toNat ≤ hi := (zt_rnx lo hi f (e - p).toNat p).1 i h1 h2
theorem zt_RR {lo hi e p : Int} {f : Nat → Int} : zt_R lo hi f e (zt_R lo hi f e p) = zt_R lo hi f e p := by
  rcases Int.lt_or_le e p with hp | hp
  · have h : zt_R lo hi f e p = p := zt_R0 (Or.inl (by omega))
    rw [h, h]
  · have a := (zt_rnx lo hi f (e - p).toNat p).2
    have b := zt_Rb (lo := lo) (hi := hi) (f := f) hp
    refine zt_R0 ?_
    rcases a with a | a
    · left
      have c : zt_R lo hi f e p = p + ((e - p).toNat : Int) := a
      omega
    · exact Or.inr a
/-- the codes of the words that networks' texts have, by the strings' numbers -/
def zt_WK (t : Nat) : Int := ([0, 0, 0, 0, 0, 0, 0, 0, 0, 0, 641, 802, 24, 0, 0, 530067, 0, 0, 0, 0, 0, 735715, 409072, 4225, 21094748847, 171141, 21177619, 700594, 609, 21676489] : List Int).getD t 0
theorem zt_twk : ∀ t : Nat, t < 59 → zt_WK t ≠ 0 → zt_cd (zt_tw t) = zt_WK t ∧ (∀ c ∈ zt_tw t, 97 ≤ c ∧ c ≤ 122) ∧ (zt_tw t).length ≤ 8 := by decide +kernel
/-- a word of the table is what isWord says, by codes -/
theorem zt_ISK {r s q p w : Int} {f : Nat → Int} {t : Nat} (hk : zt_cd (zt_tw t) = w ∧ (∀ c ∈ zt_tw t, 97 ≤ c ∧ c ≤ 122) ∧ (zt_tw t).length ≤ 8) (hq : q ≤ p) (hl : s = 1 → ∀ i : Int, q ≤ i → i < p → 97 ≤ f i.toNat ∧ f i.toNat ≤ 122) (h : zt_IS r s f q p t) : (r = 1 ∧ zt_k4 s (p - q) = 102 ∧ zt_cw f q (p - q).toNat = w) ∨ (r = 0 ∧ ¬ (zt_k4 s (p - q) = 102 ∧ zt_cw f q (p - q).toNat = w)) := by
  have c := zt_k4x (s := s) (d := p - q)
  rcases h with ⟨h1, h2, h3⟩ | ⟨h1, h2⟩
  · refine Or.inl ⟨h1, c.2.2.1 h2 ?_, ?_⟩
    · have h4 := h3.1
      have h5 := hk.2.2
      omega
    · rw [(zt_cwx hq (hl h2) hk.2.1).mp h3, hk.1]
  · refine Or.inr ⟨h1, fun h3 => ?_⟩
    by_cases h4 : s = 1
    · refine h2.elim (fun h5 => h5 h4) (fun h5 => h5 ?_)
      rw [zt_cwx hq (hl h4) hk.2.1, hk.1]
      exact h3.2
    · rcases (by omega : s = 0 ∨ s = 2 ∨ (s ≠ 0 ∧ s ≠ 2)) with h5 | h5 | h5
      · have d := c.1 h5
        omega
      · have d := c.2.1 h5
        omega
      · have d := c.2.2.2.2 h5.1 h4 h5.2
        omega
/-- which option a token of code c, a word of code w, tells: 1 by, 2 outputs, 3 at, 4 step, 5 edge, 6 shift, 7 relu, 8 as; 0 none -/
def zt_ob (c w : Int) : Int := if c = 102 then (if w = 802 then 1 else if w = 21094748847 then 2 else if w = 641 then 3 else if w = 530067 then 4 else if w = 171141 then 5 else if w = 21177619 then 6 else if w = 700594 then 7 else if w = 609 then 8 else 0) else 0
/-- a word of networks' texts, which is no name -/
def zt_kw (w : Int) : Prop := w = 21676489 ∨ w = 735715 ∨ w = 409072 ∨ w = 4225 ∨ w = 802 ∨ w = 24 ∨ w = 21094748847 ∨ w = 641 ∨ w = 530067 ∨ w = 171141 ∨ w = 21177619 ∨ w = 700594 ∨ w = 609
/-- the tensor of this name among the first k, -1 if there is none -/
def zt_nf (N : Nat → Int) (w : Int) : Nat → Int
  | 0 => -1
  | k + 1 => if N k = w then (k : Int) else zt_nf N w k
/-- is option i, whose word ends at p, as it must be? -/
def zt_og (tk te wc : Int → Int) (N : Nat → Int) (T : Nat) (i p : Int) : Prop := (i = 1 ∧ tk p = 100 ∧ tk (te p) = 102 ∧ wc (te p) = 24 ∧ tk (te (te p)) = 100) ∨ (2 ≤ i ∧ i ≤ 6 ∧ tk p = 100) ∨ i = 7 ∨ (i = 8 ∧ tk p = 102 ∧ ¬ zt_kw (wc p) ∧ zt_nf N (wc p) T = -1)
def zt_oe (te : Int → Int) (i p : Int) : Int := if i = 1 then te (te (te p)) else if i = 7 then p else te p
/-- what is told behind it: 1, 2 the kernel, 3 outputs, 4 at, 5 step, 6 edge, 7 shift, 8 relu, 9 the name; 10 + i: option i was told -/
def zt_ou (te tv wc : Int → Int) (i p : Int) (o : Nat → Int) : Nat → Int := fun j => if (j : Int) = 10 + i then 1 else if i = 1 ∧ j = 1 then tv p else if i = 1 ∧ j = 2 then tv (te (te p)) else if 2 ≤ i ∧ i ≤ 6 ∧ (j : Int) = i + 1 then tv p else if i = 7 ∧ j = 8 then 1 else if i = 8 ∧ j = 9 then wc p else o j
/-- the options from a token of code c, word w, that ends at p on; 0 says whether they are right -/
noncomputable def zt_no (tk te tv wc : Int → Int) (A : Int → Prop) (N : Nat → Int) (T : Nat) : Nat → Int → Int → Int → (Nat → Int) → Nat → Int
  | 0, _, _, _, o => fun j => if j = 0 then 0 else o j
  | k + 1, c, w, p, o => @ite (Nat → Int) (c = 0) (Classical.propDecidable _) (fun j => if j = 0 then 1 else o j) (@ite (Nat → Int) (zt_ob c w = 0 ∨ ¬ A (zt_ob c w) ∨ o (10 + (zt_ob c w).toNat) = 1 ∨ ¬ zt_og tk te wc N T (zt_ob c w) p) (Classical.propDecidable _) (fun j => if j = 0 then 0 else o j) (zt_no tk te tv wc A N T k (tk (zt_oe te (zt_ob c w) p)) (wc (zt_oe te (zt_ob c w) p)) (te (zt_oe te (zt_ob c w) p)) (zt_ou te tv wc (zt_ob c w) p o)))
theorem zt_no0 {tk te tv wc : Int → Int} {A : Int → Prop} {N : Nat → Int} {T k : Nat} {c w p : Int} {o : Nat → Int} (h : c = 0) : zt_no tk te tv wc A N T (k + 1) c w p o = fun j => if j = 0 then 1 else o j := if_pos h
theorem zt_noN {tk te tv wc : Int → Int} {A : Int → Prop} {N : Nat → Int} {T k : Nat} {c w p : Int} {o : Nat → Int} (h : c ≠ 0) (hb : zt_ob c w = 0 ∨ ¬ A (zt_ob c w) ∨ o (10 + (zt_ob c w).toNat) = 1 ∨ ¬ zt_og tk te wc N T (zt_ob c w) p) : zt_no tk te tv wc A N T (k + 1) c w p o = fun j => if j = 0 then 0 else o j := (if_neg h).trans (if_pos hb)
theorem zt_noS {tk te tv wc : Int → Int} {A : Int → Prop} {N : Nat → Int} {T k : Nat} {c w p : Int} {o : Nat → Int} (h : c ≠ 0) (hb : ¬ (zt_ob c w = 0 ∨ ¬ A (zt_ob c w) ∨ o (10 + (zt_ob c w).toNat) = 1 ∨ ¬ zt_og tk te wc N T (zt_ob c w) p)) : zt_no tk te tv wc A N T (k + 1) c w p o = zt_no tk te tv wc A N T k (tk (zt_oe te (zt_ob c w) p)) (wc (zt_oe te (zt_ob c w) p)) (te (zt_oe te (zt_ob c w) p)) (zt_ou te tv wc (zt_ob c w) p o) := (if_neg h).trans (if_neg hb)
/-! Networks as functions: v s k is slot s of tensor k (0 kind: 1 convolution, 2 pool, 3 addition; 1, 2 what it takes; 3, 4 kernel; 5 step; 6 edge; 7 shift; 8 relu; 9 address; 10, 11, 12 form; 13 begin; 14 name); v 15 0 how many tensors, v 15 1 the end of all. -/
abbrev zn_T : Type := Nat → Nat → Int
def zn_sz (v : zn_T) (k : Nat) : Int := (v 10 k * v 11 k) * v 12 k
def zn_V (v : zn_T) : Prop := (1 ≤ v 15 0 ∧ v 15 0 ≤ 11 ∧ v 15 1 ≤ 2048 ∧ v 13 0 = 0) ∧ (∀ k : Int, 0 ≤ k → k < v 15 0 → (1 ≤ v 10 k.toNat ∧ v 10 k.toNat ≤ 63) ∧ (1 ≤ v 11 k.toNat ∧ v 11 k.toNat ≤ 63) ∧ (1 ≤ v 12 k.toNat ∧ v 12 k.toNat ≤ 63) ∧ 0 ≤ v 13 k.toNat ∧ v 13 k.toNat + zn_sz v k.toNat ≤ v 15 1) ∧ (∃ k : Int, 0 ≤ k ∧ k < v 15 0 ∧ v 13 k.toNat + zn_sz v k.toNat = v 15 1)
def zn_in (v : zn_T) (a b : Int) : Prop := (0 ≤ a ∧ a < v 15 0) ∧ 0 ≤ b ∧ b < v 15 0
def zn_fit (K kh kw st ed sh ch : Int) : Prop := (K = 3 ∧ 0 ≤ sh ∧ sh ≤ 15) ∨ (K ≠ 3 ∧ (1 ≤ kh ∧ kh ≤ 3) ∧ (1 ≤ kw ∧ kw ≤ 3) ∧ ((K = 2 ∧ 1 ≤ st ∧ st ≤ 3) ∨ (K ≠ 2 ∧ (1 ≤ st ∧ st ≤ 2) ∧ (0 ≤ ed ∧ ed ≤ 1) ∧ (0 ≤ sh ∧ sh ≤ 15) ∧ 1 ≤ ch ∧ ch ≤ 16)))
def zn_out (K k st ed h : Int) : Int := if K = 3 then h else (h + 2 * ed - k) / st + 1
def zn_ch (K ch c : Int) : Int := if K = 1 then ch else c
def zn_res (K kh kw st ed ch ad h w c h2 w2 c2 : Int) : Prop := (K = 3 ∧ h = h2 ∧ w = w2 ∧ c = c2) ∨ (K ≠ 3 ∧ 0 ≤ h + 2 * ed - kh ∧ 0 ≤ w + 2 * ed - kw ∧ (K = 2 ∨ (K ≠ 2 ∧ 0 ≤ ad ∧ ad + ch * (4 + (kh * kw) * c) ≤ 4096)) ∧ zn_out K kh st ed h ≤ 63 ∧ zn_out K kw st ed w ≤ 63)
def zn_nz (v : zn_T) (K a kh kw st ed ch : Int) : Int := (zn_out K kh st ed (v 10 a.toNat) * zn_out K kw st ed (v 11 a.toNat)) * zn_ch K ch (v 12 a.toNat)
def zn_rs (v : zn_T) (K a b kh kw st ed ch ad : Int) : Prop := zn_res K kh kw st ed ch ad (v 10 a.toNat) (v 11 a.toNat) (v 12 a.toNat) (v 10 b.toNat) (v 11 b.toNat) (v 12 b.toNat)
/-- may such a layer come, and if not, why: 1 no such tensor, 2 a wrong number, 3 no room -/
def zn_F (v : zn_T) (K a b kh kw st ed sh ch ad r : Int) : Prop := (r = 1 ∧ ¬ zn_in v a b) ∨ (r = 2 ∧ zn_in v a b ∧ ¬ (zn_fit K kh kw st ed sh ch ∧ zn_rs v K a b kh kw st ed ch ad)) ∨ (r = 3 ∧ zn_in v a b ∧ zn_fit K kh kw st ed sh ch ∧ zn_rs v K a b kh kw st ed ch ad ∧ ¬ (v 15 0 ≤ 10 ∧ v 15 1 + zn_nz v K a kh kw st ed ch ≤ 2048)) ∨ (r = 0 ∧ zn_in v a b ∧ zn_fit K kh kw st ed sh ch ∧ zn_rs v K a b kh kw st ed ch ad ∧ v 15 0 ≤ 10 ∧ v 15 1 + zn_nz v K a kh kw st ed ch ≤ 2048)
theorem zn_Fu {v : zn_T} {K a b kh kw st ed sh ch ad r q : Int} (h : zn_F v K a b kh kw st ed sh ch ad r) (g : zn_F v K a b kh kw st ed sh ch ad q) : r = q := by
  rcases h with ⟨h, h1⟩ | ⟨h, h1, h2⟩ | ⟨h, h1, h2, h3, h4⟩ | ⟨h, h1, h2, h3, h4⟩
  · rcases g with ⟨g, g1⟩ | ⟨g, g1, g2⟩ | ⟨g, g1, g2, g3, g4⟩ | ⟨g, g1, g2, g3, g4⟩
    · rw [h, g]
    · exact absurd g1 h1
    · exact absurd g1 h1
    · exact absurd g1 h1
  · rcases g with ⟨g, g1⟩ | ⟨g, g1, g2⟩ | ⟨g, g1, g2, g3, g4⟩ | ⟨g, g1, g2, g3, g4⟩
    · exact absurd h1 g1
    · rw [h, g]
    · exact absurd ⟨g2, g3⟩ h2
    · exact absurd ⟨g2, g3⟩ h2
  · rcases g with ⟨g, g1⟩ | ⟨g, g1, g2⟩ | ⟨g, g1, g2, g3, g4⟩ | ⟨g, g1, g2, g3, g4⟩
    · exact absurd h1 g1
    · exact absurd ⟨h2, h3⟩ g2
    · rw [h, g]
    · exact absurd g4 h4
  · rcases g with ⟨g, g1⟩ | ⟨g, g1, g2⟩ | ⟨g, g1, g2, g3, g4⟩ | ⟨g, g1, g2, g3, g4⟩
    · exact absurd h1 g1
    · exact absurd ⟨h2, h3⟩ g2
    · exact absurd h4 g4
    · rw [h, g]
theorem zn_Fr {v : zn_T} {K a b kh kw st ed sh ch ad r : Int} (h : zn_F v K a b kh kw st ed sh ch ad r) : 0 ≤ r ∧ r ≤ 3 := by
  rcases h with ⟨h, _⟩ | ⟨h, _⟩ | ⟨h, _⟩ | ⟨h, _⟩
  · omega
  · omega
  · omega
  · omega
/-- the network with that layer -/
def zn_nw (v : zn_T) (K a b kh kw st ed sh rl ch ad nm : Int) : zn_T := fun s k => if s = 15 then (if k = 0 then v 15 0 + 1 else if k = 1 then v 15 1 + zn_nz v K a kh kw st ed ch else v 15 k) else if (k : Int) = v 15 0 then (if s = 0 then K else if s = 1 then a else if s = 2 then b else if s = 3 then kh else if s = 4 then kw else if s = 5 then st else if s = 6 then ed else if s = 7 then sh else if s = 8 then rl else if s = 9 then ad else if s = 10 then zn_out K kh st ed (v 10 a.toNat) else if s = 11 then zn_out K kw st ed (v 11 a.toNat) else if s = 12 then zn_ch K ch (v 12 a.toNat) else if s = 13 then v 15 1 else if s = 14 then nm else 0) else v s k
/-- the network of an input alone -/
def zn_ip (h w c nm : Int) : zn_T := fun s k => if s = 15 then (if k = 0 then 1 else if k = 1 then (h * w) * c else 0) else if s = 10 then h else if s = 11 then w else if s = 12 then c else if s = 14 then (if k = 0 then nm else 0) else if s = 3 ∨ s = 4 ∨ s = 5 then 1 else 0
theorem zn_nwo {v : zn_T} {K a b kh kw st ed sh rl ch ad nm : Int} {s k : Nat} (hs : s ≠ 15) (hk : (k : Int) < v 15 0) : zn_nw v K a b kh kw st ed sh rl ch ad nm s k = v s k := by
  unfold zn_nw
  rw [if_neg hs, if_neg (by omega)]
theorem zn_nwq {v : zn_T} {K a b kh kw st ed sh rl ch ad nm : Int} {s k : Nat} (hs : s ≠ 15) (hk : (k : Int) ≠ v 15 0) : zn_nw v K a b kh kw st ed sh rl ch ad nm s k = v s k := by
  unfold zn_nw
  rw [if_neg hs, if_neg hk]
theorem zn_nwT {v : zn_T} {K a b kh kw st ed sh rl ch ad nm : Int} : zn_nw v K a b kh kw st ed sh rl ch ad nm 15 0 = v 15 0 + 1 ∧ zn_nw v K a b kh kw st ed sh rl ch ad nm 15 1 = v 15 1 + zn_nz v K a kh kw st ed ch := ⟨rfl, rfl⟩
theorem zn_nwN {v : zn_T} {K a b kh kw st ed sh rl ch ad nm : Int} {s k : Nat} (hk : (k : Int) = v 15 0) (hs : s ≠ 15) : zn_nw v K a b kh kw st ed sh rl ch ad nm s k = if s = 0 then K else if s = 1 then a else if s = 2 then b else if s = 3 then kh else if s = 4 then kw else if s = 5 then st else if s = 6 then ed else if s = 7 then sh else if s = 8 then rl else if s = 9 then ad else if s = 10 then zn_out K kh st ed (v 10 a.toNat) else if s = 11 then zn_out K kw st ed (v 11 a.toNat) else if s = 12 then zn_ch K ch (v 12 a.toNat) else if s = 13 then v 15 1 else if s = 14 then nm else 0 := by
  show (if s = 15 then _ else if (k : Int) = v 15 0 then _ else _) = _
  rw [if_neg hs, if_pos hk]
theorem zn_mul3 {a b c : Int} (ha : 1 ≤ a) (hb : 1 ≤ b) (hc : 1 ≤ c) : 1 ≤ (a * b) * c := by
  have h1 : 0 < a * b := Int.mul_pos (by omega) (by omega)
  have h2 : 0 < (a * b) * c := Int.mul_pos h1 (by omega)
  omega
/-- the form of a layer that may come -/
theorem zn_frm {K kh kw st ed sh ch ad h w c h2 w2 c2 : Int} (hh : 1 ≤ h ∧ h ≤ 63) (hw : 1 ≤ w ∧ w ≤ 63) (hc : 1 ≤ c ∧ c ≤ 63) (hf : zn_fit K kh kw st ed sh ch) (hK : K = 1 ∨ K = 2 ∨ K = 3) (hr : zn_res K kh kw st ed ch ad h w c h2 w2 c2) : (1 ≤ zn_out K kh st ed h ∧ zn_out K kh st ed h ≤ 63) ∧ (1 ≤ zn_out K kw st ed w ∧ zn_out K kw st ed w ≤ 63) ∧ (1 ≤ zn_ch K ch c ∧ zn_ch K ch c ≤ 63) := by
  unfold zn_res at hr
  unfold zn_fit at hf
  rcases hr with hr | hr
  · have e : K = 3 := hr.1
    unfold zn_out zn_ch
    rw [if_pos e, if_pos e, if_neg (by omega)]
    exact ⟨hh, hw, hc⟩
  · have h1 : ∀ x : Int, 0 ≤ x → 0 ≤ x / st := fun x hx => Int.ediv_nonneg hx (by omega)
    have e1 : zn_out K kh st ed h = (h + 2 * ed - kh) / st + 1 := if_neg hr.1
    have e2 : zn_out K kw st ed w = (w + 2 * ed - kw) / st + 1 := if_neg hr.1
    have e3 := h1 _ hr.2.1
    have e4 := h1 _ hr.2.2.1
    refine ⟨⟨by omega, hr.2.2.2.2.1⟩, ⟨by omega, hr.2.2.2.2.2⟩, ?_⟩
    unfold zn_ch
    split
    · omega
    · exact hc
theorem zn_Vnw {v : zn_T} {K a b kh kw st ed sh rl ch ad nm : Int} (hV : zn_V v) (hK : K = 1 ∨ K = 2 ∨ K = 3) (h : zn_F v K a b kh kw st ed sh ch ad 0) : zn_V (zn_nw v K a b kh kw st ed sh rl ch ad nm) := by
  rcases h with ⟨h, _⟩ | ⟨h, _⟩ | ⟨h, _⟩ | ⟨_, h1, h2, h3, h4, h5⟩
  · omega
  · omega
  · omega
  · obtain ⟨⟨t1, t2, t3, t4⟩, hk, q, q1, q2, q3⟩ := hV
    unfold zn_in at h1
    have ha := hk a (by omega) (by omega)
    have f := zn_frm ha.1 ha.2.1 ha.2.2.1 h2 hK h3
    have p := zn_mul3 f.1.1 f.2.1.1 f.2.2.1
    have e0 : zn_nw v K a b kh kw st ed sh rl ch ad nm 15 0 = v 15 0 + 1 := rfl
    have e1 : zn_nw v K a b kh kw st ed sh rl ch ad nm 15 1 = v 15 1 + zn_nz v K a kh kw st ed ch := rfl
    have ez : zn_nz v K a kh kw st ed ch = (zn_out K kh st ed (v 10 a.toNat) * zn_out K kw st ed (v 11 a.toNat)) * zn_ch K ch (v 12 a.toNat) := rfl
    have g0 := hk q q1 q2
    have q4 : 1 ≤ zn_sz v q.toNat := zn_mul3 g0.1.1 g0.2.1.1 g0.2.2.1.1
    have n10 : zn_nw v K a b kh kw st ed sh rl ch ad nm 10 (v 15 0).toNat = zn_out K kh st ed (v 10 a.toNat) := (zn_nwN (by omega) (by decide)).trans rfl
    have n11 : zn_nw v K a b kh kw st ed sh rl ch ad nm 11 (v 15 0).toNat = zn_out K kw st ed (v 11 a.toNat) := (zn_nwN (by omega) (by decide)).trans rfl
    have n12 : zn_nw v K a b kh kw st ed sh rl ch ad nm 12 (v 15 0).toNat = zn_ch K ch (v 12 a.toNat) := (zn_nwN (by omega) (by decide)).trans rfl
    have n13 : zn_nw v K a b kh kw st ed sh rl ch ad nm 13 (v 15 0).toNat = v 15 1 := (zn_nwN (by omega) (by decide)).trans rfl
    have nz : zn_sz (zn_nw v K a b kh kw st ed sh rl ch ad nm) (v 15 0).toNat = zn_nz v K a kh kw st ed ch := by
      unfold zn_sz
      rw [n10, n11, n12, ez]
    refine ⟨⟨by omega, by omega, by omega, by rw [zn_nwo (v := v) (s := 13) (k := 0) (by decide) (by omega)]; exact t4⟩, fun k k1 k2 => ?_, v 15 0, by omega, by omega, by rw [nz, n13, e1]⟩
    rcases (by omega : k = v 15 0 ∨ k < v 15 0) with e | e
    · rw [e, nz, n10, n11, n12, n13, e1]
      exact ⟨f.1, f.2.1, f.2.2, by omega, Int.le_refl _⟩
    · have o : ∀ s : Nat, s ≠ 15 → zn_nw v K a b kh kw st ed sh rl ch ad nm s k.toNat = v s k.toNat := fun s hs => zn_nwo hs (by omega)
      have oz : zn_sz (zn_nw v K a b kh kw st ed sh rl ch ad nm) k.toNat = zn_sz v k.toNat := by
        unfold zn_sz
        rw [o 10 (by decide), o 11 (by decide), o 12 (by decide)]
      have g := hk k k1 e
      rw [oz, o 10 (by decide), o 11 (by decide), o 12 (by decide), o 13 (by decide), e1]
      exact ⟨g.1, g.2.1, g.2.2.1, g.2.2.2.1, by omega⟩
theorem zn_Vip {h w c nm : Int} (hh : 1 ≤ h ∧ h ≤ 63) (hw : 1 ≤ w ∧ w ≤ 63) (hc : 1 ≤ c ∧ c ≤ 63) (hs : (h * w) * c ≤ 2048) : zn_V (zn_ip h w c nm) := by
  have e0 : zn_ip h w c nm 15 0 = 1 := rfl
  have e1 : zn_ip h w c nm 15 1 = (h * w) * c := rfl
  have z : ∀ k : Nat, zn_sz (zn_ip h w c nm) k = (h * w) * c := fun _ => rfl
  have b : ∀ k : Nat, zn_ip h w c nm 13 k = 0 := fun _ => rfl
  refine ⟨⟨by omega, by omega, by omega, rfl⟩, fun k _ _ => ⟨hh, hw, hc, ?_, ?_⟩, 0, by decide, by omega, ?_⟩
  · rw [b]
    exact Int.le_refl _
  · rw [b, z, e1]
    omega
  · rw [b, z, e1]
    omega
/-- a shift of the calls: 16 more with relu -/
def zn_sh (p : Int) : Int := if 16 ≤ p then p - 16 else p
def zn_rl (p : Int) : Int := if 16 ≤ p then 1 else 0
theorem zn_nar {p a b : Int} (h : (16 ≤ p ∧ b = 1 ∧ a = p - 16) ∨ (p < 16 ∧ b = 0 ∧ a = p)) : a = zn_sh p ∧ b = zn_rl p := by
  unfold zn_sh zn_rl
  rcases h with h | h
  · rw [if_pos h.1, if_pos h.1]
    exact ⟨h.2.2, h.2.1⟩
  · rw [if_neg (by omega), if_neg (by omega)]
    exact ⟨h.2.2, h.2.1⟩
theorem zn_o1 (k st ed h : Int) : zn_out 1 k st ed h = (h + 2 * ed - k) / st + 1 := if_neg (by decide)
theorem zn_o2 (k st ed h : Int) : zn_out 2 k st ed h = (h + 2 * ed - k) / st + 1 := if_neg (by decide)
theorem zn_o3 (k st ed h : Int) : zn_out 3 k st ed h = h := if_pos rfl
theorem zn_c1 (ch c : Int) : zn_ch 1 ch c = ch := if_pos rfl
theorem zn_c2 (ch c : Int) : zn_ch 2 ch c = c := if_neg (by decide)
theorem zn_c3 (ch c : Int) : zn_ch 3 ch c = c := if_neg (by decide)
theorem zn_shx (p : Int) : (zn_sh p + 16 * zn_rl p = p) ∧ (0 ≤ zn_sh p ∧ zn_sh p ≤ 15 ↔ 0 ≤ p ∧ p ≤ 31) := by
  unfold zn_sh zn_rl
  by_cases h : 16 ≤ p
  · rw [if_pos h, if_pos h]
    omega
  · rw [if_neg h, if_neg h]
    omega
theorem zn_res1 {kh kw st ed ch ad h w c h2 w2 c2 : Int} (q : zn_res 1 kh kw st ed ch ad h w c h2 w2 c2) : (0 ≤ h + 2 * ed - kh ∧ 0 ≤ w + 2 * ed - kw) ∧ (0 ≤ ad ∧ ad + ch * (4 + (kh * kw) * c) ≤ 4096) ∧ (h + 2 * ed - kh) / st + 1 ≤ 63 ∧ (w + 2 * ed - kw) / st + 1 ≤ 63 := by
  rcases q with q | q
  · exact absurd q.1 (by decide)
  · rcases q.2.2.2.1 with x | x
    · exact absurd x (by decide)
    · have o1 := q.2.2.2.2.1
      have o2 := q.2.2.2.2.2
      rw [zn_o1] at o1 o2
      exact ⟨⟨q.2.1, q.2.2.1⟩, x.2, o1, o2⟩
theorem zn_res2 {kh kw st ed ch ad h w c h2 w2 c2 : Int} (q : zn_res 2 kh kw st ed ch ad h w c h2 w2 c2) : (0 ≤ h + 2 * ed - kh ∧ 0 ≤ w + 2 * ed - kw) ∧ (h + 2 * ed - kh) / st + 1 ≤ 63 ∧ (w + 2 * ed - kw) / st + 1 ≤ 63 := by
  rcases q with q | q
  · exact absurd q.1 (by decide)
  · have o1 := q.2.2.2.2.1
    have o2 := q.2.2.2.2.2
    rw [zn_o2] at o1 o2
    exact ⟨⟨q.2.1, q.2.2.1⟩, o1, o2⟩
theorem zn_res3 {kh kw st ed ch ad h w c h2 w2 c2 : Int} (q : zn_res 3 kh kw st ed ch ad h w c h2 w2 c2) : h = h2 ∧ w = w2 ∧ c = c2 := by
  rcases q with q | q
  · exact q.2
  · exact absurd rfl q.1
theorem zn_resn {K kh kw st ed ch ad h w c h2 w2 c2 : Int} (hK : K ≠ 3) (q : zn_res K kh kw st ed ch ad h w c h2 w2 c2) : 0 ≤ h + 2 * ed - kh ∧ 0 ≤ w + 2 * ed - kw := by
  rcases q with q | q
  · exact absurd q.1 hK
  · exact ⟨q.2.1, q.2.2.1⟩
theorem zn_dm {p a b : Int} (e1 : a = p.tdiv 10) (e2 : b = p.tmod 10) : p = 10 * a + b := by
  have := Int.tdiv_mul_add_tmod p 10
  rw [e1, e2]
  omega
theorem zn_cvf {p1 p3 p4 p5 kh kw st ed ch h w c h2 w2 c2 : Int} (e1 : kh = p1.tdiv 10) (e2 : kw = p1.tmod 10) (e3 : st = p3.tdiv 10) (e4 : ed = p3.tmod 10) (hf : zn_fit 1 kh kw st ed (zn_sh p4) ch) (hr : zn_res 1 kh kw st ed ch p5 h w c h2 w2 c2) : ((11 ≤ p1 ∧ p1 ≤ 33) ∧ (1 ≤ kh ∧ kh ≤ 3) ∧ (1 ≤ kw ∧ kw ≤ 3) ∧ 1 ≤ ch ∧ ch ≤ 16) ∧ ((10 ≤ p3 ∧ p3 ≤ 21) ∧ (1 ≤ st ∧ st ≤ 2) ∧ (0 ≤ ed ∧ ed ≤ 1) ∧ 0 ≤ p4 ∧ p4 ≤ 31) ∧ (0 ≤ h + 2 * ed - kh ∧ 0 ≤ w + 2 * ed - kw) ∧ (0 ≤ p5 ∧ p5 + ch * (4 + (kh * kw) * c) ≤ 4096) ∧ (0 ≤ (h + 2 * ed - kh) / st ∧ 0 ≤ (w + 2 * ed - kw) / st) ∧ (h + 2 * ed - kh) / st + 1 ≤ 63 ∧ (w + 2 * ed - kw) / st + 1 ≤ 63 := by
  have d1 := zn_dm e1 e2
  have d3 := zn_dm e3 e4
  clear e1 e2 e3 e4
  have r := zn_res1 hr
  have f : (1 ≤ kh ∧ kh ≤ 3) ∧ (1 ≤ kw ∧ kw ≤ 3) ∧ (1 ≤ st ∧ st ≤ 2) ∧ (0 ≤ ed ∧ ed ≤ 1) ∧ (0 ≤ zn_sh p4 ∧ zn_sh p4 ≤ 15) ∧ 1 ≤ ch ∧ ch ≤ 16 := by
    rcases hf with x | x
    · exact absurd x.1 (by decide)
    · rcases x.2.2.2 with y | y
      · exact absurd y.1 (by decide)
      · exact ⟨x.2.1, x.2.2.1, y.2⟩
  have s := (zn_shx p4).2.mp f.2.2.2.2.1
  exact ⟨⟨⟨by omega, by omega⟩, f.1, f.2.1, f.2.2.2.2.2⟩, ⟨⟨by omega, by omega⟩, f.2.2.1, f.2.2.2.1, s⟩, r.1, r.2.1, ⟨Int.ediv_nonneg r.1.1 (by omega), Int.ediv_nonneg r.1.2 (by omega)⟩, r.2.2⟩
theorem zn_plf {p1 kh kw st h w c h2 w2 c2 : Int} (e1 : kh = p1.tdiv 10) (e2 : kw = p1.tmod 10) (hf : zn_fit 2 kh kw st 0 0 1) (hr : zn_res 2 kh kw st 0 1 0 h w c h2 w2 c2) : ((11 ≤ p1 ∧ p1 ≤ 33) ∧ (1 ≤ kh ∧ kh ≤ 3) ∧ (1 ≤ kw ∧ kw ≤ 3) ∧ 1 ≤ st ∧ st ≤ 3) ∧ (0 ≤ h + 2 * 0 - kh ∧ 0 ≤ w + 2 * 0 - kw) ∧ (0 ≤ (h + 2 * 0 - kh) / st ∧ 0 ≤ (w + 2 * 0 - kw) / st) ∧ (h + 2 * 0 - kh) / st + 1 ≤ 63 ∧ (w + 2 * 0 - kw) / st + 1 ≤ 63 := by
  have d1 := zn_dm e1 e2
  clear e1 e2
  have r := zn_res2 hr
  have f : (1 ≤ kh ∧ kh ≤ 3) ∧ (1 ≤ kw ∧ kw ≤ 3) ∧ 1 ≤ st ∧ st ≤ 3 := by
    rcases hf with x | x
    · exact absurd x.1 (by decide)
    · rcases x.2.2.2 with y | y
      · exact ⟨x.2.1, x.2.2.1, y.2⟩
      · exact absurd rfl y.1
  exact ⟨⟨⟨by omega, by omega⟩, f.1, f.2.1, f.2.2⟩, r.1, ⟨Int.ediv_nonneg r.1.1 (by omega), Int.ediv_nonneg r.1.2 (by omega)⟩, r.2⟩
theorem zn_adf {p2 h w c h2 w2 c2 : Int} (hf : zn_fit 3 1 1 1 0 (zn_sh p2) 1) (hr : zn_res 3 1 1 1 0 1 0 h w c h2 w2 c2) : (0 ≤ p2 ∧ p2 ≤ 31) ∧ h = h2 ∧ w = w2 ∧ c = c2 := by
  rcases hf with x | x
  · exact ⟨(zn_shx p2).2.mp x.2, zn_res3 hr⟩
  · exact absurd rfl x.1
/-- the input alone is left -/
def zn_dp (v : zn_T) : zn_T := fun s k => if s = 15 then (if k = 0 then 1 else if k = 1 then zn_sz v 0 else 0) else v s k
theorem zn_Vdp {v : zn_T} (h : zn_V v) : zn_V (zn_dp v) := by
  obtain ⟨⟨t1, t2, t3, t4⟩, hk, _⟩ := h
  have g := hk 0 (by decide) (by omega)
  have e0 : zn_dp v 15 0 = 1 := rfl
  have e1 : zn_dp v 15 1 = zn_sz v 0 := rfl
  have t5 : v 13 (0 : Int).toNat = 0 := t4
  have z : ∀ k : Nat, zn_sz (zn_dp v) k = zn_sz v k := fun _ => rfl
  have g5 : v 13 (0 : Int).toNat + zn_sz v 0 ≤ v 15 1 := g.2.2.2.2
  refine ⟨⟨by omega, by omega, by omega, t4⟩, fun k k1 k2 => ?_, 0, by decide, by omega, ?_⟩
  · have e : k = 0 := by omega
    subst e
    exact ⟨g.1, g.2.1, g.2.2.1, g.2.2.2.1, by show v 13 (0 : Int).toNat + zn_sz v 0 ≤ zn_sz v 0; omega⟩
  · show v 13 (0 : Int).toNat + zn_sz v 0 = zn_sz v 0
    omega
/-- what form tells -/
def zn_fo (v : zn_T) (t w : Int) : Int := if w = 0 then v 10 t.toNat else if w = 1 then v 11 t.toNat else if w = 2 then v 12 t.toNat else v 13 t.toNat
/-! A line of a network's text. -/
def zn_tt (c x w : Int) (N : Nat → Int) (T : Nat) : Int := if c = 100 then x else if c = 102 then zt_nf N w T else -1
def zn_kd (c w : Int) : Int := if c = 102 then (if w = 735715 then 1 else if w = 409072 then 2 else if w = 4225 then 3 else 0) else 0
/-- which options a line of kind K (0 an input) may tell -/
def zn_al (K i : Int) : Prop := K = 1 ∨ (K = 2 ∧ (i = 1 ∨ i = 4 ∨ i = 8)) ∨ (K = 3 ∧ (i = 6 ∨ i = 7 ∨ i = 8)) ∨ (K = 0 ∧ i = 8)
def zn_o0 : Nat → Int := fun j => if j = 1 ∨ j = 2 ∨ j = 3 ∨ j = 5 then 1 else 0
def zn_ne (K : Int) (o : Nat → Int) : Prop := (K = 1 → o 11 = 1 ∧ o 12 = 1 ∧ o 13 = 1) ∧ (K = 2 → o 11 = 1)
def zn_l1 (tk te tv wc : Int → Int) (v : zn_T) (p : Int) : Int := zn_tt (tk (te p)) (tv (te p)) (wc (te p)) (v 14) (v 15 0).toNat
def zn_l2 (tk te tv wc : Int → Int) (v : zn_T) (p : Int) : Int := if zn_kd (tk p) (wc p) = 3 then zn_tt (tk (te (te p))) (tv (te (te p))) (wc (te (te p))) (v 14) (v 15 0).toNat else zn_l1 tk te tv wc v p
def zn_l3 (tk te wc : Int → Int) (p : Int) : Int := if zn_kd (tk p) (wc p) = 3 then te (te (te p)) else te (te p)
noncomputable def zn_lo (tk te tv wc : Int → Int) (v : zn_T) (p : Int) : Nat → Int := zt_no tk te tv wc (zn_al (zn_kd (tk p) (wc p))) (v 14) (v 15 0).toNat 1600 (tk (zn_l3 tk te wc p)) (wc (zn_l3 tk te wc p)) (te (zn_l3 tk te wc p)) zn_o0
def zn_lg (tk te tv wc : Int → Int) (v : zn_T) (p : Int) : Prop := zn_kd (tk p) (wc p) ≠ 0 ∧ zn_l1 tk te tv wc v p ≠ -1 ∧ zn_l2 tk te tv wc v p ≠ -1 ∧ zn_lo tk te tv wc v p 0 = 1 ∧ zn_ne (zn_kd (tk p) (wc p)) (zn_lo tk te tv wc v p) ∧ zn_F v (zn_kd (tk p) (wc p)) (zn_l1 tk te tv wc v p) (zn_l2 tk te tv wc v p) (zn_lo tk te tv wc v p 1) (zn_lo tk te tv wc v p 2) (zn_lo tk te tv wc v p 5) (zn_lo tk te tv wc v p 6) (zn_lo tk te tv wc v p 7) (zn_lo tk te tv wc v p 3) (zn_lo tk te tv wc v p 4) 0
noncomputable def zn_lv (tk te tv wc : Int → Int) (v : zn_T) (p : Int) : zn_T := zn_nw v (zn_kd (tk p) (wc p)) (zn_l1 tk te tv wc v p) (zn_l2 tk te tv wc v p) (zn_lo tk te tv wc v p 1) (zn_lo tk te tv wc v p 2) (zn_lo tk te tv wc v p 5) (zn_lo tk te tv wc v p 6) (zn_lo tk te tv wc v p 7) (zn_lo tk te tv wc v p 8) (zn_lo tk te tv wc v p 3) (zn_lo tk te tv wc v p 4) (zn_lo tk te tv wc v p 9)
/-- the options of an input's line -/
noncomputable def zn_io (tk te tv wc : Int → Int) (p : Int) : Nat → Int := zt_no tk te tv wc (zn_al 0) (fun _ => 0) 0 1600 (tk p) (wc p) (te p) zn_o0
def zn_fp (h w c : Int) : Prop := (1 ≤ h ∧ h ≤ 63) ∧ (1 ≤ w ∧ w ≤ 63) ∧ (1 ≤ c ∧ c ≤ 63) ∧ (h * w) * c ≤ 2048
def zn_ig (tk te tv wc : Int → Int) (p : Int) : Prop := (tk p = 102 ∧ wc p = 21676489) ∧ tk (te p) = 100 ∧ (tk (te (te p)) = 102 ∧ wc (te (te p)) = 24) ∧ tk (te (te (te p))) = 100 ∧ (tk (te (te (te (te p)))) = 102 ∧ wc (te (te (te (te p)))) = 24) ∧ tk (te (te (te (te (te p))))) = 100 ∧ zn_io tk te tv wc (te (te (te (te (te (te p)))))) 0 = 1 ∧ zn_fp (tv (te p)) (tv (te (te (te p)))) (tv (te (te (te (te (te p))))))
noncomputable def zn_iv (tk te tv wc : Int → Int) (p : Int) : zn_T := zn_ip (tv (te p)) (tv (te (te (te p)))) (tv (te (te (te (te (te p)))))) (zn_io tk te tv wc (te (te (te (te (te (te p)))))) 9)
/-- a network's text from the line at a on, which is line q; b: an input was there. The answer, and the network -/
noncomputable def zn_nt (f : Nat → Int) (n : Int) : Nat → Int → Int → Int → zn_T → Int × zn_T
  | 0, _, q, _, v => (q, v)
  | k + 1, a, q, b, v => @ite _ (n < a) (Classical.propDecidable _) (if b = 1 then -1 else q, v) (@ite _ (zt_kn f (zt_U 10 f n a) a = 0) (Classical.propDecidable _) (zn_nt f n k (zt_U 10 f n a + 1) (q + 1) b v) (@ite _ (b = 1) (Classical.propDecidable _) (@ite _ (zn_lg (zt_kn f (zt_U 10 f n a)) (zt_te f (zt_U 10 f n a)) (zt_tv f (zt_U 10 f n a)) (zt_kc f (zt_U 10 f n a)) v a) (Classical.propDecidable _) (zn_nt f n k (zt_U 10 f n a + 1) (q + 1) 1 (zn_lv (zt_kn f (zt_U 10 f n a)) (zt_te f (zt_U 10 f n a)) (zt_tv f (zt_U 10 f n a)) (zt_kc f (zt_U 10 f n a)) v a)) (q, v)) (@ite _ (zn_ig (zt_kn f (zt_U 10 f n a)) (zt_te f (zt_U 10 f n a)) (zt_tv f (zt_U 10 f n a)) (zt_kc f (zt_U 10 f n a)) a) (Classical.propDecidable _) (zn_nt f n k (zt_U 10 f n a + 1) (q + 1) 1 (zn_iv (zt_kn f (zt_U 10 f n a)) (zt_te f (zt_U 10 f n a)) (zt_tv f (zt_U 10 f n a)) (zt_kc f (zt_U 10 f n a)) a)) (q, v))))
/-! Two readings of a line whose tokens are the same. -/
def zn_tq (tk te tv wc tk1 te1 tv1 wc1 : Int → Int) (s c : Int) : Prop := ∀ p : Int, s ≤ p → p ≤ c → tk p = tk1 p ∧ te p = te1 p ∧ tv p = tv1 p ∧ wc p = wc1 p ∧ p ≤ te1 p ∧ te1 p ≤ c
theorem zn_oge {tk te tv wc tk1 te1 tv1 wc1 : Int → Int} {s c : Int} (h : zn_tq tk te tv wc tk1 te1 tv1 wc1 s c) {N : Nat → Int} {T : Nat} {i p : Int} (hp : s ≤ p ∧ p ≤ c) : (zt_og tk te wc N T i p ↔ zt_og tk1 te1 wc1 N T i p) ∧ zt_oe te i p = zt_oe te1 i p ∧ (∀ o : Nat → Int, zt_ou te tv wc i p o = zt_ou te1 tv1 wc1 i p o) ∧ s ≤ zt_oe te1 i p ∧ zt_oe te1 i p ≤ c := by
  have a := h p hp.1 hp.2
  have b := h (te1 p) (by omega) (by omega)
  have d := h (te1 (te1 p)) (by omega) (by omega)
  refine ⟨?_, ?_, fun o => ?_, ?_⟩
  · unfold zt_og
    rw [a.1, a.2.1, a.2.2.2.1, b.1, b.2.1, b.2.2.2.1, d.1]
  · unfold zt_oe
    rw [a.2.1, b.2.1, d.2.1]
  · unfold zt_ou
    rw [a.2.1, a.2.2.1, a.2.2.2.1, b.2.1, d.2.2.1]
  · unfold zt_oe
    split
    · omega
    · split
      · omega
      · omega
theorem zn_noe {tk te tv wc tk1 te1 tv1 wc1 : Int → Int} {s c : Int} (h : zn_tq tk te tv wc tk1 te1 tv1 wc1 s c) (A : Int → Prop) (N : Nat → Int) (T k : Nat) : ∀ (d w p : Int) (o : Nat → Int), s ≤ p → p ≤ c → zt_no tk te tv wc A N T k d w p o = zt_no tk1 te1 tv1 wc1 A N T k d w p o := by
  induction k with
  | zero =>
    intro d w p o _ _
    rfl
  | succ k ih =>
    intro d w p o h1 h2
    have g := zn_oge h (N := N) (T := T) (i := zt_ob d w) ⟨h1, h2⟩
    have a := h (zt_oe te1 (zt_ob d w) p) g.2.2.2.1 g.2.2.2.2
    have e : (zt_ob d w = 0 ∨ ¬ A (zt_ob d w) ∨ o (10 + (zt_ob d w).toNat) = 1 ∨ ¬ zt_og tk te wc N T (zt_ob d w) p) ↔ (zt_ob d w = 0 ∨ ¬ A (zt_ob d w) ∨ o (10 + (zt_ob d w).toNat) = 1 ∨ ¬ zt_og tk1 te1 wc1 N T (zt_ob d w) p) := by
      rw [g.1]
    by_cases hd : d = 0
    · rw [zt_no0 hd, zt_no0 hd]
    · by_cases hb : zt_ob d w = 0 ∨ ¬ A (zt_ob d w) ∨ o (10 + (zt_ob d w).toNat) = 1 ∨ ¬ zt_og tk1 te1 wc1 N T (zt_ob d w) p
      · rw [zt_noN hd (e.mpr hb), zt_noN hd hb]
      · rw [zt_noS hd (fun x => hb (e.mp x)), zt_noS hd hb, g.2.1, g.2.2.1 o, a.1, a.2.1, a.2.2.2.1]
        exact ih _ _ _ _ (by omega) (by omega)
theorem zt_k41 (d : Int) : zt_k4 1 d = if d ≤ 8 then 102 else 101 := by
  have c := zt_k4x (s := 1) (d := d)
  split
  · exact c.2.2.1 rfl (by assumption)
  · exact c.2.2.2.1 rfl (by omega)
theorem zt_kcx {f : Nat → Int} {e p q x : Int} (hq : q = zt_R 32 32 f e p) (hx : x = zt_te f e p) : zt_cw f q (x - q).toNat = zt_kc f e p := by
  rw [hq, hx]
  rfl
/-- the class's token, for networks: its code and its word's -/
def zt_NK (f : Nat → Int) (e p s q x : Int) : Prop := zt_k4 s (x - q) = zt_kn f e p ∧ q = zt_R 32 32 f e p ∧ x = zt_te f e p ∧ (0 ≤ s ∧ s ≤ 3) ∧ q ≤ x ∧ (s = 1 → q < x) ∧ (s = 1 → ∀ i : Int, q ≤ i → i < x → 97 ≤ f i.toNat ∧ f i.toNat ≤ 122)
/-- a word that isWord asks for -/
theorem zt_NKw {f : Nat → Int} {e p s q x r : Int} {t : Nat} (h : zt_NK f e p s q x) (ht : t < 59) (h0 : zt_WK t ≠ 0) (hi : zt_IS r s f q x t) : (r = 1 ∧ zt_kn f e p = 102 ∧ zt_kc f e p = zt_WK t) ∨ (r = 0 ∧ ¬ (zt_kn f e p = 102 ∧ zt_kc f e p = zt_WK t)) := by
  obtain ⟨h1, h2, h3, h4, h5, _, h6⟩ := h
  have a := zt_ISK (zt_twk t ht h0) h5 h6 hi
  rw [h1, zt_kcx h2 h3] at a
  exact a
/-- what sort it is -/
theorem zt_NKs {f : Nat → Int} {e p s q x : Int} (h : zt_NK f e p s q x) : (zt_kn f e p = 0 ↔ s = 0) ∧ (zt_kn f e p = 100 ↔ s = 2) ∧ (zt_kn f e p = 102 ↔ s = 1 ∧ x - q ≤ 8) := by
  have c := zt_k4x (s := s) (d := x - q)
  rw [← h.1]
  have h4 := h.2.2.2.1
  rcases (by omega : s = 0 ∨ s = 2 ∨ (s = 1 ∧ x - q ≤ 8) ∨ (s = 1 ∧ 8 < x - q) ∨ s = 3) with e | e | e | e | e
  · have := c.1 e
    omega
  · have := c.2.1 e
    omega
  · have := c.2.2.1 e.1 e.2
    omega
  · have := c.2.2.2.1 e.1 e.2
    omega
  · have := c.2.2.2.2 (by omega) (by omega) (by omega)
    omega
/-- the names' parts of the text: name k is told at a k, b k signs long (0: none), and its code is N k -/
def zt_N1 (f : Nat → Int) (n a b w : Int) : Prop := (0 ≤ b ∧ b ≤ 8) ∧ (0 < b → 0 ≤ a ∧ a + b ≤ n) ∧ (∀ i : Int, a ≤ i → i < a + b → 97 ≤ f i.toNat ∧ f i.toNat ≤ 122) ∧ w = zt_cw f a b.toNat
def zt_NM (f a b : Nat → Int) (n : Int) (N : Nat → Int) : Prop := (∀ k : Nat, k < 11 → zt_N1 f n (a k) (b k) (N k)) ∧ (∀ i k : Nat, i < k → k < 11 → N i ≠ 0 → N i ≠ N k)
theorem zt_nfN {N : Nat → Int} {w : Int} : ∀ k : Nat, (∀ i : Nat, i < k → N i ≠ w) → zt_nf N w k = -1 := by
  intro k
  induction k with
  | zero =>
    intro _
    rfl
  | succ k ih =>
    intro h
    show (if N k = w then (k : Int) else zt_nf N w k) = -1
    rw [if_neg (h k (Nat.lt_succ_self k)), ih (fun i hi => h i (by omega))]
theorem zt_nfY {N : Nat → Int} {w : Int} {q : Nat} (hq : N q = w) : ∀ k : Nat, q < k → (∀ i : Nat, q < i → i < k → N i ≠ w) → zt_nf N w k = (q : Int) := by
  intro k
  induction k with
  | zero =>
    intro h _
    omega
  | succ k ih =>
    intro h1 h2
    show (if N k = w then (k : Int) else zt_nf N w k) = (q : Int)
    rcases (by omega : q = k ∨ q < k) with e | e
    · subst e
      rw [if_pos hq]
    · rw [if_neg (h2 k e (Nat.lt_succ_self k)), ih e (fun i h3 h4 => h2 i h3 (by omega))]
/-- names that aren't there don't count -/
theorem zt_nfT {N : Nat → Int} {w : Int} (hw : w ≠ 0) (T : Nat) : ∀ k : Nat, T ≤ k → (∀ i : Nat, T ≤ i → i < k → N i = 0) → zt_nf N w k = zt_nf N w T := by
  intro k
  induction k with
  | zero =>
    intro h _
    rw [show T = 0 by omega]
  | succ k ih =>
    intro h1 h2
    rcases (by omega : T = k + 1 ∨ T ≤ k) with e | e
    · rw [e]
    · show (if N k = w then (k : Int) else zt_nf N w k) = zt_nf N w T
      rw [if_neg (fun h3 => hw (by rw [← h3]; exact h2 k e (Nat.lt_succ_self k))), ih e (fun i h3 h4 => h2 i h3 (by omega))]
theorem zt_lsp {f g : Nat → Int} (k : Nat) : ∀ q a : Int, zt_ls f q k = zt_ls g a k → ∀ i : Int, 0 ≤ i → i < (k : Int) → f (q + i).toNat = g (a + i).toNat := by
  induction k with
  | zero =>
    intro q a _ i h1 h2
    omega
  | succ k ih =>
    intro q a h i h1 h2
    have h3 : f q.toNat :: zt_ls f (q + 1) k = g a.toNat :: zt_ls g (a + 1) k := h
    have h4 := List.cons.inj h3
    rcases (by omega : i = 0 ∨ 1 ≤ i) with e | e
    · rw [e, show q + 0 = q by omega, show a + 0 = a by omega]
      exact h4.1
    · have h5 := ih (q + 1) (a + 1) h4.2 (i - 1) (by omega) (by omega)
      rw [show q + 1 + (i - 1) = q + i by omega, show a + 1 + (i - 1) = a + i by omega] at h5
      exact h5
theorem zt_lsq {f g : Nat → Int} (k : Nat) : ∀ q a : Int, (∀ i : Int, 0 ≤ i → i < (k : Int) → f (q + i).toNat = g (a + i).toNat) → zt_ls f q k = zt_ls g a k := by
  induction k with
  | zero =>
    intro q a _
    rfl
  | succ k ih =>
    intro q a h
    show f q.toNat :: zt_ls f (q + 1) k = g a.toNat :: zt_ls g (a + 1) k
    have h1 := h 0 (by decide) (by omega)
    rw [show q + 0 = q by omega, show a + 0 = a by omega] at h1
    rw [h1, ih (q + 1) (a + 1) (fun i h2 h3 => by
      have h4 := h (i + 1) (by omega) (by omega)
      rw [show q + (i + 1) = q + 1 + i by omega, show a + (i + 1) = a + 1 + i by omega] at h4
      exact h4)]
/-- the latest token has the same signs as a part -/
def zt_SA (f : Nat → Int) (q x a b n : Int) : Prop := x - q = b ∧ (0 ≤ a ∧ a + b ≤ n) ∧ ∀ i : Int, 0 ≤ i → i < b → f (q + i).toNat = f (a + i).toNat
theorem zt_SAc {f : Nat → Int} {q x a b n : Int} (hq : q ≤ x) (hb : 0 ≤ b) (ha : 0 ≤ a ∧ a + b ≤ n) (hl : ∀ i : Int, q ≤ i → i < x → 97 ≤ f i.toNat ∧ f i.toNat ≤ 122) (hm : ∀ i : Int, a ≤ i → i < a + b → 97 ≤ f i.toNat ∧ f i.toNat ≤ 122) : zt_SA f q x a b n ↔ zt_cw f q (x - q).toNat = zt_cw f a b.toNat := by
  constructor
  · intro h
    unfold zt_cw
    rw [show (x - q).toNat = b.toNat by have := h.1; omega, zt_lsq b.toNat q a (fun i h1 h2 => h.2.2 i h1 (by omega))]
  · intro h
    have h1 := zt_cdi _ _ (zt_lsr f (x - q).toNat q (fun i h2 h3 => hl i h2 (by omega))) (zt_lsr f b.toNat a (fun i h2 h3 => hm i h2 (by omega))) h
    have h2 := zt_lsl f (x - q).toNat q
    have h3 := zt_lsl f b.toNat a
    rw [h1, h3] at h2
    refine ⟨by omega, ha, fun i h4 h5 => zt_lsp b.toNat q a ?_ i h4 (by omega)⟩
    rw [h2]
    rw [h2] at h1
    exact h1
theorem zt_cw0 {f : Nat → Int} {q : Int} {k : Nat} (hl : ∀ i : Int, q ≤ i → i < q + (k : Int) → 97 ≤ f i.toNat ∧ f i.toNat ≤ 122) (hk : 0 < k) : 0 < zt_cw f q k := by
  have h := zt_cd0 _ (zt_lsr f k q hl)
  have h1 := zt_lsl f k q
  unfold zt_cw
  rcases Int.lt_or_le 0 (zt_cd (zt_ls f q k)) with e | e
  · exact e
  · rw [h.2 e] at h1
    have h2 : ([] : List Int).length = 0 := rfl
    omega
/-- a token's word among the names -/
theorem zt_NMs {f a b : Nat → Int} {n e p s q x : Int} {N : Nat → Int} (hN : zt_NM f a b n N) (hK : zt_NK f e p s q x) (hs : s = 1) {k : Nat} (hk : k < 11) (hb : 0 < b k) : zt_SA f q x (a k) (b k) n ↔ N k = zt_kc f e p := by
  have g := hN.1 k hk
  rw [zt_SAc hK.2.2.2.2.1 (by omega) (g.2.1 hb) (hK.2.2.2.2.2.2 hs) g.2.2.1, g.2.2.2, zt_kcx hK.2.1 hK.2.2.1]
  exact ⟨Eq.symm, Eq.symm⟩
theorem zt_NMn {f a b : Nat → Int} {n : Int} {N : Nat → Int} (hN : zt_NM f a b n N) {k : Nat} (hk : k < 11) : (0 < b k → 0 < N k) ∧ (b k ≤ 0 → N k = 0) := by
  have g := hN.1 k hk
  constructor
  · intro h
    rw [g.2.2.2]
    exact zt_cw0 (fun i h1 h2 => g.2.2.1 i h1 (by omega)) (by omega)
  · intro h
    rw [g.2.2.2, show (b k).toNat = 0 by omega]
    rfl
/-- a token that is a word has a code -/
theorem zt_NKp {f : Nat → Int} {e p s q x : Int} (h : zt_NK f e p s q x) (hs : s = 1) : 0 < zt_kc f e p := by
  rw [← zt_kcx h.2.1 h.2.2.1]
  have g := h.2.2.2.2.2.2 hs
  have g1 := h.2.2.2.2.2.1 hs
  exact zt_cw0 (fun i h2 h3 => g i h2 (by omega)) (by omega)
/-- a word of more than eight letters is no name -/
theorem zt_NMl {f a b : Nat → Int} {n e p s q x : Int} {N : Nat → Int} (hN : zt_NM f a b n N) (hK : zt_NK f e p s q x) (hs : s = 1) (hx : 8 < x - q) : zt_nf N (zt_kc f e p) 11 = -1 := by
  refine zt_nfN 11 (fun k hk h => ?_)
  have h0 := zt_NKp hK hs
  have h1 := zt_NMn hN hk
  have g := (hN.1 k hk).1
  rcases Int.lt_or_le 0 (b k) with e1 | e1
  · have h2 := ((zt_NMs hN hK hs hk e1).mpr h).1
    omega
  · have h2 := h1.2 e1
    omega
theorem zn_ttw {f a b : Nat → Int} {n e p s q x y : Int} {N : Nat → Int} (hN : zt_NM f a b n N) (hK : zt_NK f e p s q x) (hs : s = 1) : zn_tt (zt_kn f e p) y (zt_kc f e p) N 11 = zt_nf N (zt_kc f e p) 11 := by
  have h := zt_NKs hK
  unfold zn_tt
  rcases Int.lt_or_le 8 (x - q) with e1 | e1
  · rw [if_neg (by omega), if_neg (by omega)]
    exact (zt_NMl hN hK hs e1).symm
  · rw [if_neg (by omega), if_pos (by omega)]
theorem zn_tto {f : Nat → Int} {e p s q x y w : Int} {N : Nat → Int} {T : Nat} (hK : zt_NK f e p s q x) (h1 : s ≠ 1) (h2 : s ≠ 2) : zn_tt (zt_kn f e p) y w N T = -1 := by
  have h := zt_NKs hK
  unfold zn_tt
  rw [if_neg (by omega), if_neg (by omega)]
theorem zn_ttn {f : Nat → Int} {e p s q x y w : Int} {N : Nat → Int} {T : Nat} (hK : zt_NK f e p s q x) (h2 : s = 2) : zn_tt (zt_kn f e p) y w N T = y := by
  have h := zt_NKs hK
  unfold zn_tt
  rw [if_pos (by omega)]
/-- options by their bits -/
def zt_b8 (i : Int) : Int := if i = 1 then 1 else if i = 2 then 2 else if i = 3 then 4 else if i = 4 then 8 else if i = 5 then 16 else if i = 6 then 32 else if i = 7 then 64 else if i = 8 then 128 else 0
theorem zt_obN {c w : Int} (h1 : ¬ (c = 102 ∧ w = 802)) (h2 : ¬ (c = 102 ∧ w = 21094748847)) (h3 : ¬ (c = 102 ∧ w = 641)) (h4 : ¬ (c = 102 ∧ w = 530067)) (h5 : ¬ (c = 102 ∧ w = 171141)) (h6 : ¬ (c = 102 ∧ w = 21177619)) (h7 : ¬ (c = 102 ∧ w = 700594)) (h8 : ¬ (c = 102 ∧ w = 609)) : zt_ob c w = 0 := by
  unfold zt_ob
  by_cases h : c = 102
  · rw [if_pos h, if_neg (fun e => h1 ⟨h, e⟩), if_neg (fun e => h2 ⟨h, e⟩), if_neg (fun e => h3 ⟨h, e⟩), if_neg (fun e => h4 ⟨h, e⟩), if_neg (fun e => h5 ⟨h, e⟩), if_neg (fun e => h6 ⟨h, e⟩), if_neg (fun e => h7 ⟨h, e⟩), if_neg (fun e => h8 ⟨h, e⟩)]
  · rw [if_neg h]
def zt_k5 (w : Int) : Prop := w = 21676489 ∨ w = 735715 ∨ w = 409072 ∨ w = 4225 ∨ w = 24
theorem zt_kwx {w : Int} : zt_kw w ↔ (zt_ob 102 w ≠ 0 ∨ zt_k5 w) := by
  unfold zt_kw zt_k5
  constructor
  · intro h
    rcases h with h | h | h | h | h | h | h | h | h | h | h | h | h
    · exact Or.inr (Or.inl h)
    · exact Or.inr (Or.inr (Or.inl h))
    · exact Or.inr (Or.inr (Or.inr (Or.inl h)))
    · exact Or.inr (Or.inr (Or.inr (Or.inr (Or.inl h))))
    · left
      rw [h]
      decide
    · exact Or.inr (Or.inr (Or.inr (Or.inr (Or.inr h))))
    · left
      rw [h]
      decide
    · left
      rw [h]
      decide
    · left
      rw [h]
      decide
    · left
      rw [h]
      decide
    · left
      rw [h]
      decide
    · left
      rw [h]
      decide
    · left
      rw [h]
      decide
  · intro h
    rcases h with h | h
    · rcases Decidable.em (w = 802 ∨ w = 21094748847 ∨ w = 641 ∨ w = 530067 ∨ w = 171141 ∨ w = 21177619 ∨ w = 700594 ∨ w = 609) with e | e
      · omega
      · exact absurd (zt_obN (c := 102) (w := w) (by omega) (by omega) (by omega) (by omega) (by omega) (by omega) (by omega) (by omega)) h
    · omega
/-- may the token be a name? -/
def zt_nm (f : Nat → Int) (e p : Int) (N : Nat → Int) (T : Nat) : Prop := zt_kn f e p = 102 ∧ ¬ zt_kw (zt_kc f e p) ∧ zt_nf N (zt_kc f e p) T = -1
theorem zt_N1t {f : Nat → Int} {n e p s q x : Int} (hK : zt_NK f e p s q x) (hs : s = 1) (h8 : x - q ≤ 8) (h0 : 0 ≤ q) (hx : x ≤ n) : zt_N1 f n q (x - q) (zt_kc f e p) :=
  ⟨⟨by have := hK.2.2.2.2.1; omega, h8⟩, fun _ => ⟨h0, by omega⟩, fun i h1 h2 => hK.2.2.2.2.2.2 hs i h1 (by omega), (zt_kcx hK.2.1 hK.2.2.1).symm⟩
theorem zt_nmx {f : Nat → Int} {e p : Int} {N : Nat → Int} {T : Nat} (h : zt_kn f e p = 102) : zt_nm f e p N T ↔ (zt_nf N (zt_kc f e p) T = -1 ∧ zt_ob (zt_kn f e p) (zt_kc f e p) = 0 ∧ ¬ (zt_kn f e p = 102 ∧ zt_k5 (zt_kc f e p))) := by
  unfold zt_nm
  rw [zt_kwx, h]
  constructor
  · intro g
    refine ⟨g.2.2, ?_, fun k => g.2.1 (Or.inr k.2)⟩
    rcases Decidable.em (zt_ob 102 (zt_kc f e p) = 0) with k | k
    · exact k
    · exact absurd (Or.inl k) g.2.1
  · intro g
    refine ⟨rfl, fun k => ?_, g.1⟩
    rcases k with k | k
    · exact k g.2.1
    · exact g.2.2 ⟨rfl, k⟩
theorem zt_b80 {i : Int} (hi : 0 ≤ i ∧ i ≤ 8) : zt_b8 i = 0 ↔ i = 0 := by
  rcases (by omega : i = 0 ∨ i = 1 ∨ i = 2 ∨ i = 3 ∨ i = 4 ∨ i = 5 ∨ i = 6 ∨ i = 7 ∨ i = 8) with rfl | rfl | rfl | rfl | rfl | rfl | rfl | rfl | rfl <;> decide
theorem zt_obb (c w : Int) : 0 ≤ zt_ob c w ∧ zt_ob c w ≤ 8 := by
  unfold zt_ob
  (repeat' split) <;> omega
theorem zt_b8j {i : Int} (hi : 1 ≤ i ∧ i ≤ 8) : (zt_b8 i = 1 ↔ i = 1) ∧ (zt_b8 i = 2 ↔ i = 2) ∧ (zt_b8 i = 4 ↔ i = 3) ∧ (zt_b8 i = 8 ↔ i = 4) ∧ (zt_b8 i = 16 ↔ i = 5) ∧ (zt_b8 i = 32 ↔ i = 6) ∧ (zt_b8 i = 64 ↔ i = 7) ∧ (zt_b8 i = 128 ↔ i = 8) := by
  rcases (by omega : i = 1 ∨ i = 2 ∨ i = 3 ∨ i = 4 ∨ i = 5 ∨ i = 6 ∨ i = 7 ∨ i = 8) with rfl | rfl | rfl | rfl | rfl | rfl | rfl | rfl <;> decide
theorem zt_og1 {tk te wc : Int → Int} {N : Nat → Int} {T : Nat} {i p : Int} (h : i = 1) : zt_og tk te wc N T i p ↔ tk p = 100 ∧ (tk (te p) = 102 ∧ wc (te p) = 24) ∧ tk (te (te p)) = 100 := by
  unfold zt_og
  constructor
  · intro g
    rcases g with g | g | g | g
    · exact ⟨g.2.1, ⟨g.2.2.1, g.2.2.2.1⟩, g.2.2.2.2⟩
    · omega
    · omega
    · omega
  · intro g
    exact Or.inl ⟨h, g.1, g.2.1.1, g.2.1.2, g.2.2⟩
theorem zt_ogk {tk te wc : Int → Int} {N : Nat → Int} {T : Nat} {i p : Int} (h : 2 ≤ i ∧ i ≤ 6) : zt_og tk te wc N T i p ↔ tk p = 100 := by
  unfold zt_og
  constructor
  · intro g
    rcases g with g | g | g | g
    · omega
    · exact g.2.2
    · omega
    · omega
  · intro g
    exact Or.inr (Or.inl ⟨h.1, h.2, g⟩)
theorem zt_og7 {tk te wc : Int → Int} {N : Nat → Int} {T : Nat} {i p : Int} (h : i = 7) : zt_og tk te wc N T i p := Or.inr (Or.inr (Or.inl h))
theorem zt_og8 {tk te wc : Int → Int} {N : Nat → Int} {T : Nat} {i p : Int} (h : i = 8) : zt_og tk te wc N T i p ↔ tk p = 102 ∧ ¬ zt_kw (wc p) ∧ zt_nf N (wc p) T = -1 := by
  unfold zt_og
  constructor
  · intro g
    rcases g with g | g | g | g
    · omega
    · omega
    · omega
    · exact g.2
  · intro g
    exact Or.inr (Or.inr (Or.inr ⟨h, g⟩))
theorem zn_kdN {c w : Int} (h1 : ¬ (c = 102 ∧ w = 735715)) (h2 : ¬ (c = 102 ∧ w = 409072)) (h3 : ¬ (c = 102 ∧ w = 4225)) : zn_kd c w = 0 := by
  unfold zn_kd
  by_cases h : c = 102
  · rw [if_pos h, if_neg (fun e => h1 ⟨h, e⟩), if_neg (fun e => h2 ⟨h, e⟩), if_neg (fun e => h3 ⟨h, e⟩)]
  · rw [if_neg h]
def zn_m1 (tk te tv wc : Int → Int) (N : Nat → Int) (p : Int) : Int := zn_tt (tk (te p)) (tv (te p)) (wc (te p)) N 11
def zn_m2 (tk te tv wc : Int → Int) (N : Nat → Int) (p : Int) : Int := if zn_kd (tk p) (wc p) = 3 then zn_tt (tk (te (te p))) (tv (te (te p))) (wc (te (te p))) N 11 else zn_m1 tk te tv wc N p
/-- an input's line up to its form -/
def zn_ih (tk te tv wc : Int → Int) (p : Int) : Prop := (tk p = 102 ∧ wc p = 21676489) ∧ tk (te p) = 100 ∧ (tk (te (te p)) = 102 ∧ wc (te (te p)) = 24) ∧ tk (te (te (te p))) = 100 ∧ (tk (te (te (te (te p)))) = 102 ∧ wc (te (te (te (te p)))) = 24) ∧ tk (te (te (te (te (te p))))) = 100 ∧ zn_fp (tv (te p)) (tv (te (te (te p)))) (tv (te (te (te (te (te p))))))
theorem zn_igx {tk te tv wc : Int → Int} {p : Int} : zn_ig tk te tv wc p ↔ zn_ih tk te tv wc p ∧ zn_io tk te tv wc (te (te (te (te (te (te p)))))) 0 = 1 := by
  unfold zn_ig zn_ih
  constructor
  · intro h
    exact ⟨⟨h.1, h.2.1, h.2.2.1, h.2.2.2.1, h.2.2.2.2.1, h.2.2.2.2.2.1, h.2.2.2.2.2.2.2⟩, h.2.2.2.2.2.2.1⟩
  · intro h
    exact ⟨h.1.1, h.1.2.1, h.1.2.2.1, h.1.2.2.2.1, h.1.2.2.2.2.1, h.1.2.2.2.2.2.1, h.2, h.1.2.2.2.2.2.2⟩
theorem zt_kcp {f : Nat → Int} {e p : Int} (h : zt_kn f e p = 102) (hp : p ≤ e) : 0 < zt_kc f e p := by
  have hb := zt_Rb (lo := 32) (hi := 32) (f := f) hp
  unfold zt_kn zt_kk at h
  by_cases h0 : zt_tk f e p = 0
  · rw [if_pos h0] at h
    omega
  · rw [if_neg h0] at h
    by_cases h1 : zt_tk f e p = 100
    · rw [if_pos h1] at h
      omega
    · rw [if_neg h1] at h
      by_cases h2 : 97 ≤ f (zt_R 32 32 f e p).toNat ∧ f (zt_R 32 32 f e p).toNat ≤ 122 ∧ zt_te f e p - zt_R 32 32 f e p ≤ 8
      · have h3 : zt_R 32 32 f e p < e := by
          rcases Int.lt_or_le (zt_R 32 32 f e p) e with g | g
          · exact g
          · exact absurd (zt_tk0 (f := f) (e := e) (p := p) rfl (Or.inl g)).1 h0
        have h4 := zt_tkw (f := f) (e := e) (p := p) rfl h3 ⟨h2.1, h2.2.1⟩
        have h5 := zt_RS (e := e) (f := f) h3 ⟨h2.1, h2.2.1⟩
        have h6 := zt_Rge (lo := 97) (hi := 122) (f := f) (e := e) (p := zt_R 32 32 f e p + 1)
        unfold zt_kc
        refine zt_cw0 (fun i h7 h8 => zt_Rl (lo := 97) (hi := 122) (e := e) (p := zt_R 32 32 f e p) h7 ?_) (by omega)
        rw [← h4.2]
        omega
      · rw [if_neg h2] at h
        omega
/-- names that aren't there don't count: with eleven names as with as many as there are tensors -/
def zn_nz0 (v : zn_T) : Prop := ∀ i : Nat, v 15 0 ≤ (i : Int) → i < 11 → v 14 i = 0
theorem zn_nf11 {v : zn_T} {w : Int} (hz : zn_nz0 v) (h1 : v 15 0 ≤ 11) (hw : w ≠ 0) : zt_nf (v 14) w (v 15 0).toNat = zt_nf (v 14) w 11 :=
  (zt_nfT hw (v 15 0).toNat 11 (by omega) (fun i a b => hz i (by omega) b)).symm
theorem zn_tt11 {v : zn_T} {c x w : Int} (hz : zn_nz0 v) (h1 : v 15 0 ≤ 11) (hw : c = 102 → w ≠ 0) : zn_tt c x w (v 14) (v 15 0).toNat = zn_tt c x w (v 14) 11 := by
  unfold zn_tt
  by_cases h2 : c = 100
  · rw [if_pos h2, if_pos h2]
  · rw [if_neg h2, if_neg h2]
    by_cases h3 : c = 102
    · rw [if_pos h3, if_pos h3, zn_nf11 hz h1 (hw h3)]
    · rw [if_neg h3, if_neg h3]
theorem zn_l11 {tk te tv wc : Int → Int} {v : zn_T} {p : Int} (hz : zn_nz0 v) (h1 : v 15 0 ≤ 11) (hw : ∀ q : Int, q = te p ∨ q = te (te p) → tk q = 102 → wc q ≠ 0) : zn_l1 tk te tv wc v p = zn_m1 tk te tv wc (v 14) p ∧ zn_l2 tk te tv wc v p = zn_m2 tk te tv wc (v 14) p := by
  have a : zn_l1 tk te tv wc v p = zn_m1 tk te tv wc (v 14) p := zn_tt11 hz h1 (hw _ (Or.inl rfl))
  refine ⟨a, ?_⟩
  unfold zn_l2 zn_m2
  rw [a, zn_tt11 hz h1 (hw _ (Or.inr rfl))]
theorem zn_og11 {tk te wc : Int → Int} {v : zn_T} {i p : Int} (hz : zn_nz0 v) (h1 : v 15 0 ≤ 11) (hw : tk p = 102 → wc p ≠ 0) : zt_og tk te wc (v 14) (v 15 0).toNat i p ↔ zt_og tk te wc (v 14) 11 i p := by
  unfold zt_og
  by_cases h : tk p = 102
  · rw [zn_nf11 hz h1 (hw h)]
  · constructor
    · intro g
      rcases g with g | g | g | g
      · exact Or.inl g
      · exact Or.inr (Or.inl g)
      · exact Or.inr (Or.inr (Or.inl g))
      · exact absurd g.2.1 h
    · intro g
      rcases g with g | g | g | g
      · exact Or.inl g
      · exact Or.inr (Or.inl g)
      · exact Or.inr (Or.inr (Or.inl g))
      · exact absurd g.2.1 h
/-- places of a line's tokens stay in the line -/
def zn_cl (tk te wc : Int → Int) (s e : Int) : Prop := ∀ p : Int, s ≤ p → p ≤ e → p ≤ te p ∧ te p ≤ e ∧ (tk p = 102 → wc p ≠ 0)
theorem zn_oec {tk te wc : Int → Int} {s e i p : Int} (h : zn_cl tk te wc s e) (hp : s ≤ p ∧ p ≤ e) : s ≤ zt_oe te i p ∧ zt_oe te i p ≤ e := by
  have a := h p hp.1 hp.2
  have b := h (te p) (by omega) (by omega)
  have c := h (te (te p)) (by omega) (by omega)
  unfold zt_oe
  split
  · omega
  · split
    · omega
    · omega
theorem zn_no11 {tk te tv wc : Int → Int} {A : Int → Prop} {v : zn_T} {s e : Int} (hz : zn_nz0 v) (h1 : v 15 0 ≤ 11) (hc : zn_cl tk te wc s e) (k : Nat) : ∀ (d w p : Int) (o : Nat → Int), s ≤ p → p ≤ e → zt_no tk te tv wc A (v 14) (v 15 0).toNat k d w p o = zt_no tk te tv wc A (v 14) 11 k d w p o := by
  induction k with
  | zero =>
    intro d w p o _ _
    rfl
  | succ k ih =>
    intro d w p o h2 h3
    have g := zn_og11 (te := te) (i := zt_ob d w) hz h1 (hc p h2 h3).2.2
    have q := zn_oec (i := zt_ob d w) hc ⟨h2, h3⟩
    have q2 := hc _ q.1 q.2
    have x : (zt_ob d w = 0 ∨ ¬ A (zt_ob d w) ∨ o (10 + (zt_ob d w).toNat) = 1 ∨ ¬ zt_og tk te wc (v 14) (v 15 0).toNat (zt_ob d w) p) ↔ (zt_ob d w = 0 ∨ ¬ A (zt_ob d w) ∨ o (10 + (zt_ob d w).toNat) = 1 ∨ ¬ zt_og tk te wc (v 14) 11 (zt_ob d w) p) := by
      rw [g]
    by_cases hd : d = 0
    · rw [zt_no0 hd, zt_no0 hd]
    · by_cases hb : zt_ob d w = 0 ∨ ¬ A (zt_ob d w) ∨ o (10 + (zt_ob d w).toNat) = 1 ∨ ¬ zt_og tk te wc (v 14) 11 (zt_ob d w) p
      · rw [zt_noN hd (x.mpr hb), zt_noN hd hb]
      · rw [zt_noS hd (fun y => hb (x.mp y)), zt_noS hd hb]
        exact ih _ _ _ _ (by omega) (by omega)
/-- a name that is told is new -/
theorem zn_no9 {tk te tv wc : Int → Int} {A : Int → Prop} {N : Nat → Int} {T : Nat} (k : Nat) : ∀ (d w p : Int) (o : Nat → Int), (o 9 = 0 ∨ zt_nf N (o 9) T = -1) → zt_no tk te tv wc A N T k d w p o 9 = 0 ∨ zt_nf N (zt_no tk te tv wc A N T k d w p o 9) T = -1 := by
  induction k with
  | zero =>
    intro d w p o h
    exact h
  | succ k ih =>
    intro d w p o h
    by_cases hd : d = 0
    · rw [zt_no0 hd]
      exact h
    · by_cases hb : zt_ob d w = 0 ∨ ¬ A (zt_ob d w) ∨ o (10 + (zt_ob d w).toNat) = 1 ∨ ¬ zt_og tk te wc N T (zt_ob d w) p
      · rw [zt_noN hd hb]
        exact h
      · rw [zt_noS hd hb]
        refine ih _ _ _ _ ?_
        have hg : zt_og tk te wc N T (zt_ob d w) p := Classical.byContradiction (fun y => hb (Or.inr (Or.inr (Or.inr y))))
        rcases Decidable.em (zt_ob d w = 8) with e | e
        · right
          have e3 : zt_ou te tv wc (zt_ob d w) p o 9 = wc p := by
            rw [e]
            rfl
          rw [e3]
          exact ((zt_og8 e).mp hg).2.2
        · have e3 : zt_ou te tv wc (zt_ob d w) p o 9 = o 9 := by
            have b := zt_obb d w
            unfold zt_ou
            rw [if_neg (by omega), if_neg (by omega), if_neg (by omega), if_neg (by omega), if_neg (by omega), if_neg (by omega)]
          rw [e3]
          exact h
theorem zn_kdr (c w : Int) : 0 ≤ zn_kd c w ∧ zn_kd c w ≤ 3 := by
  unfold zn_kd
  (repeat' split) <;> omega
/-! The reference's codes of words: five bits a letter. -/
theorem zt_or64 {a b v : Int} (ha : 0 ≤ a ∧ a < 4611686018427387904) (hb : 0 ≤ b ∧ b < 4611686018427387904) (e : v = (Int64.ofInt a ||| Int64.ofInt b).toInt) : v = ((a.toNat ||| b.toNat : Nat) : Int) := by
  have tx : (Int64.ofInt a).toInt = a := zz_t64 (by omega)
  have ty : (Int64.ofInt b).toInt = b := zz_t64 (by omega)
  generalize Int64.ofInt a = x at tx e
  generalize Int64.ofInt b = y at ty e
  have h1 : x.toBitVec.toInt = x.toInt := rfl
  have h1y : y.toBitVec.toInt = y.toInt := rfl
  have h2 : (x ||| y).toInt = (x.toBitVec ||| y.toBitVec).toInt := by rw [← Int64.toInt_toBitVec, Int64.toBitVec_or]
  have hm : x.toBitVec.msb = false := by rw [BitVec.msb_eq_toInt, h1, tx]; exact decide_eq_false (by omega)
  have hmy : y.toBitVec.msb = false := by rw [BitVec.msb_eq_toInt, h1y, ty]; exact decide_eq_false (by omega)
  have hm2 : (x.toBitVec ||| y.toBitVec).msb = false := by rw [BitVec.msb_or, hm, hmy]; rfl
  rw [BitVec.toInt_eq_toNat_of_msb hm] at h1
  rw [BitVec.toInt_eq_toNat_of_msb hmy] at h1y
  rw [h2, BitVec.toInt_eq_toNat_of_msb hm2, BitVec.toNat_or] at e
  rw [e, show a.toNat = x.toBitVec.toNat by omega, show b.toNat = y.toBitVec.toNat by omega]
theorem zt_shl : ∀ d : Nat, d < 8 → ∀ x : Nat, x < 32 → (Int64.ofInt (x : Int) <<< ((Int32.ofInt (5 * (d : Int))).toInt64 &&& 63)).toInt = (x : Int) * 32 ^ d := by decide +kernel
theorem zt_orl {w x d v s : Int} (hw : 0 ≤ w ∧ w < 32 ^ d.toNat) (hx : 0 ≤ x ∧ x ≤ 31) (hd : 0 ≤ d ∧ d ≤ 7) (e1 : s = (Int64.ofInt x <<< ((Int32.ofInt (5 * d)).toInt64 &&& 63)).toInt) (e2 : v = (Int64.ofInt w ||| Int64.ofInt s).toInt) : v = w + 32 ^ d.toNat * x := by
  have q := zt_shl d.toNat (by omega) x.toNat (by omega)
  rw [show ((x.toNat : Nat) : Int) = x by omega, show ((d.toNat : Nat) : Int) = d by omega, ← e1] at q
  have p : (32 : Int) ^ d.toNat = ((2 ^ (5 * d.toNat) : Nat) : Int) := by
    rw [Nat.pow_mul, Int.natCast_pow]
    rfl
  have pb : 2 ^ (5 * d.toNat) ≤ 2 ^ 35 := Nat.pow_le_pow_right (by decide) (by omega)
  have pp : 0 < 2 ^ (5 * d.toNat) := Nat.pow_pos (by decide)
  generalize hm : 2 ^ (5 * d.toNat) = m at p pb pp
  rw [p] at q hw ⊢
  have hs : s.toNat = m * x.toNat := by
    have : s = ((m * x.toNat : Nat) : Int) := by
      rw [q, Int.natCast_mul, show ((x.toNat : Nat) : Int) = x by omega, Int.mul_comm]
    omega
  have hs2 : m * x.toNat ≤ 2 ^ 35 * 31 := Nat.mul_le_mul pb (by omega)
  have hs0 : 0 ≤ s := by
    rw [q]
    exact Int.mul_nonneg hx.1 (by omega)
  have r := zt_or64 (a := w) (b := s) (by omega) (by omega) e2
  rw [r, hs, Nat.or_comm, ← hm, ← Nat.two_pow_add_eq_or_of_lt (by omega), hm]
  have mx : ((m * x.toNat : Nat) : Int) = (m : Int) * x := by
    rw [Int.natCast_mul, show ((x.toNat : Nat) : Int) = x by omega]
  omega
theorem zt_cwb {f : Nat → Int} {q : Int} (k : Nat) : (∀ i : Int, q ≤ i → i < q + (k : Int) → 97 ≤ f i.toNat ∧ f i.toNat ≤ 122) → 0 ≤ zt_cw f q k ∧ zt_cw f q k < 32 ^ k := by
  induction k with
  | zero =>
    intro _
    exact ⟨Int.le_refl _, by show (0 : Int) < 32 ^ 0; decide⟩
  | succ k ih =>
    intro h
    have g := ih (fun i h1 h2 => h i h1 (by omega))
    have c := h (q + (k : Int)) (by omega) (by omega)
    rw [zt_cws, Int.pow_succ]
    have p : (0 : Int) < 32 ^ k := Int.pow_pos (by decide)
    have m1 : 0 ≤ (32 : Int) ^ k * (f (q + (k : Int)).toNat - 96) := Int.mul_nonneg (by omega) (by omega)
    have m2 : (32 : Int) ^ k * (f (q + (k : Int)).toNat - 96) ≤ 32 ^ k * 31 := Int.mul_le_mul_of_nonneg_left (by omega) (by omega)
    omega
/-- the code of the first eight letters at most -/
def zt_c8 (f : Nat → Int) (q d : Int) : Int := zt_cw f q (if d ≤ 8 then d.toNat else 8)
theorem zt_c80 {f : Nat → Int} {q : Int} : zt_c8 f q 0 = 0 := rfl
theorem zt_c8S {f : Nat → Int} {q d e p x y : Int} (hd : e = d + 1 ∧ 0 ≤ d) (hp : p = q + d) (h1 : d < 8 → y = x + 32 ^ d.toNat * (f p.toNat - 96)) (h2 : 8 ≤ d → y = x) (h : x = zt_c8 f q d) : y = zt_c8 f q e := by
  unfold zt_c8 at h ⊢
  rcases Int.lt_or_le d 8 with g | g
  · rw [if_pos (by omega)] at h
    rw [if_pos (by omega), h1 g, h, show e.toNat = d.toNat + 1 by omega, zt_cws, hp, show ((d.toNat : Nat) : Int) = d by omega]
  · rw [h2 g, h]
    rcases (by omega : d = 8 ∨ 8 < d) with k | k
    · rw [if_pos (by omega), if_neg (by omega), k]
      rfl
    · rw [if_neg (by omega), if_neg (by omega)]
/-- tokens behind spaces -/
theorem zt_tmq {f : Nat → Int} {e p : Int} : zt_tm f e (zt_R 32 32 f e p) = zt_tm f e p ∧ zt_tn f e (zt_R 32 32 f e p) = zt_tn f e p ∧ zt_tv f e (zt_R 32 32 f e p) = zt_tv f e p := by
  have h := zt_RR (lo := 32) (hi := 32) (e := e) (p := p) (f := f)
  refine ⟨?_, ?_, ?_⟩
  · unfold zt_tm
    rw [h]
  · unfold zt_tn
    rw [h]
  · unfold zt_tv
    rw [h]
theorem zt_c8b {f : Nat → Int} {q d w : Int} (h : w = zt_c8 f q d) (hd : 0 ≤ d ∧ d ≤ 8) (hl : ∀ i : Int, q ≤ i → i < q + d → 97 ≤ f i.toNat ∧ f i.toNat ≤ 122) : w = zt_cw f q d.toNat ∧ 0 ≤ w ∧ w < 32 ^ d.toNat := by
  unfold zt_c8 at h
  rw [if_pos hd.2] at h
  have b := zt_cwb (f := f) (q := q) d.toNat (fun i h1 h2 => hl i h1 (by omega))
  rw [h]
  exact ⟨rfl, b⟩
theorem zt_kmw {f : Nat → Int} {e p q x : Int} (hq : q = zt_R 32 32 f e p) (h : zt_tm f e p = zt_wl f q x 20) (hx : zt_tn f e p = x) (hl : 97 ≤ f q.toNat ∧ f q.toNat ≤ 122) : zt_km f e p = (if x - q ≤ 8 then 102 else 101) ∧ zt_kd f e p = zt_cw f q (x - q).toNat := by
  have b := zt_wlb (f := f) (q := q) (r := x) (k := 20) (by omega)
  constructor
  · unfold zt_km zt_kk
    rw [← hq, hx, if_neg (by omega), if_neg (by omega)]
    by_cases h8 : x - q ≤ 8
    · rw [if_pos ⟨hl.1, hl.2, h8⟩, if_pos h8]
    · rw [if_neg (by omega), if_neg h8]
  · unfold zt_kd
    rw [← hq, hx]
theorem zt_kmd {f : Nat → Int} {e p q : Int} (hq : q = zt_R 32 32 f e p) (hl : e ≤ q ∨ ¬ (97 ≤ f q.toNat ∧ f q.toNat ≤ 122)) : zt_km f e p = zt_tm f e p ∧ (zt_tm f e p = 0 ∨ zt_tm f e p = 100 ∨ zt_tm f e p = 101) := by
  rcases Int.lt_or_le q e with g | g
  · have hl2 : ¬ (97 ≤ f q.toNat ∧ f q.toNat ≤ 122) := hl.resolve_left (by omega)
    by_cases h6 : 48 ≤ f q.toNat ∧ f q.toNat ≤ 57
    · have a := (zt_tmn hq g h6).1
      unfold zt_km zt_kk
      rw [← hq, a]
      by_cases h4 : 4 < zt_R 48 57 f e q - q
      · rw [if_pos h4, if_neg (by decide), if_neg (by decide), if_neg (fun x => hl2 ⟨x.1, x.2.1⟩)]
        exact ⟨rfl, Or.inr (Or.inr rfl)⟩
      · rw [if_neg h4, if_neg (by decide), if_pos rfl]
        exact ⟨rfl, Or.inr (Or.inl rfl)⟩
    · have a := (zt_tmb hq g hl2 h6).1
      unfold zt_km zt_kk
      rw [← hq, a, if_neg (by decide), if_neg (by decide), if_neg (fun x => hl2 ⟨x.1, x.2.1⟩)]
      exact ⟨rfl, Or.inr (Or.inr rfl)⟩
  · have a := (zt_tm0 hq g).1
    unfold zt_km zt_kk
    rw [a, if_pos rfl]
    exact ⟨rfl, Or.inl rfl⟩
/-- the reference's latest token is the one behind p -/
def zt_MK (f : Nat → Int) (c p t x y w : Int) : Prop := t = zt_km f c p ∧ x = zt_tn f c p ∧ (t = 100 → y = zt_tv f c p) ∧ (t = 102 → w = zt_kd f c p)
theorem zt_nfr (k : Nat) (N : Nat → Int) (w : Int) : -1 ≤ zt_nf N w k ∧ zt_nf N w k < (k : Int) + 1 := by
  induction k with
  | zero =>
    show (-1 : Int) ≤ -1 ∧ (-1 : Int) < ((0 : Nat) : Int) + 1
    decide
  | succ k ih =>
    show -1 ≤ (if N k = w then (k : Int) else zt_nf N w k) ∧ (if N k = w then (k : Int) else zt_nf N w k) < ((k + 1 : Nat) : Int) + 1
    split
    · omega
    · omega
/-- options under way -/
def zn_IO (tk te tv wc : Int → Int) (K : Int) (N : Nat → Int) (T : Nat) (seen p : Int) (D : (Nat → Int) → Prop) (res : Nat → Int) : Prop := ∃ (k : Nat) (o : Nat → Int), zt_no tk te tv wc (zn_al K) N T k (tk p) (wc p) (te p) o = res ∧ 1502 ≤ (k : Int) + p ∧ (∀ i : Int, 1 ≤ i → i ≤ 8 → (zt_bt seen (i.toNat - 1) = true ↔ o (10 + i.toNat) = 1)) ∧ D o
theorem zn_IO0 {tk te tv wc : Int → Int} {K : Int} {N : Nat → Int} {T : Nat} {p : Int} {D : (Nat → Int) → Prop} (hp : 0 ≤ p) (h : D zn_o0) : zn_IO tk te tv wc K N T 0 p D (zt_no tk te tv wc (zn_al K) N T 1600 (tk p) (wc p) (te p) zn_o0) := by
  refine ⟨1600, zn_o0, rfl, by omega, fun i h1 h2 => ?_, h⟩
  rw [zt_bt0]
  constructor
  · intro g
    cases g
  · intro g
    have e : zn_o0 (10 + i.toNat) = 0 := if_neg (by omega)
    omega
theorem zn_IOE {tk te tv wc : Int → Int} {K : Int} {N : Nat → Int} {seen p : Int} {T : Nat} {D : (Nat → Int) → Prop} {res : Nat → Int} (h : zn_IO tk te tv wc K N T seen p D res) (hD : ∀ o : Nat → Int, D o → D (fun j => if j = 0 then 1 else o j)) (hp : p ≤ 1500) (hc : tk p = 0) : res 0 = 1 ∧ (∀ i : Int, 1 ≤ i → i ≤ 8 → (zt_bt seen (i.toNat - 1) = true ↔ res (10 + i.toNat) = 1)) ∧ D res := by
  obtain ⟨k, o, h1, h2, h3, h4⟩ := h
  obtain ⟨q, rfl⟩ : ∃ q : Nat, k = q + 1 := ⟨k - 1, by omega⟩
  rw [zt_no0 hc] at h1
  subst h1
  refine ⟨rfl, fun i i1 i2 => ?_, hD o h4⟩
  show _ ↔ (if 10 + i.toNat = 0 then (1 : Int) else o (10 + i.toNat)) = 1
  rw [if_neg (by omega)]
  exact h3 i i1 i2
theorem zn_ION {tk te tv wc : Int → Int} {K : Int} {N : Nat → Int} {seen p : Int} {T : Nat} {D : (Nat → Int) → Prop} {res : Nat → Int} (h : zn_IO tk te tv wc K N T seen p D res) (hp : p ≤ 1500) (hc : tk p ≠ 0) (hb : zt_ob (tk p) (wc p) = 0 ∨ ¬ zn_al K (zt_ob (tk p) (wc p)) ∨ zt_bt seen ((zt_ob (tk p) (wc p)).toNat - 1) = true ∨ ¬ zt_og tk te wc N T (zt_ob (tk p) (wc p)) (te p)) : res 0 = 0 := by
  obtain ⟨k, o, h1, h2, h3, h4⟩ := h
  obtain ⟨q, rfl⟩ : ∃ q : Nat, k = q + 1 := ⟨k - 1, by omega⟩
  have b := zt_obb (tk p) (wc p)
  rw [zt_noN hc (by
    rcases Decidable.em (zt_ob (tk p) (wc p) = 0) with e | e
    · exact Or.inl e
    · rcases hb with g | g | g | g
      · exact Or.inl g
      · exact Or.inr (Or.inl g)
      · exact Or.inr (Or.inr (Or.inl ((h3 _ (by omega) (by omega)).mp g)))
      · exact Or.inr (Or.inr (Or.inr g)))] at h1
  exact (congrFun h1 0).symm
theorem zn_IOS {tk te tv wc : Int → Int} {K : Int} {N : Nat → Int} {seen p s1 p1 : Int} {T : Nat} {D D1 : (Nat → Int) → Prop} {res : Nat → Int} (h : zn_IO tk te tv wc K N T seen p D res) (hp : p ≤ 1500) (hc : tk p ≠ 0) (h0 : zt_ob (tk p) (wc p) ≠ 0) (ha : zn_al K (zt_ob (tk p) (wc p))) (ht : ¬ zt_bt seen ((zt_ob (tk p) (wc p)).toNat - 1) = true) (hg : zt_og tk te wc N T (zt_ob (tk p) (wc p)) (te p)) (hs : ∀ j : Nat, zt_bt s1 j = (decide (j = (zt_ob (tk p) (wc p)).toNat - 1) || zt_bt seen j)) (hp1 : p1 = zt_oe te (zt_ob (tk p) (wc p)) (te p)) (hlt : p < p1) (hD : ∀ o : Nat → Int, D o → D1 (zt_ou te tv wc (zt_ob (tk p) (wc p)) (te p) o)) : zn_IO tk te tv wc K N T s1 p1 D1 res := by
  obtain ⟨k, o, h1, h2, h3, h4⟩ := h
  obtain ⟨q, rfl⟩ : ∃ q : Nat, k = q + 1 := ⟨k - 1, by omega⟩
  have b := zt_obb (tk p) (wc p)
  rw [zt_noS hc (by
    intro g
    rcases g with g | g | g | g
    · exact h0 g
    · exact g ha
    · exact ht ((h3 _ (by omega) (by omega)).mpr g)
    · exact g hg)] at h1
  refine ⟨q, _, by rw [hp1]; exact h1, by omega, fun i i1 i2 => ?_, hD o h4⟩
  have e1 := hs (i.toNat - 1)
  have e2 := h3 i i1 i2
  rcases Decidable.em (i = zt_ob (tk p) (wc p)) with e | e
  · have e3 : zt_ou te tv wc (zt_ob (tk p) (wc p)) (te p) o (10 + i.toNat) = 1 := if_pos (by omega)
    rw [e3, e1, decide_eq_true (by omega), Bool.true_or]
    exact ⟨fun _ => rfl, fun _ => rfl⟩
  · have e3 : zt_ou te tv wc (zt_ob (tk p) (wc p)) (te p) o (10 + i.toNat) = o (10 + i.toNat) := by
      unfold zt_ou
      rw [if_neg (by omega), if_neg (by omega), if_neg (by omega), if_neg (by omega), if_neg (by omega), if_neg (by omega)]
    rw [e3, e1, decide_eq_false (by omega), Bool.false_or]
    exact e2
def zn_ma (K : Int) : Int := if K = 1 then 255 else if K = 2 then 137 else if K = 3 then 224 else 128
def zn_nd (K : Int) : Int := if K = 1 then 7 else if K = 2 then 1 else 0
theorem zt_b8b {i : Int} (hi : 1 ≤ i ∧ i ≤ 8) : (Int32.ofInt (zt_b8 i)).toBitVec = BitVec.twoPow 32 (i.toNat - 1) ∧ i.toNat - 1 < 32 := by
  rcases (by omega : i = 1 ∨ i = 2 ∨ i = 3 ∨ i = 4 ∨ i = 5 ∨ i = 6 ∨ i = 7 ∨ i = 8) with rfl | rfl | rfl | rfl | rfl | rfl | rfl | rfl <;> decide +kernel
theorem zt_mab {K i : Int} (hK : 0 ≤ K ∧ K ≤ 3) (hi : 1 ≤ i ∧ i ≤ 8) : zt_bt (zn_ma K) (i.toNat - 1) = true ↔ zn_al K i := by
  unfold zn_al
  rcases (by omega : K = 0 ∨ K = 1 ∨ K = 2 ∨ K = 3) with rfl | rfl | rfl | rfl
  · rcases (by omega : i = 1 ∨ i = 2 ∨ i = 3 ∨ i = 4 ∨ i = 5 ∨ i = 6 ∨ i = 7 ∨ i = 8) with rfl | rfl | rfl | rfl | rfl | rfl | rfl | rfl <;> decide +kernel
  · rcases (by omega : i = 1 ∨ i = 2 ∨ i = 3 ∨ i = 4 ∨ i = 5 ∨ i = 6 ∨ i = 7 ∨ i = 8) with rfl | rfl | rfl | rfl | rfl | rfl | rfl | rfl <;> decide +kernel
  · rcases (by omega : i = 1 ∨ i = 2 ∨ i = 3 ∨ i = 4 ∨ i = 5 ∨ i = 6 ∨ i = 7 ∨ i = 8) with rfl | rfl | rfl | rfl | rfl | rfl | rfl | rfl <;> decide +kernel
  · rcases (by omega : i = 1 ∨ i = 2 ∨ i = 3 ∨ i = 4 ∨ i = 5 ∨ i = 6 ∨ i = 7 ∨ i = 8) with rfl | rfl | rfl | rfl | rfl | rfl | rfl | rfl <;> decide +kernel
theorem zt_and1 {s v : Int} {b : Int32} {j : Nat} (hb : b.toBitVec = BitVec.twoPow 32 j) (hj : j < 32) (e : v = (b &&& Int32.ofInt s).toInt) : v ≠ 0 ↔ zt_bt s j = true := zt_and0 hb hj (by rw [e, Int32.and_comm])
theorem zt_msk {s v : Int} {m : Int32} (e : v = (Int32.ofInt s &&& m).toInt) : v = m.toInt ↔ ∀ j : Nat, j < 32 → m.toBitVec.getLsbD j = true → zt_bt s j = true := by
  rw [e, Int32.toInt_inj, ← Int32.toBitVec_inj, Int32.toBitVec_and]
  constructor
  · intro h j hj hm
    have g := congrArg (fun b : BitVec 32 => b.getLsbD j) h
    simp only [BitVec.getLsbD_and, hm, Bool.and_true] at g
    exact g
  · intro h
    apply BitVec.eq_of_getLsbD_eq
    intro j hj
    rw [BitVec.getLsbD_and]
    cases hm : m.toBitVec.getLsbD j with
    | false => rw [Bool.and_false]
    | true =>
      rw [Bool.and_true]
      exact h j hj hm
theorem zt_ndb {K s v w : Int} {o : Nat → Int} (hK : 0 ≤ K ∧ K ≤ 3) (hw : w = zn_nd K) (e : v = (Int32.ofInt s &&& Int32.ofInt w).toInt) (h : ∀ i : Int, 1 ≤ i → i ≤ 8 → (zt_bt s (i.toNat - 1) = true ↔ o (10 + i.toNat) = 1)) : v = w ↔ zn_ne K o := by
  subst hw
  have m := zt_msk e
  have a1 : zt_bt s 0 = true ↔ o 11 = 1 := h 1 (by decide) (by decide)
  have a2 : zt_bt s 1 = true ↔ o 12 = 1 := h 2 (by decide) (by decide)
  have a3 : zt_bt s 2 = true ↔ o 13 = 1 := h 3 (by decide) (by decide)
  unfold zn_ne
  rcases (by omega : K = 0 ∨ K = 1 ∨ K = 2 ∨ K = 3) with rfl | rfl | rfl | rfl
  · refine ⟨fun _ => ⟨fun x => absurd x (by decide), fun x => absurd x (by decide)⟩, fun _ => m.mpr (fun j hj hm => ?_)⟩
    have z : (Int32.ofInt (zn_nd 0)).toBitVec.getLsbD j = false := by
      show (0#32).getLsbD j = false
      exact BitVec.getLsbD_zero
    rw [z] at hm
    cases hm
  · constructor
    · intro x
      have g := m.mp x
      exact ⟨fun _ => ⟨a1.mp (g 0 (by decide) (by decide +kernel)), a2.mp (g 1 (by decide) (by decide +kernel)), a3.mp (g 2 (by decide) (by decide +kernel))⟩, fun y => absurd y (by decide)⟩
    · intro x
      have y := x.1 rfl
      refine m.mpr (fun j hj hm => ?_)
      have d : ∀ j : Nat, j < 32 → (Int32.ofInt (zn_nd 1)).toBitVec.getLsbD j = true → j = 0 ∨ j = 1 ∨ j = 2 := by decide +kernel
      rcases d j hj hm with rfl | rfl | rfl
      · exact a1.mpr y.1
      · exact a2.mpr y.2.1
      · exact a3.mpr y.2.2
  · constructor
    · intro x
      have g := m.mp x
      exact ⟨fun y => absurd y (by decide), fun _ => a1.mp (g 0 (by decide) (by decide +kernel))⟩
    · intro x
      have y := x.2 rfl
      refine m.mpr (fun j hj hm => ?_)
      have d : ∀ j : Nat, j < 32 → (Int32.ofInt (zn_nd 2)).toBitVec.getLsbD j = true → j = 0 := by decide +kernel
      rw [d j hj hm]
      exact a1.mpr y
  · refine ⟨fun _ => ⟨fun x => absurd x (by decide), fun x => absurd x (by decide)⟩, fun _ => m.mpr (fun j hj hm => ?_)⟩
    have z : (Int32.ofInt (zn_nd 3)).toBitVec.getLsbD j = false := by
      show (0#32).getLsbD j = false
      exact BitVec.getLsbD_zero
    rw [z] at hm
    cases hm
theorem zn_oby {c w v va al : Int} (hb : v = zt_b8 (zt_ob c w)) (e : va = (Int32.ofInt v &&& Int32.ofInt al).toInt) (h : va ≠ 0) : 1 ≤ zt_ob c w ∧ zt_ob c w ≤ 8 := by
  have b := zt_obb c w
  refine ⟨?_, b.2⟩
  rcases Decidable.em (zt_ob c w = 0) with g | g
  · rw [g] at hb
    have hv : v = 0 := hb
    subst hv
    have z : Int32.ofInt 0 &&& Int32.ofInt al = 0 := Int32.zero_and
    rw [z] at e
    exact absurd e h
  · omega
/-- an option more -/
theorem zn_ROS {tk te tv wc : Int → Int} {K : Int} {N : Nat → Int} {seen p p1 v va vs vo al r : Int} {T : Nat} {D D1 : (Nat → Int) → Prop} {res : Nat → Int} (h : zn_IO tk te tv wc K N T seen p D res) (hp : p ≤ 1500) (hK : 0 ≤ K ∧ K ≤ 3) (hc : tk p ≠ 0) (hb : v = zt_b8 (zt_ob (tk p) (wc p))) (hm : al = zn_ma K) (ea : va = (Int32.ofInt v &&& Int32.ofInt al).toInt) (ha : va ≠ 0) (es : vs = (Int32.ofInt v &&& Int32.ofInt seen).toInt) (hs : vs = 0) (eo : vo = (Int32.ofInt seen ||| Int32.ofInt v).toInt) (hr : ∀ o : Nat → Int, D o → (r = 1 ∧ zt_og tk te wc N T (zt_ob (tk p) (wc p)) (te p) ∧ p1 = zt_oe te (zt_ob (tk p) (wc p)) (te p) ∧ D1 (zt_ou te tv wc (zt_ob (tk p) (wc p)) (te p) o)) ∨ (r = 0 ∧ ¬ zt_og tk te wc N T (zt_ob (tk p) (wc p)) (te p))) (h1 : r = 1) (hlt : p < p1) : zn_IO tk te tv wc K N T vo p1 D1 res := by
  have y := zn_oby hb ea ha
  have bb := zt_b8b y
  have hr1 : ∀ o : Nat → Int, D o → zt_og tk te wc N T (zt_ob (tk p) (wc p)) (te p) ∧ p1 = zt_oe te (zt_ob (tk p) (wc p)) (te p) ∧ D1 (zt_ou te tv wc (zt_ob (tk p) (wc p)) (te p) o) := by
    intro o ho
    rcases hr o ho with g | g
    · exact g.2
    · omega
  have hh := h
  obtain ⟨k, o, _, _, _, h4⟩ := hh
  have g := hr1 o h4
  rw [hb, hm] at ea
  rw [hb] at es eo
  refine zn_IOS h hp hc (by omega) ((zt_mab hK y).mp ((zt_and1 bb.1 bb.2 ea).mp ha)) (fun x => (zt_and1 bb.1 bb.2 es).mpr x hs) g.1 (fun j => zt_or0 bb.1 bb.2 eo) g.2.1 hlt (fun o ho => (hr1 o ho).2.2)
theorem zn_RON {tk te tv wc : Int → Int} {K : Int} {N : Nat → Int} {seen p v va al : Int} {T : Nat} {D : (Nat → Int) → Prop} {res : Nat → Int} (h : zn_IO tk te tv wc K N T seen p D res) (hp : p ≤ 1500) (hK : 0 ≤ K ∧ K ≤ 3) (hc : tk p ≠ 0) (hb : v = zt_b8 (zt_ob (tk p) (wc p))) (hm : al = zn_ma K) (ea : va = (Int32.ofInt v &&& Int32.ofInt al).toInt) (hx : va = 0 ∨ (va ≠ 0 ∧ ∃ vs : Int, vs = (Int32.ofInt v &&& Int32.ofInt seen).toInt ∧ vs ≠ 0) ∨ (va ≠ 0 ∧ ∀ o : Nat → Int, D o → ¬ zt_og tk te wc N T (zt_ob (tk p) (wc p)) (te p))) : res 0 = 0 := by
  have b := zt_obb (tk p) (wc p)
  refine zn_ION h hp hc ?_
  rcases Decidable.em (zt_ob (tk p) (wc p) = 0) with e | e
  · exact Or.inl e
  · have y : 1 ≤ zt_ob (tk p) (wc p) ∧ zt_ob (tk p) (wc p) ≤ 8 := by omega
    have bb := zt_b8b y
    rcases hx with g | g | g
    · right
      left
      intro a
      rw [hb, hm] at ea
      exact (zt_and1 bb.1 bb.2 ea).mpr ((zt_mab hK y).mpr a) g
    · obtain ⟨vs, e1, e2⟩ := g.2
      rw [hb] at e1
      exact Or.inr (Or.inr (Or.inl ((zt_and1 bb.1 bb.2 e1).mp e2)))
    · obtain ⟨k, o, _, _, _, h4⟩ := h
      exact Or.inr (Or.inr (Or.inr (g.2 o h4)))
theorem zt_tnge {f : Nat → Int} {e p : Int} : p ≤ zt_tn f e p := by
  have a := zt_Rge (lo := 32) (hi := 32) (f := f) (e := e) (p := p)
  have b := zt_Rge (lo := 97) (hi := 122) (f := f) (e := e) (p := zt_R 32 32 f e p)
  have c := zt_Rge (lo := 48) (hi := 57) (f := f) (e := e) (p := zt_R 32 32 f e p)
  unfold zt_tn
  split
  · exact a
  · split
    · omega
    · omega
theorem zt_kmx {f : Nat → Int} {e p : Int} (h : zt_km f e p = 102) : p < zt_tn f e p := by
  have a := zt_Rge (lo := 32) (hi := 32) (f := f) (e := e) (p := p)
  unfold zt_km zt_kk at h
  by_cases h0 : zt_tm f e p = 0
  · rw [if_pos h0] at h
    omega
  · rw [if_neg h0] at h
    by_cases h1 : zt_tm f e p = 100
    · rw [if_pos h1] at h
      omega
    · rw [if_neg h1] at h
      by_cases h2 : 97 ≤ f (zt_R 32 32 f e p).toNat ∧ f (zt_R 32 32 f e p).toNat ≤ 122 ∧ zt_tn f e p - zt_R 32 32 f e p ≤ 8
      · have h3 : zt_R 32 32 f e p < e := by
          rcases Int.lt_or_le (zt_R 32 32 f e p) e with g | g
          · exact g
          · exact absurd (zt_tm0 (f := f) (e := e) (p := p) rfl g).1 h0
        have h4 := zt_tmw (f := f) (e := e) (p := p) rfl h3 ⟨h2.1, h2.2.1⟩
        have h5 := zt_RS (e := e) (f := f) h3 ⟨h2.1, h2.2.1⟩
        have h6 := zt_Rge (lo := 97) (hi := 122) (f := f) (e := e) (p := zt_R 32 32 f e p + 1)
        omega
      · rw [if_neg h2] at h
        omega
theorem zt_oege {te : Int → Int} {i p : Int} (h : ∀ q : Int, q ≤ te q) : p ≤ zt_oe te i p := by
  have a := h p
  have b := h (te p)
  have c := h (te (te p))
  unfold zt_oe
  split
  · omega
  · split
    · omega
    · omega
theorem zt_obc {c w u : Int} (h : c = 102 → w = u) : zt_ob c w = zt_ob c u := by
  by_cases g : c = 102
  · rw [h g]
  · unfold zt_ob
    rw [if_neg g, if_neg g]
theorem zt_ob2 {c w : Int} (h : zt_ob c w ≠ 0) : c = 102 := by
  by_cases g : c = 102
  · exact g
  · exact absurd (by unfold zt_ob; rw [if_neg g]) h
/-- with no tensors there are no names -/
theorem zn_no00 {tk te tv wc : Int → Int} {A : Int → Prop} (N N1 : Nat → Int) (k : Nat) : ∀ (d w p : Int) (o : Nat → Int), zt_no tk te tv wc A N 0 k d w p o = zt_no tk te tv wc A N1 0 k d w p o := by
  induction k with
  | zero =>
    intro d w p o
    rfl
  | succ k ih =>
    intro d w p o
    by_cases hd : d = 0
    · rw [zt_no0 hd, zt_no0 hd]
    · by_cases hb : zt_ob d w = 0 ∨ ¬ A (zt_ob d w) ∨ o (10 + (zt_ob d w).toNat) = 1 ∨ ¬ zt_og tk te wc N1 0 (zt_ob d w) p
      · rw [zt_noN (N := N) hd hb, zt_noN hd hb]
      · rw [zt_noS (N := N) hd hb, zt_noS hd hb]
        exact ih _ _ _ _
theorem zn_fpx {h w c : Int} : zn_fp h w c ↔ 1 ≤ h ∧ h ≤ 63 ∧ 1 ≤ w ∧ w ≤ 63 ∧ 1 ≤ c ∧ c ≤ 63 ∧ (h * w) * c ≤ 2048 := by
  unfold zn_fp
  constructor
  · intro g
    omega
  · intro g
    omega
/-- an option that may not be told changes nothing of its own -/
theorem zn_nok {tk te tv wc : Int → Int} {A : Int → Prop} {N : Nat → Int} {T j : Nat} {i : Int} (hj : (2 ≤ i ∧ i ≤ 7 ∧ (j : Int) = i + 1) ∨ (i = 1 ∧ (j = 1 ∨ j = 2))) (ha : ¬ A i) (k : Nat) : ∀ (d w p : Int) (o : Nat → Int), zt_no tk te tv wc A N T k d w p o j = o j := by
  have h0 : j ≠ 0 := by omega
  induction k with
  | zero =>
    intro d w p o
    exact if_neg h0
  | succ k ih =>
    intro d w p o
    by_cases hd : d = 0
    · rw [zt_no0 hd]
      exact if_neg h0
    · by_cases hb : zt_ob d w = 0 ∨ ¬ A (zt_ob d w) ∨ o (10 + (zt_ob d w).toNat) = 1 ∨ ¬ zt_og tk te wc N T (zt_ob d w) p
      · rw [zt_noN hd hb]
        exact if_neg h0
      · rw [zt_noS hd hb, ih]
        have h5 : zt_ob d w ≠ i := fun e => hb (Or.inr (Or.inl (by rw [e]; exact ha)))
        have b := zt_obb d w
        unfold zt_ou
        rw [if_neg (by omega), if_neg (by omega), if_neg (by omega), if_neg (by omega), if_neg (by omega), if_neg (by omega)]
theorem zn_td {x y : Int} (hx : 0 ≤ x) (hy : 0 ≤ y ∧ y ≤ 9) : (10 * x + y).tdiv 10 = x ∧ (10 * x + y).tmod 10 = y := by
  rw [Int.tdiv_eq_ediv_of_nonneg (by omega), Int.tmod_eq_emod_of_nonneg (by omega)]
  omega
theorem zn_sr {x y : Int} (hx : 0 ≤ x ∧ x ≤ 15) (hy : 0 ≤ y ∧ y ≤ 1) : zn_sh (x + 16 * y) = x ∧ zn_rl (x + 16 * y) = y := by
  unfold zn_sh zn_rl
  rcases (by omega : y = 0 ∨ y = 1) with e | e
  · rw [e, if_neg (by omega), if_neg (by omega)]
    omega
  · rw [e, if_pos (by omega), if_pos (by omega)]
    omega
theorem zt_nfc {N N1 : Nat → Int} {w : Int} (k : Nat) : (∀ i : Nat, i < k → N i = N1 i) → zt_nf N w k = zt_nf N1 w k := by
  induction k with
  | zero =>
    intro _
    rfl
  | succ k ih =>
    intro h
    show (if N k = w then (k : Int) else zt_nf N w k) = (if N1 k = w then (k : Int) else zt_nf N1 w k)
    rw [h k (Nat.lt_succ_self k), ih (fun i hi => h i (by omega))]
theorem zn_ttc {N N1 : Nat → Int} {T : Nat} {c x w : Int} (h : ∀ i : Nat, i < T → N i = N1 i) : zn_tt c x w N T = zn_tt c x w N1 T := by
  unfold zn_tt
  rw [zt_nfc T h]
theorem zn_noc {tk te tv wc : Int → Int} {A : Int → Prop} {N N1 : Nat → Int} {T : Nat} (h : ∀ i : Nat, i < T → N i = N1 i) (k : Nat) : ∀ (d w p : Int) (o : Nat → Int), zt_no tk te tv wc A N T k d w p o = zt_no tk te tv wc A N1 T k d w p o := by
  induction k with
  | zero =>
    intro d w p o
    rfl
  | succ k ih =>
    intro d w p o
    have e : zt_og tk te wc N T (zt_ob d w) p ↔ zt_og tk te wc N1 T (zt_ob d w) p := by
      unfold zt_og
      rw [zt_nfc T h]
    have x : (zt_ob d w = 0 ∨ ¬ A (zt_ob d w) ∨ o (10 + (zt_ob d w).toNat) = 1 ∨ ¬ zt_og tk te wc N T (zt_ob d w) p) ↔ (zt_ob d w = 0 ∨ ¬ A (zt_ob d w) ∨ o (10 + (zt_ob d w).toNat) = 1 ∨ ¬ zt_og tk te wc N1 T (zt_ob d w) p) := by
      rw [e]
    by_cases hd : d = 0
    · rw [zt_no0 hd, zt_no0 hd]
    · by_cases hb : zt_ob d w = 0 ∨ ¬ A (zt_ob d w) ∨ o (10 + (zt_ob d w).toNat) = 1 ∨ ¬ zt_og tk te wc N1 T (zt_ob d w) p
      · rw [zt_noN hd (x.mpr hb), zt_noN hd hb]
      · rw [zt_noS hd (fun y => hb (x.mp y)), zt_noS hd hb]
        exact ih _ _ _ _
/-- what a line's options can't have told -/
theorem zn_lod {tk te tv wc : Int → Int} {v : zn_T} {p : Int} : (zn_kd (tk p) (wc p) = 2 → zn_lo tk te tv wc v p 3 = 1 ∧ zn_lo tk te tv wc v p 4 = 0 ∧ zn_lo tk te tv wc v p 6 = 0 ∧ zn_lo tk te tv wc v p 7 = 0 ∧ zn_lo tk te tv wc v p 8 = 0) ∧ (zn_kd (tk p) (wc p) = 3 → zn_lo tk te tv wc v p 1 = 1 ∧ zn_lo tk te tv wc v p 2 = 1 ∧ zn_lo tk te tv wc v p 3 = 1 ∧ zn_lo tk te tv wc v p 4 = 0 ∧ zn_lo tk te tv wc v p 5 = 1 ∧ zn_lo tk te tv wc v p 6 = 0) := by
  constructor
  · intro h
    unfold zn_lo
    rw [h]
    have a : ∀ i : Int, i = 2 ∨ i = 3 ∨ i = 5 ∨ i = 6 ∨ i = 7 → ¬ zn_al 2 i := by
      intro i hi
      unfold zn_al
      omega
    exact ⟨zn_nok (i := 2) (by omega) (a 2 (by decide)) 1600 _ _ _ _, zn_nok (i := 3) (by omega) (a 3 (by decide)) 1600 _ _ _ _, zn_nok (i := 5) (by omega) (a 5 (by decide)) 1600 _ _ _ _, zn_nok (i := 6) (by omega) (a 6 (by decide)) 1600 _ _ _ _, zn_nok (i := 7) (by omega) (a 7 (by decide)) 1600 _ _ _ _⟩
  · intro h
    unfold zn_lo
    rw [h]
    have a : ∀ i : Int, i = 1 ∨ i = 2 ∨ i = 3 ∨ i = 4 ∨ i = 5 → ¬ zn_al 3 i := by
      intro i hi
      unfold zn_al
      omega
    exact ⟨zn_nok (i := 1) (by omega) (a 1 (by decide)) 1600 _ _ _ _, zn_nok (i := 1) (by omega) (a 1 (by decide)) 1600 _ _ _ _, zn_nok (i := 2) (by omega) (a 2 (by decide)) 1600 _ _ _ _, zn_nok (i := 3) (by omega) (a 3 (by decide)) 1600 _ _ _ _, zn_nok (i := 4) (by omega) (a 4 (by decide)) 1600 _ _ _ _, zn_nok (i := 5) (by omega) (a 5 (by decide)) 1600 _ _ _ _⟩
theorem zn_F0 {v : zn_T} {K a b kh kw st ed sh ch ad : Int} (h : zn_F v K a b kh kw st ed sh ch ad 0) : zn_in v a b ∧ zn_fit K kh kw st ed sh ch ∧ zn_rs v K a b kh kw st ed ch ad ∧ v 15 0 ≤ 10 := by
  rcases h with x | x | x | x
  · exact absurd x.1 (by decide)
  · exact absurd x.1 (by decide)
  · exact absurd x.1 (by decide)
  · exact ⟨x.2.1, x.2.2.1, x.2.2.2.1, x.2.2.2.2.1⟩
/-! Lines read by the reference's tokens and by the class's. -/
theorem zn_lq {tk te tv wc tk1 te1 tv1 wc1 : Int → Int} {s c p : Int} {v : zn_T} (h : zn_tq tk te tv wc tk1 te1 tv1 wc1 s c) (hp : s ≤ p ∧ p ≤ c) : (zn_lg tk te tv wc v p ↔ zn_lg tk1 te1 tv1 wc1 v p) ∧ zn_lv tk te tv wc v p = zn_lv tk1 te1 tv1 wc1 v p ∧ zn_lo tk te tv wc v p = zn_lo tk1 te1 tv1 wc1 v p := by
  have a := h p hp.1 hp.2
  have b := h (te1 p) (by omega) (by omega)
  have d := h (te1 (te1 p)) (by omega) (by omega)
  have ek : zn_kd (tk p) (wc p) = zn_kd (tk1 p) (wc1 p) := by rw [a.1, a.2.2.2.1]
  have e1 : zn_l1 tk te tv wc v p = zn_l1 tk1 te1 tv1 wc1 v p := by
    unfold zn_l1
    rw [a.2.1, b.1, b.2.2.1, b.2.2.2.1]
  have e2 : zn_l2 tk te tv wc v p = zn_l2 tk1 te1 tv1 wc1 v p := by
    unfold zn_l2
    rw [ek, e1, a.2.1, b.2.1, d.1, d.2.2.1, d.2.2.2.1]
  have e3 : zn_l3 tk te wc p = zn_l3 tk1 te1 wc1 p := by
    unfold zn_l3
    rw [ek, a.2.1, b.2.1, d.2.1]
  have r3 : s ≤ zn_l3 tk1 te1 wc1 p ∧ zn_l3 tk1 te1 wc1 p ≤ c := by
    unfold zn_l3
    split
    · omega
    · omega
  have q := h _ r3.1 r3.2
  have eo : zn_lo tk te tv wc v p = zn_lo tk1 te1 tv1 wc1 v p := by
    unfold zn_lo
    rw [ek, e3, q.1, q.2.1, q.2.2.2.1]
    exact zn_noe h _ _ _ 1600 _ _ _ _ (by omega) (by omega)
  refine ⟨?_, ?_, eo⟩
  · unfold zn_lg
    rw [ek, e1, e2, eo]
  · unfold zn_lv
    rw [ek, e1, e2, eo]
theorem zn_iq {tk te tv wc tk1 te1 tv1 wc1 : Int → Int} {s c p : Int} (h : zn_tq tk te tv wc tk1 te1 tv1 wc1 s c) (hp : s ≤ p ∧ p ≤ c) : (zn_ig tk te tv wc p ↔ zn_ig tk1 te1 tv1 wc1 p) ∧ zn_iv tk te tv wc p = zn_iv tk1 te1 tv1 wc1 p ∧ zn_io tk te tv wc (te (te (te (te (te (te p)))))) = zn_io tk1 te1 tv1 wc1 (te1 (te1 (te1 (te1 (te1 (te1 p)))))) := by
  have a := h p hp.1 hp.2
  have b := h (te1 p) (by omega) (by omega)
  have d := h (te1 (te1 p)) (by omega) (by omega)
  have e := h (te1 (te1 (te1 p))) (by omega) (by omega)
  have f := h (te1 (te1 (te1 (te1 p)))) (by omega) (by omega)
  have g := h (te1 (te1 (te1 (te1 (te1 p))))) (by omega) (by omega)
  have k := h (te1 (te1 (te1 (te1 (te1 (te1 p)))))) (by omega) (by omega)
  have eo : zn_io tk te tv wc (te (te (te (te (te (te p)))))) = zn_io tk1 te1 tv1 wc1 (te1 (te1 (te1 (te1 (te1 (te1 p)))))) := by
    rw [a.2.1, b.2.1, d.2.1, e.2.1, f.2.1, g.2.1]
    unfold zn_io
    rw [k.1, k.2.1, k.2.2.2.1]
    exact zn_noe h _ _ _ 1600 _ _ _ _ (by omega) (by omega)
  refine ⟨?_, ?_, eo⟩
  · unfold zn_ig
    rw [eo, a.1, a.2.2.2.1, a.2.1, b.1, b.2.1, b.2.2.1, d.1, d.2.2.2.1, d.2.1, e.1, e.2.1, e.2.2.1, f.1, f.2.2.2.1, f.2.1, g.1, g.2.2.1]
  · unfold zn_iv
    rw [eo, a.2.1, b.2.1, b.2.2.1, d.2.1, e.2.1, e.2.2.1, f.2.1, g.2.2.1]
theorem zn_tqk {f : Nat → Int} {e c s : Int} (hc : c = zt_U 35 f e s) (hs : s ≤ e) : zn_tq (zt_km f c) (zt_tn f c) (zt_tv f c) (zt_kd f c) (zt_kn f e) (zt_te f e) (zt_tv f e) (zt_kc f e) s c := by
  intro p h1 h2
  have a := zt_keq hc hs h1 h2
  exact ⟨a.1, a.2.1, a.2.2.1, a.2.2.2.1, a.2.2.2.2.1, a.2.2.2.2.2⟩
theorem zn_ntE {f : Nat → Int} {n : Int} {k : Nat} {a q b : Int} {v : zn_T} (h : n < a) : zn_nt f n (k + 1) a q b v = (if b = 1 then -1 else q, v) := if_pos h
theorem zn_ntB {f : Nat → Int} {n e : Int} {k : Nat} {a q b : Int} {v : zn_T} (h : ¬ n < a) (he : e = zt_U 10 f n a) (h0 : zt_kn f e a = 0) : zn_nt f n (k + 1) a q b v = zn_nt f n k (e + 1) (q + 1) b v := by
  subst he
  exact (if_neg h).trans (if_pos h0)
theorem zn_ntL {f : Nat → Int} {n e : Int} {k : Nat} {a q : Int} {v : zn_T} (h : ¬ n < a) (he : e = zt_U 10 f n a) (h0 : zt_kn f e a ≠ 0) (hg : zn_lg (zt_kn f e) (zt_te f e) (zt_tv f e) (zt_kc f e) v a) : zn_nt f n (k + 1) a q 1 v = zn_nt f n k (e + 1) (q + 1) 1 (zn_lv (zt_kn f e) (zt_te f e) (zt_tv f e) (zt_kc f e) v a) := by
  subst he
  exact (if_neg h).trans ((if_neg h0).trans ((if_pos rfl).trans (if_pos hg)))
theorem zn_ntN {f : Nat → Int} {n e : Int} {k : Nat} {a q : Int} {v : zn_T} (h : ¬ n < a) (he : e = zt_U 10 f n a) (h0 : zt_kn f e a ≠ 0) (hg : ¬ zn_lg (zt_kn f e) (zt_te f e) (zt_tv f e) (zt_kc f e) v a) : zn_nt f n (k + 1) a q 1 v = (q, v) := by
  subst he
  exact (if_neg h).trans ((if_neg h0).trans ((if_pos rfl).trans (if_neg hg)))
theorem zn_ntI {f : Nat → Int} {n e : Int} {k : Nat} {a q : Int} {v : zn_T} (h : ¬ n < a) (he : e = zt_U 10 f n a) (h0 : zt_kn f e a ≠ 0) (hg : zn_ig (zt_kn f e) (zt_te f e) (zt_tv f e) (zt_kc f e) a) : zn_nt f n (k + 1) a q 0 v = zn_nt f n k (e + 1) (q + 1) 1 (zn_iv (zt_kn f e) (zt_te f e) (zt_tv f e) (zt_kc f e) a) := by
  subst he
  exact (if_neg h).trans ((if_neg h0).trans ((if_neg (by decide)).trans (if_pos hg)))
theorem zn_ntJ {f : Nat → Int} {n e : Int} {k : Nat} {a q : Int} {v : zn_T} (h : ¬ n < a) (he : e = zt_U 10 f n a) (h0 : zt_kn f e a ≠ 0) (hg : ¬ zn_ig (zt_kn f e) (zt_te f e) (zt_tv f e) (zt_kc f e) a) : zn_nt f n (k + 1) a q 0 v = (q, v) := by
  subst he
  exact (if_neg h).trans ((if_neg h0).trans ((if_neg (by decide)).trans (if_neg hg)))
def zn_v0 : zn_T := fun _ _ => 0
theorem zn_kd3 {c w : Int} (h : zn_kd c w ≠ 0) : zn_kd c w = 1 ∨ zn_kd c w = 2 ∨ zn_kd c w = 3 := by
  have r := zn_kdr c w
  omega
theorem zn_Vlv {tk te tv wc : Int → Int} {v : zn_T} {p : Int} (hV : zn_V v) (h : zn_lg tk te tv wc v p) : zn_V (zn_lv tk te tv wc v p) ∧ v 15 0 ≤ 10 := ⟨zn_Vnw hV (zn_kd3 h.1) h.2.2.2.2.2, (zn_F0 h.2.2.2.2.2).2.2.2⟩
theorem zn_lvn {tk te tv wc : Int → Int} {v : zn_T} {p : Int} (hV : zn_V v) : zn_lv tk te tv wc v p 15 0 = v 15 0 + 1 ∧ zn_lv tk te tv wc v p 14 (v 15 0).toNat = zn_lo tk te tv wc v p 9 ∧ (∀ i : Nat, (i : Int) ≠ v 15 0 → zn_lv tk te tv wc v p 14 i = v 14 i) := by
  have hV1 := hV.1
  refine ⟨rfl, (zn_nwN (by omega) (by decide)).trans rfl, fun i hi => ?_⟩
  exact zn_nwq (by decide) hi
/-! Two texts that are the same come to the same. -/
theorem zt_kne {f g : Nat → Int} {e p : Int} (hp : p ≤ e) (h : ∀ i : Int, p ≤ i → i < e → f i.toNat = g i.toNat) : zt_kn f e p = zt_kn g e p ∧ zt_te f e p = zt_te g e p ∧ zt_tv f e p = zt_tv g e p ∧ zt_kc f e p = zt_kc g e p ∧ p ≤ zt_te g e p ∧ zt_te g e p ≤ e := by
  have a := zt_tke hp h
  have hR : zt_R 32 32 f e p = zt_R 32 32 g e p := zt_Re h
  have hb := zt_Rb (lo := 32) (hi := 32) (f := g) hp
  refine ⟨?_, a.2.1, a.2.2.1, ?_, a.2.2.2.1, a.2.2.2.2⟩
  · unfold zt_kn
    rw [a.1, a.2.1, hR]
    rcases Int.lt_or_le (zt_R 32 32 g e p) e with q | q
    · unfold zt_kk
      rw [h _ hb.1 q]
    · have z := (zt_tk0 (f := g) (e := e) (p := p) rfl (Or.inl q)).1
      unfold zt_kk
      rw [if_pos z, if_pos z]
  · unfold zt_kc zt_cw
    rw [a.2.1, hR, zt_lse (zt_te g e p - zt_R 32 32 g e p).toNat _ (fun i h1 h2 => h i (by omega) (by omega))]
theorem zn_nte {f g : Nat → Int} {n : Int} (h : ∀ i : Int, 0 ≤ i → i < n → f i.toNat = g i.toNat) (k : Nat) : ∀ (a q b : Int) (v : zn_T), 0 ≤ a → (b = 0 ∨ b = 1) → zn_nt f n k a q b v = zn_nt g n k a q b v := by
  induction k with
  | zero =>
    intro a q b v _ _
    rfl
  | succ k ih =>
    intro a q b v ha hb
    by_cases h1 : n < a
    · rw [zn_ntE h1, zn_ntE h1]
    · have hU : zt_U 10 f n a = zt_U 10 g n a := zt_Ue (fun i h2 h3 => h i (by omega) h3)
      have ub := (zt_Ub (c := 10) (f := g) (e := n) (p := a) (by omega)).1
      have tq : zn_tq (zt_kn f (zt_U 10 g n a)) (zt_te f (zt_U 10 g n a)) (zt_tv f (zt_U 10 g n a)) (zt_kc f (zt_U 10 g n a)) (zt_kn g (zt_U 10 g n a)) (zt_te g (zt_U 10 g n a)) (zt_tv g (zt_U 10 g n a)) (zt_kc g (zt_U 10 g n a)) a (zt_U 10 g n a) := fun p h2 h3 => zt_kne h3 (fun i h4 h5 => h i (by omega) (by omega))
      have t0 := (tq a (Int.le_refl a) ub.1).1
      by_cases h2 : zt_kn g (zt_U 10 g n a) a = 0
      · rw [zn_ntB h1 hU.symm (by rw [t0]; exact h2), zn_ntB h1 rfl h2]
        exact ih _ _ _ _ (by omega) hb
      · have h2f : zt_kn f (zt_U 10 g n a) a ≠ 0 := by
          rw [t0]
          exact h2
        rcases hb with e | e
        · subst e
          have iq := zn_iq tq ⟨Int.le_refl a, ub.1⟩
          by_cases h3 : zn_ig (zt_kn g (zt_U 10 g n a)) (zt_te g (zt_U 10 g n a)) (zt_tv g (zt_U 10 g n a)) (zt_kc g (zt_U 10 g n a)) a
          · rw [zn_ntI h1 hU.symm h2f (iq.1.mpr h3), zn_ntI h1 rfl h2 h3, iq.2.1]
            exact ih _ _ _ _ (by omega) (Or.inr rfl)
          · rw [zn_ntJ h1 hU.symm h2f (fun x => h3 (iq.1.mp x)), zn_ntJ h1 rfl h2 h3]
        · subst e
          have lq := zn_lq (v := v) tq ⟨Int.le_refl a, ub.1⟩
          by_cases h3 : zn_lg (zt_kn g (zt_U 10 g n a)) (zt_te g (zt_U 10 g n a)) (zt_tv g (zt_U 10 g n a)) (zt_kc g (zt_U 10 g n a)) v a
          · rw [zn_ntL h1 hU.symm h2f (lq.1.mpr h3), zn_ntL h1 rfl h2 h3, lq.2.1]
            exact ih _ _ _ _ (by omega) (Or.inr rfl)
          · rw [zn_ntN h1 hU.symm h2f (fun x => h3 (lq.1.mp x)), zn_ntN h1 rfl h2 h3]
/-! Places anew. -/
/-- kinds, and what a layer takes -/
def zn_W (v : zn_T) : Prop := v 0 0 = 0 ∧ ∀ k : Int, 1 ≤ k → k < v 15 0 → (v 0 k.toNat = 1 ∨ v 0 k.toNat = 2 ∨ v 0 k.toNat = 3) ∧ (v 0 k.toNat ≠ 3 → v 2 k.toNat = v 1 k.toNat)
def zn_tk (v : zn_T) (k t : Int) : Prop := v 1 k.toNat = t ∨ (v 0 k.toNat = 3 ∧ v 2 k.toNat = t)
/-- is tensor t needed when layer k is made? -/
def zn_nd8 (v : zn_T) (t k : Int) : Prop := (∃ j : Int, 1 ≤ j ∧ k ≤ j ∧ j < v 15 0 ∧ zn_tk v j t) ∨ ¬ ∃ j : Int, 1 ≤ j ∧ j < v 15 0 ∧ zn_tk v j t
/-- may layer k's tensor begin at s, where the ones ahead begin by B? -/
def zn_fe (v : zn_T) (B : Nat → Int) (k s : Int) : Prop := ∀ t : Int, 0 ≤ t → t < k → zn_nd8 v t k → ¬ (s < B t.toNat + zn_sz v t.toNat ∧ B t.toNat < s + zn_sz v k.toNat)
def zn_ls (v : zn_T) (B : Nat → Int) (k s : Int) : Prop := 0 ≤ s ∧ zn_fe v B k s ∧ ∀ u : Int, 0 ≤ u → u < s → ¬ zn_fe v B k u
theorem zn_lsu {v : zn_T} {B B1 : Nat → Int} {k s s1 : Int} (hB : ∀ t : Int, 0 ≤ t → t < k → B t.toNat = B1 t.toNat) (h : zn_ls v B k s) (h1 : zn_ls v B1 k s1) : s = s1 := by
  have e : ∀ u : Int, zn_fe v B k u ↔ zn_fe v B1 k u := by
    intro u
    constructor
    · intro g t t1 t2 hn
      have x := g t t1 t2 hn
      rw [hB t t1 t2] at x
      exact x
    · intro g t t1 t2 hn
      have x := g t t1 t2 hn
      rw [← hB t t1 t2] at x
      exact x
  rcases (by omega : s < s1 ∨ s1 < s ∨ s = s1) with q | q | q
  · exact absurd ((e s).mp h.2.1) (h1.2.2 s h.1 q)
  · exact absurd ((e s1).mpr h1.2.1) (h.2.2 s1 h1.1 q)
  · exact q
/-- the places of all the layers up to k -/
def zn_pl (v : zn_T) (B : Nat → Int) (k : Int) : Prop := B 0 = 0 ∧ ∀ j : Int, 1 ≤ j → j < k → zn_ls v B j (B j.toNat)
theorem zn_plu {v : zn_T} {B B1 : Nat → Int} {k : Int} (h : zn_pl v B k) (h1 : zn_pl v B1 k) : ∀ j : Int, 0 ≤ j → j < k → B j.toNat = B1 j.toNat := by
  have key : ∀ n : Nat, ∀ j : Int, 0 ≤ j → j < (n : Int) → j < k → B j.toNat = B1 j.toNat := by
    intro n
    induction n with
    | zero =>
      intro j j1 j2 _
      omega
    | succ n ih =>
      intro j j1 j2 j3
      rcases (by omega : j = 0 ∨ 1 ≤ j) with e | e
      · rw [e]
        exact h.1.trans h1.1.symm
      · exact zn_lsu (fun t t1 t2 => ih t t1 (by omega) (by omega)) (h.2 j e j3) (h1.2 j e j3)
  intro j j1 j2
  exact key (j.toNat + 1) j j1 (by omega) j2
/-- how many of the first k tensors end at s or ahead of it -/
def zn_cn (v : zn_T) (B : Nat → Int) (s : Int) : Nat → Nat
  | 0 => 0
  | k + 1 => zn_cn v B s k + (if B k + zn_sz v k ≤ s then 1 else 0)
theorem zn_cnb {v : zn_T} {B : Nat → Int} {s : Int} (k : Nat) : zn_cn v B s k ≤ k ∧ (zn_cn v B s k = k → ∀ t : Nat, t < k → B t + zn_sz v t ≤ s) := by
  induction k with
  | zero => exact ⟨Nat.le_refl _, fun _ t ht => by omega⟩
  | succ k ih =>
    have e : zn_cn v B s (k + 1) = zn_cn v B s k + (if B k + zn_sz v k ≤ s then 1 else 0) := rfl
    rw [e]
    by_cases h : B k + zn_sz v k ≤ s
    · rw [if_pos h]
      refine ⟨by omega, fun g t ht => ?_⟩
      rcases (by omega : t = k ∨ t < k) with q | q
      · rw [q]
        exact h
      · exact ih.2 (by omega) t q
    · rw [if_neg h]
      exact ⟨by omega, fun g => by omega⟩
theorem zn_cnm {v : zn_T} {B : Nat → Int} {s u : Int} (hs : s ≤ u) (k : Nat) : zn_cn v B s k ≤ zn_cn v B u k := by
  induction k with
  | zero => exact Nat.le_refl _
  | succ k ih =>
    show zn_cn v B s k + (if B k + zn_sz v k ≤ s then 1 else 0) ≤ zn_cn v B u k + (if B k + zn_sz v k ≤ u then 1 else 0)
    by_cases h : B k + zn_sz v k ≤ s
    · rw [if_pos h, if_pos (by omega)]
      omega
    · rw [if_neg h]
      omega
theorem zn_cnS {v : zn_T} {B : Nat → Int} {s u : Int} {t : Nat} (hs : s < B t + zn_sz v t) (hu : B t + zn_sz v t ≤ u) (k : Nat) (hk : t < k) : zn_cn v B s k + 1 ≤ zn_cn v B u k := by
  induction k with
  | zero => omega
  | succ k ih =>
    show zn_cn v B s k + (if B k + zn_sz v k ≤ s then 1 else 0) + 1 ≤ zn_cn v B u k + (if B k + zn_sz v k ≤ u then 1 else 0)
    rcases (by omega : t = k ∨ t < k) with q | q
    · subst q
      rw [if_neg (by omega), if_pos hu]
      have m := zn_cnm (v := v) (B := B) (s := s) (u := u) (by omega) t
      omega
    · have i := ih q
      by_cases h : B k + zn_sz v k ≤ s
      · rw [if_pos h, if_pos (by omega)]
        omega
      · rw [if_neg h]
        omega
/-- all ends passed: the spot is free -/
theorem zn_fea {v : zn_T} {B : Nat → Int} {k s : Int} (hk : 0 ≤ k) (h : zn_cn v B s k.toNat = k.toNat) : zn_fe v B k s := by
  intro t t1 t2 _ g
  have x := (zn_cnb (v := v) (B := B) (s := s) k.toNat).2 h t.toNat (by omega)
  omega
/-- a spot that meets tensor t goes behind it: none between was free -/
theorem zn_feg {v : zn_T} {B : Nat → Int} {k s t : Int} (t1 : 0 ≤ t) (t2 : t < k) (hn : zn_nd8 v t k) (h1 : s < B t.toNat + zn_sz v t.toNat) (h2 : B t.toNat < s + zn_sz v k.toNat) (hl : ∀ u : Int, 0 ≤ u → u < s → ¬ zn_fe v B k u) : ∀ u : Int, 0 ≤ u → u < B t.toNat + zn_sz v t.toNat → ¬ zn_fe v B k u := by
  intro u u1 u2
  rcases (by omega : u < s ∨ s ≤ u) with q | q
  · exact hl u u1 q
  · intro g
    exact g t t1 t2 hn ⟨u2, by omega⟩
theorem zn_feB {v : zn_T} {B B1 : Nat → Int} {k u : Int} (hB : ∀ t : Int, 0 ≤ t → t < k → B t.toNat = B1 t.toNat) : zn_fe v B k u ↔ zn_fe v B1 k u := by
  constructor
  · intro g t t1 t2 hn
    have x := g t t1 t2 hn
    rw [hB t t1 t2] at x
    exact x
  · intro g t t1 t2 hn
    have x := g t t1 t2 hn
    rw [← hB t t1 t2] at x
    exact x
theorem zn_lsB {v : zn_T} {B B1 : Nat → Int} {k s : Int} (hB : ∀ t : Int, 0 ≤ t → t < k → B t.toNat = B1 t.toNat) (h : zn_ls v B k s) : zn_ls v B1 k s :=
  ⟨h.1, (zn_feB hB).mp h.2.1, fun u u1 u2 g => h.2.2 u u1 u2 ((zn_feB hB).mpr g)⟩
/-- one place more -/
theorem zn_plS {v : zn_T} {B B1 : Nat → Int} {k : Int} (h : zn_pl v B k) (hk : 1 ≤ k) (hB : ∀ t : Int, 0 ≤ t → t < k → B t.toNat = B1 t.toNat) (hs : zn_ls v B k (B1 k.toNat)) : zn_pl v B1 (k + 1) := by
  refine ⟨(hB 0 (by decide) (by omega)).symm.trans h.1, fun j j1 j2 => ?_⟩
  rcases (by omega : j = k ∨ j < k) with e | e
  · rw [e]
    exact zn_lsB hB hs
  · rw [← hB j (by omega) e]
    exact zn_lsB (fun t t1 t2 => hB t t1 (by omega)) (h.2 j j1 e)
theorem zn_plB {v : zn_T} {B B1 : Nat → Int} {k : Int} (h : zn_pl v B k) (hk : 1 ≤ k) (hB : ∀ t : Int, 0 ≤ t → t < k → B t.toNat = B1 t.toNat) : zn_pl v B1 k := by
  refine ⟨(hB 0 (by decide) (by omega)).symm.trans h.1, fun j j1 j2 => ?_⟩
  rw [← hB j (by omega) j2]
  exact zn_lsB (fun t t1 t2 => hB t t1 (by omega)) (h.2 j j1 j2)
theorem zn_pl1 {v : zn_T} {B : Nat → Int} (h : B 0 = 0) : zn_pl v B 1 := ⟨h, fun j j1 j2 => by omega⟩
theorem zn_plm {v : zn_T} {B : Nat → Int} {k i : Int} (h : zn_pl v B k) (hi : i ≤ k) : zn_pl v B i := ⟨h.1, fun j j1 j2 => h.2 j j1 (by omega)⟩
theorem zn_pl0 {v : zn_T} {B : Nat → Int} {k j : Int} (h : zn_pl v B k) (j1 : 0 ≤ j) (j2 : j < k) : 0 ≤ B j.toNat := by
  rcases (by omega : j = 0 ∨ 1 ≤ j) with e | e
  · rw [e]
    exact Int.le_of_eq h.1.symm
  · exact (h.2 j e j2).1
/-- all places, and their end -/
def zn_PL (v : zn_T) (B : Nat → Int) (m : Int) : Prop := zn_pl v B (v 15 0) ∧ (∀ j : Int, 0 ≤ j → j < v 15 0 → B j.toNat + zn_sz v j.toNat ≤ m) ∧ ∃ j : Int, 0 ≤ j ∧ j < v 15 0 ∧ B j.toNat + zn_sz v j.toNat = m
theorem zn_PLu {v : zn_T} {B B1 : Nat → Int} {m m1 : Int} (h : zn_PL v B m) (h1 : zn_PL v B1 m1) : m = m1 ∧ ∀ j : Int, 0 ≤ j → j < v 15 0 → B j.toNat = B1 j.toNat := by
  have e := zn_plu h.1 h1.1
  obtain ⟨j, j1, j2, j3⟩ := h.2.2
  obtain ⟨i, i1, i2, i3⟩ := h1.2.2
  have a := h1.2.1 j j1 j2
  have b := h.2.1 i i1 i2
  have c := e j j1 j2
  have d := e i i1 i2
  exact ⟨by omega, e⟩
/-- one that ends too late -/
def zn_PN (v : zn_T) : Prop := ∃ (B : Nat → Int) (k : Int), 1 ≤ k ∧ k < v 15 0 ∧ zn_pl v B (k + 1) ∧ 2048 < B k.toNat + zn_sz v k.toNat
theorem zn_PLN {v : zn_T} {B : Nat → Int} {m : Int} (h : zn_PL v B m) (g : zn_PN v) : 2048 < m := by
  obtain ⟨B1, k, k1, k2, k3, k4⟩ := g
  have e := zn_plu (zn_plm h.1 (show k + 1 ≤ v 15 0 by omega)) k3 k (by omega) (by omega)
  have a := h.2.1 k (by omega) k2
  omega
theorem zn_max (f : Nat → Int) (n : Nat) : ∃ j : Nat, j ≤ n ∧ ∀ i : Nat, i ≤ n → f i ≤ f j := by
  induction n with
  | zero => exact ⟨0, Nat.le_refl _, fun i hi => by rw [show i = 0 by omega]; exact Int.le_refl _⟩
  | succ n ih =>
    obtain ⟨j, j1, j2⟩ := ih
    rcases (by omega : f (n + 1) ≤ f j ∨ f j ≤ f (n + 1)) with q | q
    · refine ⟨j, by omega, fun i hi => ?_⟩
      rcases (by omega : i = n + 1 ∨ i ≤ n) with e | e
      · rw [e]
        exact q
      · exact j2 i e
    · refine ⟨n + 1, Nat.le_refl _, fun i hi => ?_⟩
      rcases (by omega : i = n + 1 ∨ i ≤ n) with e | e
      · rw [e]
        exact Int.le_refl _
      · have := j2 i e
        omega
theorem zn_PLe {v : zn_T} {B : Nat → Int} (hV : zn_V v) (h : zn_pl v B (v 15 0)) : ∃ m : Int, zn_PL v B m := by
  have hV1 := hV.1
  obtain ⟨j, j1, j2⟩ := zn_max (fun i => B i + zn_sz v i) ((v 15 0).toNat - 1)
  refine ⟨B j + zn_sz v j, h, fun i i1 i2 => j2 i.toNat (by omega), (j : Int), by omega, by omega, ?_⟩
  rw [show ((j : Nat) : Int).toNat = j by omega]
/-- the network with these places -/
def zn_rp (v : zn_T) (B : Nat → Int) (m : Int) : zn_T := fun s k => if s = 13 then B k else if s = 15 ∧ k = 1 then m else v s k
theorem zn_rpo {v : zn_T} {B : Nat → Int} {m : Int} {s k : Nat} (h : s ≠ 13) (h1 : s ≠ 15) : zn_rp v B m s k = v s k := by
  unfold zn_rp
  rw [if_neg h, if_neg (fun x => h1 x.1)]
theorem zn_rpz {v : zn_T} {B : Nat → Int} {m : Int} {k : Nat} : zn_sz (zn_rp v B m) k = zn_sz v k := rfl
theorem zn_rpb {v : zn_T} {B : Nat → Int} {m : Int} : zn_rp v B m 13 = B := rfl
theorem zn_rpT {v : zn_T} {B : Nat → Int} {m : Int} : zn_rp v B m 15 0 = v 15 0 ∧ zn_rp v B m 15 1 = m := ⟨rfl, rfl⟩
theorem zn_Vrp {v : zn_T} {B : Nat → Int} {m : Int} (hV : zn_V v) (h : zn_PL v B m) (hm : m ≤ 2048) : zn_V (zn_rp v B m) := by
  obtain ⟨⟨t1, t2, t3, t4⟩, hk, _⟩ := hV
  refine ⟨⟨t1, t2, hm, h.1.1⟩, fun k k1 k2 => ?_, h.2.2⟩
  have g := hk k k1 k2
  exact ⟨g.1, g.2.1, g.2.2.1, zn_pl0 h.1 k1 k2, h.2.1 k k1 k2⟩
theorem zn_Wrp {v : zn_T} {B : Nat → Int} {m : Int} (hW : zn_W v) : zn_W (zn_rp v B m) := hW
theorem zn_Wip (h w c nm : Int) : zn_W (zn_ip h w c nm) := by
  refine ⟨rfl, fun k k1 k2 => ?_⟩
  have e : zn_ip h w c nm 15 0 = 1 := rfl
  omega
theorem zn_Wdp {v : zn_T} (hW : zn_W v) : zn_W (zn_dp v) := by
  refine ⟨hW.1, fun k k1 k2 => ?_⟩
  have e : zn_dp v 15 0 = 1 := rfl
  omega
theorem zn_Wnw {v : zn_T} {K a b kh kw st ed sh rl ch ad nm : Int} (hV : zn_V v) (hW : zn_W v) (hK : K = 1 ∨ K = 2 ∨ K = 3) (hb : K ≠ 3 → b = a) : zn_W (zn_nw v K a b kh kw st ed sh rl ch ad nm) := by
  have hV1 := hV.1
  have e0 : zn_nw v K a b kh kw st ed sh rl ch ad nm 15 0 = v 15 0 + 1 := rfl
  refine ⟨by rw [zn_nwo (by decide) (by omega)]; exact hW.1, fun k k1 k2 => ?_⟩
  rcases (by omega : k = v 15 0 ∨ k < v 15 0) with e | e
  · have n : ((k.toNat : Nat) : Int) = v 15 0 := by omega
    rw [zn_nwN (s := 0) n (by decide), zn_nwN (s := 1) n (by decide), zn_nwN (s := 2) n (by decide)]
    exact ⟨hK, hb⟩
  · rw [zn_nwo (s := 0) (by decide) (by omega), zn_nwo (s := 1) (by decide) (by omega), zn_nwo (s := 2) (by decide) (by omega)]
    exact hW.2 k k1 e
theorem zn_W0 : zn_W zn_v0 := by
  refine ⟨rfl, fun k k1 k2 => ?_⟩
  have e : zn_v0 15 0 = 0 := rfl
  omega
theorem zn_Wlv {tk te tv wc : Int → Int} {v : zn_T} {p : Int} (hV : zn_V v) (hW : zn_W v) (h : zn_lg tk te tv wc v p) : zn_W (zn_lv tk te tv wc v p) := by
  refine zn_Wnw hV hW (zn_kd3 h.1) (fun x => ?_)
  unfold zn_l2
  rw [if_neg x]
theorem zn_ntW {f : Nat → Int} {n : Int} (k : Nat) : ∀ (a q b : Int) (v : zn_T), (b = 0 ∨ b = 1) → zn_W v → (b = 1 → zn_V v) → zn_W (zn_nt f n k a q b v).2 := by
  induction k with
  | zero =>
    intro a q b v _ hW _
    exact hW
  | succ k ih =>
    intro a q b v hb hW hV
    by_cases h1 : n < a
    · rw [zn_ntE h1]
      exact hW
    · by_cases h2 : zt_kn f (zt_U 10 f n a) a = 0
      · rw [zn_ntB h1 rfl h2]
        exact ih _ _ _ _ hb hW hV
      · rcases hb with e | e
        · subst e
          by_cases h3 : zn_ig (zt_kn f (zt_U 10 f n a)) (zt_te f (zt_U 10 f n a)) (zt_tv f (zt_U 10 f n a)) (zt_kc f (zt_U 10 f n a)) a
          · rw [zn_ntI h1 rfl h2 h3]
            have fp := h3.2.2.2.2.2.2.2
            exact ih _ _ _ _ (Or.inr rfl) (zn_Wip _ _ _ _) (fun _ => zn_Vip fp.1 fp.2.1 fp.2.2.1 fp.2.2.2)
          · rw [zn_ntJ h1 rfl h2 h3]
            exact hW
        · subst e
          by_cases h3 : zn_lg (zt_kn f (zt_U 10 f n a)) (zt_te f (zt_U 10 f n a)) (zt_tv f (zt_U 10 f n a)) (zt_kc f (zt_U 10 f n a)) v a
          · rw [zn_ntL h1 rfl h2 h3]
            exact ih _ _ _ _ (Or.inr rfl) (zn_Wlv (hV rfl) hW h3) (fun _ => (zn_Vlv (hV rfl) h3).1)
          · rw [zn_ntN h1 rfl h2 h3]
            exact hW

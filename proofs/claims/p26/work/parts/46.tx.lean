/-! Texts: runs of signs, tokens, words; as functions of the signs f, the line's end e and the place p. By hand. -/
/-- where the run of signs lo .. hi from p on ends, k signs at most -/
def zt_rn (lo hi : Int) (f : Nat → Int) : Nat → Int → Int
  | 0, p => p
  | k + 1, p => if lo ≤ f p.toNat ∧ f p.toNat ≤ hi then zt_rn lo hi f k (p + 1) else p
def zt_R (lo hi : Int) (f : Nat → Int) (e p : Int) : Int := zt_rn lo hi f (e - p).toNat p
theorem zt_rn1 (lo hi : Int) (f : Nat → Int) (k : Nat) (p : Int) : zt_rn lo hi f (k + 1) p = if lo ≤ f p.toNat ∧ f p.toNat ≤ hi then zt_rn lo hi f k (p + 1) else p := rfl
theorem zt_RS {lo hi e p : Int} {f : Nat → Int} (h : p < e) (hl : lo ≤ f p.toNat ∧ f p.toNat ≤ hi) : zt_R lo hi f e (p + 1) = zt_R lo hi f e p := by
  unfold zt_R
  have h1 : (e - p).toNat = (e - (p + 1)).toNat + 1 := by omega
  rw [h1, zt_rn1, if_pos hl]
theorem zt_R0 {lo hi e p : Int} {f : Nat → Int} (h : e ≤ p ∨ ¬ (lo ≤ f p.toNat ∧ f p.toNat ≤ hi)) : zt_R lo hi f e p = p := by
  unfold zt_R
  rcases Nat.eq_zero_or_pos (e - p).toNat with h0 | h0
  · rw [h0]
    rfl
  · have hk : (e - p).toNat = ((e - p).toNat - 1) + 1 := by omega
    rw [hk, zt_rn1, if_neg (h.resolve_left (by omega))]
theorem zt_rnb (lo hi : Int) (f : Nat → Int) (k : Nat) : ∀ p : Int, p ≤ zt_rn lo hi f k p ∧ zt_rn lo hi f k p ≤ p + (k : Int) := by
  induction k with
  | zero =>
    intro p
    show p ≤ p ∧ p ≤ p + ((0 : Nat) : Int)
    omega
  | succ k ih =>
    intro p
    rw [zt_rn1]
    have h := ih (p + 1)
    split
    · omega
    · omega
theorem zt_Rb {lo hi e p : Int} {f : Nat → Int} (h : p ≤ e) : p ≤ zt_R lo hi f e p ∧ zt_R lo hi f e p ≤ e := by
  have h1 := zt_rnb lo hi f (e - p).toNat p
  unfold zt_R
  omega
theorem zt_Rge {lo hi e p : Int} {f : Nat → Int} : p ≤ zt_R lo hi f e p := (zt_rnb lo hi f (e - p).toNat p).1
/-- what the run leaves behind -/
theorem zt_rnx (lo hi : Int) (f : Nat → Int) (k : Nat) : ∀ p : Int, (∀ i : Int, p ≤ i → i < zt_rn lo hi f k p → lo ≤ f i.toNat ∧ f i.toNat ≤ hi) ∧ (zt_rn lo hi f k p = p + (k : Int) ∨ ¬ (lo ≤ f (zt_rn lo hi f k p).toNat ∧ f (zt_rn lo hi f k p).toNat ≤ hi)) := by
  induction k with
  | zero =>
    intro p
    refine ⟨fun i h1 h2 => ?_, Or.inl ?_⟩
    · have h3 : i < p := h2
      omega
    · show p = p + ((0 : Nat) : Int)
      omega
  | succ k ih =>
    intro p
    rw [zt_rn1]
    by_cases h : lo ≤ f p.toNat ∧ f p.toNat ≤ hi
    · rw [if_pos h]
      have h1 := ih (p + 1)
      refine ⟨fun i h2 h3 => ?_, ?_⟩
      · rcases (by omega : i = p ∨ p + 1 ≤ i) with h4 | h4
        · rw [h4]
          exact h
        · exact h1.1 i h4 h3
      · rcases h1.2 with h2 | h2
        · left
          omega
        · right
          exact h2
    · rw [if_neg h]
      exact ⟨fun i h1 h2 => absurd h2 (by omega), Or.inr h⟩
/-- a shorter line whose end stops the run too -/
theorem zt_rnc (lo hi : Int) (f : Nat → Int) (c : Int) : ∀ (k : Nat) (p : Int) (m : Nat), k ≤ m → c = p + (k : Int) → (k = m ∨ ¬ (lo ≤ f c.toNat ∧ f c.toNat ≤ hi)) → zt_rn lo hi f m p = zt_rn lo hi f k p := by
  intro k
  induction k with
  | zero =>
    intro p m h1 h2 h3
    cases m with
    | zero => rfl
    | succ m =>
      have h4 : c = p := by omega
      rw [zt_rn1, if_neg]
      · rfl
      · rw [← h4]
        exact h3.resolve_left (by omega)
  | succ k ih =>
    intro p m h1 h2 h3
    cases m with
    | zero => omega
    | succ m =>
      rw [zt_rn1, zt_rn1]
      by_cases h : lo ≤ f p.toNat ∧ f p.toNat ≤ hi
      · rw [if_pos h, if_pos h]
        exact ih (p + 1) m (by omega) (by omega) (h3.elim (fun q => Or.inl (by omega)) Or.inr)
      · rw [if_neg h, if_neg h]
theorem zt_Rc {lo hi e c p : Int} {f : Nat → Int} (h1 : p ≤ c) (h2 : c ≤ e) (h3 : c = e ∨ ¬ (lo ≤ f c.toNat ∧ f c.toNat ≤ hi)) : zt_R lo hi f e p = zt_R lo hi f c p := by
  unfold zt_R
  exact zt_rnc lo hi f c (c - p).toNat p (e - p).toNat (by omega) (by omega) (h3.elim (fun q => Or.inl (by omega)) Or.inr)
/-- only the signs from p up to e count -/
theorem zt_rne (lo hi : Int) (f g : Nat → Int) (k : Nat) : ∀ p : Int, (∀ i : Int, p ≤ i → i < p + (k : Int) → f i.toNat = g i.toNat) → zt_rn lo hi f k p = zt_rn lo hi g k p := by
  induction k with
  | zero =>
    intro p _
    rfl
  | succ k ih =>
    intro p h
    rw [zt_rn1, zt_rn1, h p (Int.le_refl _) (by omega), ih (p + 1) (fun i h1 h2 => h i (by omega) (by omega))]
theorem zt_Re {lo hi e p : Int} {f g : Nat → Int} (h : ∀ i : Int, p ≤ i → i < e → f i.toNat = g i.toNat) : zt_R lo hi f e p = zt_R lo hi g e p := by
  unfold zt_R
  exact zt_rne lo hi f g _ p (fun i h1 h2 => h i h1 (by omega))
/-- where the first sign c from p on is, or k behind -/
def zt_un (c : Int) (f : Nat → Int) : Nat → Int → Int
  | 0, p => p
  | k + 1, p => if f p.toNat = c then p else zt_un c f k (p + 1)
def zt_U (c : Int) (f : Nat → Int) (e p : Int) : Int := zt_un c f (e - p).toNat p
theorem zt_un1 (c : Int) (f : Nat → Int) (k : Nat) (p : Int) : zt_un c f (k + 1) p = if f p.toNat = c then p else zt_un c f k (p + 1) := rfl
theorem zt_US {c e p : Int} {f : Nat → Int} (h : p < e) (hl : f p.toNat ≠ c) : zt_U c f e (p + 1) = zt_U c f e p := by
  unfold zt_U
  have h1 : (e - p).toNat = (e - (p + 1)).toNat + 1 := by omega
  rw [h1, zt_un1, if_neg hl]
theorem zt_U0 {c e p : Int} {f : Nat → Int} (h : e ≤ p ∨ f p.toNat = c) : zt_U c f e p = p := by
  unfold zt_U
  rcases Nat.eq_zero_or_pos (e - p).toNat with h0 | h0
  · rw [h0]
    rfl
  · have hk : (e - p).toNat = ((e - p).toNat - 1) + 1 := by omega
    rw [hk, zt_un1, if_pos (h.resolve_left (by omega))]
theorem zt_unb (c : Int) (f : Nat → Int) (k : Nat) : ∀ p : Int, (p ≤ zt_un c f k p ∧ zt_un c f k p ≤ p + (k : Int)) ∧ (zt_un c f k p = p + (k : Int) ∨ f (zt_un c f k p).toNat = c) := by
  induction k with
  | zero =>
    intro p
    show (p ≤ p ∧ p ≤ p + ((0 : Nat) : Int)) ∧ (p = p + ((0 : Nat) : Int) ∨ _)
    exact ⟨by omega, Or.inl (by omega)⟩
  | succ k ih =>
    intro p
    rw [zt_un1]
    have h := ih (p + 1)
    split
    · rename_i h1
      exact ⟨by omega, Or.inr h1⟩
    · exact ⟨by omega, h.2.elim (fun q => Or.inl (by omega)) Or.inr⟩
theorem zt_Ub {c e p : Int} {f : Nat → Int} (h : p ≤ e) : (p ≤ zt_U c f e p ∧ zt_U c f e p ≤ e) ∧ (zt_U c f e p = e ∨ f (zt_U c f e p).toNat = c) := by
  have h1 := zt_unb c f (e - p).toNat p
  unfold zt_U
  exact ⟨by omega, h1.2.elim (fun q => Or.inl (by omega)) Or.inr⟩
theorem zt_une (c : Int) (f g : Nat → Int) (k : Nat) : ∀ p : Int, (∀ i : Int, p ≤ i → i < p + (k : Int) → f i.toNat = g i.toNat) → zt_un c f k p = zt_un c g k p := by
  induction k with
  | zero =>
    intro p _
    rfl
  | succ k ih =>
    intro p h
    rw [zt_un1, zt_un1, h p (Int.le_refl _) (by omega), ih (p + 1) (fun i h1 h2 => h i (by omega) (by omega))]
theorem zt_Ue {c e p : Int} {f g : Nat → Int} (h : ∀ i : Int, p ≤ i → i < e → f i.toNat = g i.toNat) : zt_U c f e p = zt_U c g e p := by
  unfold zt_U
  exact zt_une c f g _ p (fun i h1 h2 => h i h1 (by omega))
/-- do the signs from p on begin so? -/
def zt_ms (f : Nat → Int) : Int → List Int → Prop
  | _, [] => True
  | p, c :: cs => f p.toNat = c ∧ zt_ms f (p + 1) cs
/-- is the part from q up to r this word? -/
def zt_iw (f : Nat → Int) (q r : Int) (w : List Int) : Prop := r - q = ((w.length : Nat) : Int) ∧ zt_ms f q w
theorem zt_msu (f : Nat → Int) : ∀ (v w : List Int) (p : Int), v.length = w.length → zt_ms f p v → zt_ms f p w → v = w := by
  intro v
  induction v with
  | nil =>
    intro w p h _ _
    cases w with
    | nil => rfl
    | cons c cs => cases h
  | cons d ds ih =>
    intro w p h h1 h2
    cases w with
    | nil => cases h
    | cons c cs => rw [← h1.1, ← h2.1, ih cs (p + 1) (Nat.succ.inj h) h1.2 h2.2]
theorem zt_iwu {f : Nat → Int} {q r : Int} {v w : List Int} (h1 : zt_iw f q r v) (h2 : zt_iw f q r w) : v = w :=
  zt_msu f v w q (by have a := h1.1; have b := h2.1; omega) h1.2 h2.2
theorem zt_mse (f g : Nat → Int) : ∀ (w : List Int) (p : Int), (∀ i : Int, p ≤ i → i < p + ((w.length : Nat) : Int) → f i.toNat = g i.toNat) → zt_ms f p w → zt_ms g p w := by
  intro w
  induction w with
  | nil =>
    intro p _ _
    trivial
  | cons c cs ih =>
    intro p h h1
    have hl : ((List.length (c :: cs) : Nat) : Int) = ((cs.length : Nat) : Int) + 1 := by
      rw [List.length_cons]
      omega
    exact ⟨by rw [← h p (Int.le_refl _) (by omega)]; exact h1.1, ih (p + 1) (fun i h2 h3 => h i (by omega) (by omega)) h1.2⟩
/-- the words of programs' texts, by their numbers (1 .. 20) -/
def zt_nw : List (List Int) := [[], [99, 101, 108, 108, 115], [119, 101, 105, 103, 104, 116, 115], [99, 108, 101, 97, 114], [115, 117, 109, 115], [109, 117, 108, 116, 105, 112, 108, 121], [99, 111, 109, 98, 105, 110, 101], [110, 97, 114, 114, 111, 119], [115, 116, 111, 114, 101], [119, 97, 105, 116], [97, 116], [98, 121], [120], [97], [98], [115, 116, 101, 112], [110], [112, 111, 112], [112, 117, 115, 104], [98, 101, 102, 111, 114, 101], [98, 101, 104, 105, 110, 100]]
theorem zt_nwu : ∀ a : Nat, a < 21 → ∀ b : Nat, b < 21 → zt_nw.getD a [] = zt_nw.getD b [] → a = b := by decide +kernel
/-- which of the words 1 .. k stands from q up to r; 101 if none -/
noncomputable def zt_wl (f : Nat → Int) (q r : Int) : Nat → Int
  | 0 => 101
  | k + 1 => @ite Int (zt_iw f q r (zt_nw.getD (k + 1) [])) (Classical.propDecidable _) ((k + 1 : Nat) : Int) (zt_wl f q r k)
theorem zt_wl1 {f : Nat → Int} {q r : Int} {k : Nat} (h : zt_iw f q r (zt_nw.getD (k + 1) [])) : zt_wl f q r (k + 1) = ((k + 1 : Nat) : Int) := by
  show @ite Int _ (Classical.propDecidable _) _ _ = _
  rw [if_pos h]
theorem zt_wl0 {f : Nat → Int} {q r : Int} {k : Nat} (h : ¬ zt_iw f q r (zt_nw.getD (k + 1) [])) : zt_wl f q r (k + 1) = zt_wl f q r k := by
  show @ite Int _ (Classical.propDecidable _) _ _ = _
  rw [if_neg h]
theorem zt_wli (f : Nat → Int) (q r : Int) (w : Nat) (hw : 1 ≤ w) (h : zt_iw f q r (zt_nw.getD w [])) : ∀ k : Nat, w ≤ k → k < 21 → zt_wl f q r k = (w : Int) := by
  intro k
  induction k with
  | zero =>
    intro h1 _
    omega
  | succ k ih =>
    intro h1 h2
    by_cases h3 : zt_iw f q r (zt_nw.getD (k + 1) [])
    · rw [zt_wl1 h3, zt_nwu (k + 1) h2 w (by omega) (zt_iwu h3 h)]
    · rw [zt_wl0 h3]
      refine ih ?_ (by omega)
      rcases (by omega : w = k + 1 ∨ w ≤ k) with h4 | h4
      · rw [h4] at h
        exact absurd h h3
      · exact h4
theorem zt_wlr (f : Nat → Int) (q r : Int) : ∀ k : Nat, zt_wl f q r k = 101 ∨ ∃ w : Nat, 1 ≤ w ∧ w ≤ k ∧ zt_wl f q r k = (w : Int) ∧ zt_iw f q r (zt_nw.getD w []) := by
  intro k
  induction k with
  | zero => exact Or.inl rfl
  | succ k ih =>
    by_cases h3 : zt_iw f q r (zt_nw.getD (k + 1) [])
    · exact Or.inr ⟨k + 1, by omega, Nat.le_refl _, zt_wl1 h3, h3⟩
    · rw [zt_wl0 h3]
      rcases ih with h | ⟨w, h1, h2, h4, h5⟩
      · exact Or.inl h
      · exact Or.inr ⟨w, h1, by omega, h4, h5⟩
theorem zt_wlb {f : Nat → Int} {q r : Int} {k : Nat} (hk : k ≤ 20) : zt_wl f q r k = 101 ∨ (1 ≤ zt_wl f q r k ∧ zt_wl f q r k ≤ 20) := by
  rcases zt_wlr f q r k with h | ⟨w, h1, h2, h3, _⟩
  · exact Or.inl h
  · exact Or.inr (by omega)
theorem zt_wlx {f : Nat → Int} {q r : Int} {w : Nat} (hw : 1 ≤ w ∧ w ≤ 20) : zt_iw f q r (zt_nw.getD w []) ↔ zt_wl f q r 20 = (w : Int) := by
  constructor
  · intro h
    exact zt_wli f q r w hw.1 h 20 hw.2 (by omega)
  · intro h
    rcases zt_wlr f q r 20 with h1 | ⟨v, h1, h2, h3, h4⟩
    · omega
    · have h5 : v = w := by omega
      rw [← h5]
      exact h4
/-- what k digits from q on are worth -/
def zt_nv (f : Nat → Int) (q : Int) : Nat → Int
  | 0 => 0
  | k + 1 => 10 * zt_nv f q k + f (q + (k : Int)).toNat - 48
/-- the token behind p (class: a # ends the line): its code, its end, its worth, its sort -/
noncomputable def zt_tk (f : Nat → Int) (e p : Int) : Int := if e ≤ zt_R 32 32 f e p ∨ f (zt_R 32 32 f e p).toNat = 35 then 0 else if 97 ≤ f (zt_R 32 32 f e p).toNat ∧ f (zt_R 32 32 f e p).toNat ≤ 122 then zt_wl f (zt_R 32 32 f e p) (zt_R 97 122 f e (zt_R 32 32 f e p)) 20 else if 48 ≤ f (zt_R 32 32 f e p).toNat ∧ f (zt_R 32 32 f e p).toNat ≤ 57 then (if 4 < zt_R 48 57 f e (zt_R 32 32 f e p) - zt_R 32 32 f e p then 101 else 100) else 101
def zt_te (f : Nat → Int) (e p : Int) : Int := if e ≤ zt_R 32 32 f e p ∨ f (zt_R 32 32 f e p).toNat = 35 then zt_R 32 32 f e p else if 97 ≤ f (zt_R 32 32 f e p).toNat ∧ f (zt_R 32 32 f e p).toNat ≤ 122 then zt_R 97 122 f e (zt_R 32 32 f e p) else zt_R 48 57 f e (zt_R 32 32 f e p)
def zt_tv (f : Nat → Int) (e p : Int) : Int := zt_nv f (zt_R 32 32 f e p) (zt_R 48 57 f e (zt_R 32 32 f e p) - zt_R 32 32 f e p).toNat
/-- the same of the reference, whose line ends ahead of the # -/
noncomputable def zt_tm (f : Nat → Int) (e p : Int) : Int := if e ≤ zt_R 32 32 f e p then 0 else if 97 ≤ f (zt_R 32 32 f e p).toNat ∧ f (zt_R 32 32 f e p).toNat ≤ 122 then zt_wl f (zt_R 32 32 f e p) (zt_R 97 122 f e (zt_R 32 32 f e p)) 20 else if 48 ≤ f (zt_R 32 32 f e p).toNat ∧ f (zt_R 32 32 f e p).toNat ≤ 57 then (if 4 < zt_R 48 57 f e (zt_R 32 32 f e p) - zt_R 32 32 f e p then 101 else 100) else 101
def zt_tn (f : Nat → Int) (e p : Int) : Int := if e ≤ zt_R 32 32 f e p then zt_R 32 32 f e p else if 97 ≤ f (zt_R 32 32 f e p).toNat ∧ f (zt_R 32 32 f e p).toNat ≤ 122 then zt_R 97 122 f e (zt_R 32 32 f e p) else zt_R 48 57 f e (zt_R 32 32 f e p)
theorem zt_tmw {f : Nat → Int} {e p q : Int} (hq : q = zt_R 32 32 f e p) (h1 : q < e) (h2 : 97 ≤ f q.toNat ∧ f q.toNat ≤ 122) : zt_tm f e p = zt_wl f q (zt_R 97 122 f e q) 20 ∧ zt_tn f e p = zt_R 97 122 f e q := by
  subst hq
  constructor
  · unfold zt_tm
    rw [if_neg (by omega), if_pos h2]
  · unfold zt_tn
    rw [if_neg (by omega), if_pos h2]
theorem zt_tmn {f : Nat → Int} {e p q : Int} (hq : q = zt_R 32 32 f e p) (h1 : q < e) (h2 : 48 ≤ f q.toNat ∧ f q.toNat ≤ 57) : zt_tm f e p = (if 4 < zt_R 48 57 f e q - q then 101 else 100) ∧ zt_tn f e p = zt_R 48 57 f e q := by
  subst hq
  constructor
  · unfold zt_tm
    rw [if_neg (by omega), if_neg (by omega), if_pos h2]
  · unfold zt_tn
    rw [if_neg (by omega), if_neg (by omega)]
theorem zt_tm0 {f : Nat → Int} {e p q : Int} (hq : q = zt_R 32 32 f e p) (h1 : e ≤ q) : zt_tm f e p = 0 ∧ zt_tn f e p = q := by
  subst hq
  constructor
  · unfold zt_tm
    rw [if_pos h1]
  · unfold zt_tn
    rw [if_pos h1]
theorem zt_tmb {f : Nat → Int} {e p q : Int} (hq : q = zt_R 32 32 f e p) (h1 : q < e) (h2 : ¬ (97 ≤ f q.toNat ∧ f q.toNat ≤ 122)) (h3 : ¬ (48 ≤ f q.toNat ∧ f q.toNat ≤ 57)) : zt_tm f e p = 101 ∧ zt_tn f e p = q := by
  subst hq
  constructor
  · unfold zt_tm
    rw [if_neg (by omega), if_neg h2, if_neg h3]
  · unfold zt_tn
    rw [if_neg (by omega), if_neg h2]
    exact zt_R0 (Or.inr h3)
theorem zt_tkw {f : Nat → Int} {e p q : Int} (hq : q = zt_R 32 32 f e p) (h1 : q < e) (h2 : 97 ≤ f q.toNat ∧ f q.toNat ≤ 122) : zt_tk f e p = zt_wl f q (zt_R 97 122 f e q) 20 ∧ zt_te f e p = zt_R 97 122 f e q := by
  subst hq
  constructor
  · unfold zt_tk
    rw [if_neg (by omega), if_pos h2]
  · unfold zt_te
    rw [if_neg (by omega), if_pos h2]
theorem zt_tkn {f : Nat → Int} {e p q : Int} (hq : q = zt_R 32 32 f e p) (h1 : q < e) (h2 : 48 ≤ f q.toNat ∧ f q.toNat ≤ 57) : zt_tk f e p = (if 4 < zt_R 48 57 f e q - q then 101 else 100) ∧ zt_te f e p = zt_R 48 57 f e q := by
  subst hq
  constructor
  · unfold zt_tk
    rw [if_neg (by omega), if_neg (by omega), if_pos h2]
  · unfold zt_te
    rw [if_neg (by omega), if_neg (by omega)]
theorem zt_tk0 {f : Nat → Int} {e p q : Int} (hq : q = zt_R 32 32 f e p) (h1 : e ≤ q ∨ f q.toNat = 35) : zt_tk f e p = 0 ∧ zt_te f e p = q := by
  subst hq
  constructor
  · unfold zt_tk
    rw [if_pos h1]
  · unfold zt_te
    rw [if_pos h1]
theorem zt_tkb {f : Nat → Int} {e p q : Int} (hq : q = zt_R 32 32 f e p) (h1 : q < e ∧ f q.toNat ≠ 35) (h2 : ¬ (97 ≤ f q.toNat ∧ f q.toNat ≤ 122)) (h3 : ¬ (48 ≤ f q.toNat ∧ f q.toNat ≤ 57)) : zt_tk f e p = 101 ∧ zt_te f e p = q := by
  subst hq
  constructor
  · unfold zt_tk
    rw [if_neg (by omega), if_neg h2, if_neg h3]
  · unfold zt_te
    rw [if_neg (by omega), if_neg h2]
    exact zt_R0 (Or.inr h3)
/-- up to its end there is no sign c -/
theorem zt_unx (c : Int) (f : Nat → Int) (k : Nat) : ∀ p i : Int, p ≤ i → i < zt_un c f k p → f i.toNat ≠ c := by
  induction k with
  | zero =>
    intro p i h1 h2
    have h3 : i < p := h2
    omega
  | succ k ih =>
    intro p i h1 h2
    rw [zt_un1] at h2
    by_cases h : f p.toNat = c
    · rw [if_pos h] at h2
      omega
    · rw [if_neg h] at h2
      rcases (by omega : i = p ∨ p + 1 ≤ i) with h4 | h4
      · rw [h4]
        exact h
      · exact ih (p + 1) i h4 h2
theorem zt_Ux {c e p i : Int} {f : Nat → Int} (h1 : p ≤ i) (h2 : i < zt_U c f e p) : f i.toNat ≠ c := zt_unx c f _ p i h1 h2
/-- the reference's tokens of a line that ends ahead of the # are the class's of the whole line -/
theorem zt_eq {f : Nat → Int} {e c s p : Int} (hc : c = zt_U 35 f e s) (hs : s ≤ e) (h1 : s ≤ p) (h2 : p ≤ c) : zt_tm f c p = zt_tk f e p ∧ zt_tn f c p = zt_te f e p ∧ zt_tv f c p = zt_tv f e p ∧ p ≤ zt_te f e p ∧ zt_te f e p ≤ c := by
  have hU := zt_Ub (c := 35) (f := f) hs
  rw [← hc] at hU
  have hR : ∀ lo hi q : Int, (hi < 35 ∨ 35 < lo) → q ≤ c → zt_R lo hi f e q = zt_R lo hi f c q := by
    intro lo hi q h3 h4
    refine zt_Rc h4 hU.1.2 ?_
    rcases hU.2 with h5 | h5
    · exact Or.inl h5
    · right
      rw [h5]
      omega
  have hq : zt_R 32 32 f e p = zt_R 32 32 f c p := hR 32 32 p (by omega) h2
  have hb := zt_Rb (lo := 32) (hi := 32) (f := f) h2
  by_cases h3 : c ≤ zt_R 32 32 f c p
  · have h4 : zt_R 32 32 f c p = c := by omega
    have a := zt_tm0 (f := f) (e := c) (p := p) rfl h3
    have b := zt_tk0 (f := f) (e := e) (p := p) rfl (by
      rw [hq, h4]
      rcases hU.2 with h5 | h5
      · exact Or.inl (by omega)
      · exact Or.inr h5)
    refine ⟨a.1.trans b.1.symm, ?_, ?_, ?_, ?_⟩
    · rw [a.2, b.2, hq]
    · unfold zt_tv
      rw [hq, h4, hR 48 57 c (by omega) (Int.le_refl _)]
    · rw [b.2, hq]
      exact hb.1
    · rw [b.2, hq]
      exact hb.2
  · have h4 : f (zt_R 32 32 f c p).toNat ≠ 35 := zt_Ux (e := e) (p := s) (by omega) (by rw [← hc]; omega)
    have hv : zt_tv f c p = zt_tv f e p := by
      unfold zt_tv
      rw [hq, hR 48 57 _ (by omega) hb.2]
    by_cases h5 : 97 ≤ f (zt_R 32 32 f c p).toNat ∧ f (zt_R 32 32 f c p).toNat ≤ 122
    · have a := zt_tmw (f := f) (e := c) (p := p) rfl (by omega) h5
      have b := zt_tkw (f := f) (e := e) (p := p) hq.symm (by omega) h5
      have d := zt_Rb (lo := 97) (hi := 122) (f := f) hb.2
      rw [hR 97 122 _ (by omega) hb.2] at b
      exact ⟨a.1.trans b.1.symm, a.2.trans b.2.symm, hv, by omega, by omega⟩
    · by_cases h6 : 48 ≤ f (zt_R 32 32 f c p).toNat ∧ f (zt_R 32 32 f c p).toNat ≤ 57
      · have a := zt_tmn (f := f) (e := c) (p := p) rfl (by omega) h6
        have b := zt_tkn (f := f) (e := e) (p := p) hq.symm (by omega) h6
        have d := zt_Rb (lo := 48) (hi := 57) (f := f) hb.2
        rw [hR 48 57 _ (by omega) hb.2] at b
        exact ⟨a.1.trans b.1.symm, a.2.trans b.2.symm, hv, by omega, by omega⟩
      · have a := zt_tmb (f := f) (e := c) (p := p) rfl (by omega) h5 h6
        have b := zt_tkb (f := f) (e := e) (p := p) hq.symm (by omega) h5 h6
        exact ⟨a.1.trans b.1.symm, a.2.trans b.2.symm, hv, by omega, by omega⟩
/-- a token that is one takes a sign -/
theorem zt_tmx {f : Nat → Int} {e p : Int} (hp : p ≤ e) (h : zt_tm f e p ≠ 0 ∧ zt_tm f e p ≠ 101) : p < zt_tn f e p := by
  have hb := zt_Rb (lo := 32) (hi := 32) (f := f) hp
  by_cases h3 : e ≤ zt_R 32 32 f e p
  · exact absurd (zt_tm0 (f := f) (e := e) (p := p) rfl h3).1 h.1
  · by_cases h5 : 97 ≤ f (zt_R 32 32 f e p).toNat ∧ f (zt_R 32 32 f e p).toNat ≤ 122
    · have a := zt_tmw (f := f) (e := e) (p := p) rfl (by omega) h5
      have d := zt_RS (e := e) (f := f) (by omega) h5
      have k := zt_Rge (lo := 97) (hi := 122) (f := f) (e := e) (p := zt_R 32 32 f e p + 1)
      omega
    · by_cases h6 : 48 ≤ f (zt_R 32 32 f e p).toNat ∧ f (zt_R 32 32 f e p).toNat ≤ 57
      · have a := zt_tmn (f := f) (e := e) (p := p) rfl (by omega) h6
        have d := zt_RS (e := e) (f := f) (by omega) h6
        have k := zt_Rge (lo := 48) (hi := 57) (f := f) (e := e) (p := zt_R 32 32 f e p + 1)
        omega
      · exact absurd (zt_tmb (f := f) (e := e) (p := p) rfl (by omega) h5 h6).1 h.2
/-- a part of an instruction, of its first token's code c and that token's end p: the field that it tells (5 at, 6 by, 8 a, 9 b, 10 step, 11 n, 1 .. 4 pops and pushes), 0 if it is none; and where it ends -/
def zt_pw (tk te tv : Int → Int) (c p : Int) : Int := if c = 10 then (if tk p = 100 ∧ tv p ≤ 4095 then 5 else 0) else if c = 11 then (if (tk p = 100 ∧ tv p ≤ 63) ∧ tk (te p) = 12 ∧ tk (te (te p)) = 100 ∧ tv (te (te p)) ≤ 31 then 6 else 0) else if c = 13 then (if tk p = 100 ∧ tv p ≤ 511 then 8 else 0) else if c = 14 then (if tk p = 100 ∧ tv p ≤ 511 then 9 else 0) else if c = 15 then (if tk p = 100 ∧ tv p ≤ 1023 then 10 else 0) else if c = 16 then (if tk p = 100 ∧ tv p ≤ 31 then 11 else 0) else if c = 17 then (if tk p = 19 then 1 else if tk p = 20 then 2 else 0) else if c = 18 then (if tk p = 19 then 3 else if tk p = 20 then 4 else 0) else 0
def zt_pe (te : Int → Int) (c p : Int) : Int := if c = 11 then te (te (te p)) else te p
/-- the parts from a token of code c, which ends at p, on, with those fields told that o says; k parts at most: 1 if they are right -/
def zt_pa (tk te tv : Int → Int) : Nat → Int → Int → (Int → Bool) → Int
  | 0, _, _, _ => 0
  | k + 1, c, p, o => if c = 0 then 1 else if zt_pw tk te tv c p = 0 ∨ o (zt_pw tk te tv c p) = true then 0 else zt_pa tk te tv k (tk (zt_pe te c p)) (te (zt_pe te c p)) (fun w => decide (w = zt_pw tk te tv c p) || o w)
theorem zt_pa1 (tk te tv : Int → Int) (k : Nat) (c p : Int) (o : Int → Bool) : zt_pa tk te tv (k + 1) c p o = if c = 0 then 1 else if zt_pw tk te tv c p = 0 ∨ o (zt_pw tk te tv c p) = true then 0 else zt_pa tk te tv k (tk (zt_pe te c p)) (te (zt_pe te c p)) (fun w => decide (w = zt_pw tk te tv c p) || o w) := rfl
theorem zt_pa01 (tk te tv : Int → Int) (k : Nat) : ∀ (c p : Int) (o : Int → Bool), zt_pa tk te tv k c p o = 0 ∨ zt_pa tk te tv k c p o = 1 := by
  induction k with
  | zero =>
    intro c p o
    exact Or.inl rfl
  | succ k ih =>
    intro c p o
    rw [zt_pa1]
    split
    · exact Or.inr rfl
    · split
      · exact Or.inl rfl
      · exact ih _ _ _
/-- a line: 0 empty, 1 an instruction, -1 none -/
def zt_li (tk te tv : Int → Int) (p : Int) : Int := if tk p = 0 then 0 else if 1 ≤ tk p ∧ tk p ≤ 9 then (if zt_pa tk te tv 1600 (tk (te p)) (te (te p)) (fun _ => false) = 1 then 1 else -1) else -1
/-- tokens that are the same from s up to c make the same line -/
theorem zt_pwe {tk te tv tk1 te1 tv1 : Int → Int} {s c : Int} (h : ∀ p, s ≤ p → p ≤ c → tk p = tk1 p ∧ te p = te1 p ∧ tv p = tv1 p ∧ p ≤ te1 p ∧ te1 p ≤ c) {d p : Int} (hp : s ≤ p ∧ p ≤ c) : zt_pw tk te tv d p = zt_pw tk1 te1 tv1 d p ∧ zt_pe te d p = zt_pe te1 d p ∧ s ≤ zt_pe te1 d p ∧ zt_pe te1 d p ≤ c := by
  have a := h p hp.1 hp.2
  have b := h (te1 p) (by omega) (by omega)
  have e := h (te1 (te1 p)) (by omega) (by omega)
  unfold zt_pw zt_pe
  rw [a.1, a.2.1, a.2.2.1, b.1, b.2.1, e.1, e.2.1, e.2.2.1]
  refine ⟨rfl, rfl, ?_, ?_⟩
  · split
    · omega
    · omega
  · split
    · omega
    · omega
theorem zt_pae {tk te tv tk1 te1 tv1 : Int → Int} {s c : Int} (h : ∀ p, s ≤ p → p ≤ c → tk p = tk1 p ∧ te p = te1 p ∧ tv p = tv1 p ∧ p ≤ te1 p ∧ te1 p ≤ c) (k : Nat) : ∀ (d p : Int) (o : Int → Bool), s ≤ p → p ≤ c → zt_pa tk te tv k d p o = zt_pa tk1 te1 tv1 k d p o := by
  induction k with
  | zero =>
    intro d p o _ _
    rfl
  | succ k ih =>
    intro d p o h1 h2
    have a := zt_pwe h (d := d) ⟨h1, h2⟩
    have b := h (zt_pe te1 d p) (by omega) (by omega)
    rw [zt_pa1, zt_pa1, a.1, a.2.1, b.1, b.2.1, ih _ _ _ (by omega) (by omega)]
theorem zt_lie {tk te tv tk1 te1 tv1 : Int → Int} {s c : Int} (h : ∀ p, s ≤ p → p ≤ c → tk p = tk1 p ∧ te p = te1 p ∧ tv p = tv1 p ∧ p ≤ te1 p ∧ te1 p ≤ c) {p : Int} (hp : s ≤ p ∧ p ≤ c) : zt_li tk te tv p = zt_li tk1 te1 tv1 p := by
  have a := h p hp.1 hp.2
  have b := h (te1 p) (by omega) (by omega)
  unfold zt_li
  rw [a.1, a.2.1, b.1, b.2.1, zt_pae h 1600 _ _ _ (by omega) (by omega)]
/-- a program's text: from the line that begins at p on (its number: q, with m instructions ahead of it) the first line that is at fault; -1 if none is; k lines at most -/
noncomputable def zt_as (f : Nat → Int) (n : Int) : Nat → Int → Int → Int → Int
  | 0, _, _, _ => -1
  | k + 1, p, q, m => if n < p then -1 else if zt_li (zt_tk f (zt_U 10 f n p)) (zt_te f (zt_U 10 f n p)) (zt_tv f (zt_U 10 f n p)) p < 0 ∨ (0 < zt_li (zt_tk f (zt_U 10 f n p)) (zt_te f (zt_U 10 f n p)) (zt_tv f (zt_U 10 f n p)) p ∧ m = 600) then q else zt_as f n k (zt_U 10 f n p + 1) (q + 1) (m + zt_li (zt_tk f (zt_U 10 f n p)) (zt_te f (zt_U 10 f n p)) (zt_tv f (zt_U 10 f n p)) p)
theorem zt_as1 (f : Nat → Int) (n : Int) (k : Nat) (p q m : Int) : zt_as f n (k + 1) p q m = if n < p then -1 else if zt_li (zt_tk f (zt_U 10 f n p)) (zt_te f (zt_U 10 f n p)) (zt_tv f (zt_U 10 f n p)) p < 0 ∨ (0 < zt_li (zt_tk f (zt_U 10 f n p)) (zt_te f (zt_U 10 f n p)) (zt_tv f (zt_U 10 f n p)) p ∧ m = 600) then q else zt_as f n k (zt_U 10 f n p + 1) (q + 1) (m + zt_li (zt_tk f (zt_U 10 f n p)) (zt_te f (zt_U 10 f n p)) (zt_tv f (zt_U 10 f n p)) p) := rfl
theorem zt_lib (tk te tv : Int → Int) (p : Int) : zt_li tk te tv p = 0 ∨ zt_li tk te tv p = 1 ∨ zt_li tk te tv p = -1 := by
  unfold zt_li
  split
  · exact Or.inl rfl
  · split
    · split
      · exact Or.inr (Or.inl rfl)
      · exact Or.inr (Or.inr rfl)
    · exact Or.inr (Or.inr rfl)
/-- enough lines: more make no difference -/
theorem zt_ask (f : Nat → Int) (n : Int) : ∀ (k m : Nat) (p q i : Int), 0 ≤ p → n + 1 - p < (k : Int) → k ≤ m → zt_as f n k p q i = zt_as f n m p q i := by
  intro k
  induction k with
  | zero =>
    intro m p q i h0 h1 h2
    cases m with
    | zero => rfl
    | succ m =>
      rw [zt_as1, if_pos (by omega)]
      rfl
  | succ k ih =>
    intro m p q i h0 h1 h2
    cases m with
    | zero => omega
    | succ m =>
      rw [zt_as1, zt_as1]
      by_cases h3 : n < p
      · rw [if_pos h3, if_pos h3]
      · rw [if_neg h3, if_neg h3]
        have hU := zt_Ub (c := 10) (f := f) (e := n) (p := p) (by omega)
        rw [ih m (zt_U 10 f n p + 1) (q + 1) _ (by omega) (by omega) (by omega)]
theorem zt_iwe {f g : Nat → Int} {q r : Int} {w : List Int} (h : ∀ i : Int, q ≤ i → i < r → f i.toNat = g i.toNat) (h1 : zt_iw f q r w) : zt_iw g q r w :=
  ⟨h1.1, zt_mse f g w q (fun i h2 h3 => h i h2 (by have h4 := h1.1; omega)) h1.2⟩
theorem zt_wle {f g : Nat → Int} {q r : Int} (h : ∀ i : Int, q ≤ i → i < r → f i.toNat = g i.toNat) (k : Nat) : zt_wl f q r k = zt_wl g q r k := by
  induction k with
  | zero => rfl
  | succ k ih =>
    by_cases h1 : zt_iw f q r (zt_nw.getD (k + 1) [])
    · rw [zt_wl1 h1, zt_wl1 (zt_iwe h h1)]
    · rw [zt_wl0 h1, zt_wl0 (fun h2 => h1 (zt_iwe (fun i h3 h4 => (h i h3 h4).symm) h2)), ih]
theorem zt_nve {f g : Nat → Int} {q : Int} (k : Nat) (h : ∀ i : Int, q ≤ i → i < q + (k : Int) → f i.toNat = g i.toNat) : zt_nv f q k = zt_nv g q k := by
  induction k with
  | zero => rfl
  | succ k ih =>
    show 10 * zt_nv f q k + f (q + (k : Int)).toNat - 48 = 10 * zt_nv g q k + g (q + (k : Int)).toNat - 48
    rw [ih (fun i h1 h2 => h i h1 (by omega)), h (q + (k : Int)) (by omega) (by omega)]
theorem zt_tke {f g : Nat → Int} {e p : Int} (hp : p ≤ e) (h : ∀ i : Int, p ≤ i → i < e → f i.toNat = g i.toNat) : zt_tk f e p = zt_tk g e p ∧ zt_te f e p = zt_te g e p ∧ zt_tv f e p = zt_tv g e p ∧ p ≤ zt_te g e p ∧ zt_te g e p ≤ e := by
  have hq : zt_R 32 32 f e p = zt_R 32 32 g e p := zt_Re h
  have hb := zt_Rb (lo := 32) (hi := 32) (f := g) hp
  have hR : ∀ lo hi : Int, zt_R lo hi f e (zt_R 32 32 g e p) = zt_R lo hi g e (zt_R 32 32 g e p) := fun lo hi => zt_Re (fun i h1 h2 => h i (by omega) h2)
  have hv : zt_tv f e p = zt_tv g e p := by
    unfold zt_tv
    rw [hq, hR 48 57]
    have hd := zt_Rb (lo := 48) (hi := 57) (f := g) hb.2
    exact zt_nve _ (fun i h1 h2 => h i (by omega) (by omega))
  by_cases h3 : e ≤ zt_R 32 32 g e p
  · have a := zt_tk0 (f := f) (e := e) (p := p) hq.symm (Or.inl h3)
    have b := zt_tk0 (f := g) (e := e) (p := p) rfl (Or.inl h3)
    exact ⟨a.1.trans b.1.symm, a.2.trans b.2.symm, hv, by omega, by omega⟩
  · have hf : f (zt_R 32 32 g e p).toNat = g (zt_R 32 32 g e p).toNat := h _ (by omega) (by omega)
    by_cases h4 : g (zt_R 32 32 g e p).toNat = 35
    · have a := zt_tk0 (f := f) (e := e) (p := p) hq.symm (Or.inr (by rw [hf]; exact h4))
      have b := zt_tk0 (f := g) (e := e) (p := p) rfl (Or.inr h4)
      exact ⟨a.1.trans b.1.symm, a.2.trans b.2.symm, hv, by omega, by omega⟩
    · by_cases h5 : 97 ≤ g (zt_R 32 32 g e p).toNat ∧ g (zt_R 32 32 g e p).toNat ≤ 122
      · have a := zt_tkw (f := f) (e := e) (p := p) hq.symm (by omega) (by rw [hf]; exact h5)
        have b := zt_tkw (f := g) (e := e) (p := p) rfl (by omega) h5
        have d := zt_Rb (lo := 97) (hi := 122) (f := g) hb.2
        rw [hR 97 122] at a
        refine ⟨?_, a.2.trans b.2.symm, hv, by omega, by omega⟩
        rw [a.1, b.1]
        exact zt_wle (fun i h1 h2 => h i (by omega) (by omega)) 20
      · by_cases h6 : 48 ≤ g (zt_R 32 32 g e p).toNat ∧ g (zt_R 32 32 g e p).toNat ≤ 57
        · have a := zt_tkn (f := f) (e := e) (p := p) hq.symm (by omega) (by rw [hf]; exact h6)
          have b := zt_tkn (f := g) (e := e) (p := p) rfl (by omega) h6
          have d := zt_Rb (lo := 48) (hi := 57) (f := g) hb.2
          rw [hR 48 57] at a
          exact ⟨a.1.trans b.1.symm, a.2.trans b.2.symm, hv, by omega, by omega⟩
        · have a := zt_tkb (f := f) (e := e) (p := p) hq.symm (by rw [hf]; exact ⟨by omega, h4⟩) (by rw [hf]; exact h5) (by rw [hf]; exact h6)
          have b := zt_tkb (f := g) (e := e) (p := p) rfl ⟨by omega, h4⟩ h5 h6
          exact ⟨a.1.trans b.1.symm, a.2.trans b.2.symm, hv, by omega, by omega⟩
/-- only the text's own signs count -/
theorem zt_ase {f g : Nat → Int} {n : Int} (h : ∀ i : Int, 0 ≤ i → i < n → f i.toNat = g i.toNat) (k : Nat) : ∀ p q m : Int, 0 ≤ p → zt_as f n k p q m = zt_as g n k p q m := by
  induction k with
  | zero =>
    intro p q m _
    rfl
  | succ k ih =>
    intro p q m h0
    rw [zt_as1, zt_as1]
    by_cases h3 : n < p
    · rw [if_pos h3, if_pos h3]
    · rw [if_neg h3, if_neg h3]
      have hU : zt_U 10 f n p = zt_U 10 g n p := zt_Ue (fun i h1 h2 => h i (by omega) h2)
      have hb := zt_Ub (c := 10) (f := g) (e := n) (p := p) (by omega)
      have hl : zt_li (zt_tk f (zt_U 10 g n p)) (zt_te f (zt_U 10 g n p)) (zt_tv f (zt_U 10 g n p)) p = zt_li (zt_tk g (zt_U 10 g n p)) (zt_te g (zt_U 10 g n p)) (zt_tv g (zt_U 10 g n p)) p :=
        zt_lie (s := p) (c := zt_U 10 g n p) (fun i h1 h2 => zt_tke h2 (fun j h4 h5 => h j (by omega) (by omega))) ⟨Int.le_refl _, hb.1.1⟩
      rw [hU, hl, ih _ _ _ (by omega)]
/-- a word's code: five bits a letter, the first one lowest -/
def zt_cd : List Int → Int
  | [] => 0
  | c :: cs => (c - 96) + 32 * zt_cd cs
theorem zt_nwl : ∀ w : Nat, w < 21 → ∀ c ∈ zt_nw.getD w [], 97 ≤ c ∧ c ≤ 122 := by decide +kernel
theorem zt_cd0 : ∀ l : List Int, (∀ c ∈ l, 97 ≤ c ∧ c ≤ 122) → 0 ≤ zt_cd l ∧ (zt_cd l ≤ 0 → l = []) := by
  intro l
  induction l with
  | nil =>
    intro _
    exact ⟨Int.le_refl _, fun _ => rfl⟩
  | cons c cs ih =>
    intro h
    have h1 := h c (List.mem_cons_self ..)
    have h2 := ih (fun d hd => h d (List.mem_cons_of_mem _ hd))
    have h3 : zt_cd (c :: cs) = (c - 96) + 32 * zt_cd cs := rfl
    rw [h3]
    exact ⟨by omega, fun h4 => by omega⟩
theorem zt_msa (f : Nat → Int) : ∀ (a b : List Int) (q : Int), zt_ms f q (a ++ b) ↔ zt_ms f q a ∧ zt_ms f (q + ((a.length : Nat) : Int)) b := by
  intro a
  induction a with
  | nil =>
    intro b q
    show zt_ms f q b ↔ True ∧ zt_ms f (q + ((0 : Nat) : Int)) b
    rw [show q + ((0 : Nat) : Int) = q by omega]
    exact ⟨fun h => ⟨trivial, h⟩, fun h => h.2⟩
  | cons c cs ih =>
    intro b q
    have e : q + ((List.length (c :: cs) : Nat) : Int) = q + 1 + ((cs.length : Nat) : Int) := by
      rw [List.length_cons]
      omega
    rw [e]
    show (f q.toNat = c ∧ zt_ms f (q + 1) (cs ++ b)) ↔ (f q.toNat = c ∧ zt_ms f (q + 1) cs) ∧ _
    rw [ih b (q + 1)]
    exact ⟨fun h => ⟨⟨h.1, h.2.1⟩, h.2.2⟩, fun h => ⟨h.1.1, h.1.2, h.2⟩⟩
/-- the walk along a word: k signs are as they should be, l is the code of the rest -/
def zt_wv (f : Nat → Int) (q : Int) (w : List Int) (p l : Int) : Prop := ∃ a b : List Int, w = a ++ b ∧ p = q + ((a.length : Nat) : Int) ∧ l = zt_cd b ∧ zt_ms f q a
theorem zt_wv0 {f : Nat → Int} {q l : Int} {w : List Int} (h : l = zt_cd w) : zt_wv f q w q l := ⟨[], w, rfl, by show q = q + ((0 : Nat) : Int); omega, h, trivial⟩
theorem zt_wvS {f : Nat → Int} {q p l m v : Int} {w : List Int} (hw : ∀ c ∈ w, 97 ≤ c ∧ c ≤ 122) (h : zt_wv f q w p l) (hl : 0 < l) (hv : v = l % 32) (hf : f p.toNat = 96 + v) (hm : m = l / 32) : zt_wv f q w (p + 1) m := by
  obtain ⟨a, b, h1, h2, h3, h4⟩ := h
  cases b with
  | nil =>
    have h5 : l = 0 := h3
    omega
  | cons c cs =>
    have h5 : l = (c - 96) + 32 * zt_cd cs := h3
    have h6 := hw c (by rw [h1]; exact List.mem_append_right _ (List.mem_cons_self ..))
    refine ⟨a ++ [c], cs, ?_, ?_, by omega, (zt_msa f a [c] q).mpr ⟨h4, ?_, trivial⟩⟩
    · rw [h1, List.append_assoc]
      rfl
    · rw [List.length_append]
      show p + 1 = q + (((a.length + 1) : Nat) : Int)
      omega
    · rw [← h2, hf]
      omega
theorem zt_wvY {f : Nat → Int} {q p l r : Int} {w : List Int} (hw : ∀ c ∈ w, 97 ≤ c ∧ c ≤ 122) (h : zt_wv f q w p l) (hp : p = r) (hl : l = 0) : zt_iw f q r w := by
  obtain ⟨a, b, h1, h2, h3, h4⟩ := h
  have h5 : b = [] := (zt_cd0 b (fun c hc => hw c (by rw [h1]; exact List.mem_append_right _ hc))).2 (by omega)
  rw [h5, List.append_nil] at h1
  rw [h1]
  exact ⟨by omega, h4⟩
theorem zt_wvN {f : Nat → Int} {q p l r : Int} {w : List Int} (hw : ∀ c ∈ w, 97 ≤ c ∧ c ≤ 122) (h : zt_wv f q w p l) (hn : ¬ (p = r ∧ l = 0)) (he : r ≤ p ∨ l ≤ 0 ∨ f p.toNat ≠ 96 + l % 32) : ¬ zt_iw f q r w := by
  intro hi
  obtain ⟨a, b, h1, h2, h3, h4⟩ := h
  have hb : ∀ c ∈ b, 97 ≤ c ∧ c ≤ 122 := fun c hc => hw c (by rw [h1]; exact List.mem_append_right _ hc)
  have h0 := zt_cd0 b hb
  have hi1 := hi.1
  have hi2 := hi.2
  rw [h1] at hi2
  have h6 := ((zt_msa f a b q).mp hi2).2
  rw [h1, List.length_append] at hi1
  cases b with
  | nil =>
    have h7 : l = 0 := h3
    have h8 : ((a.length + (List.length ([] : List Int)) : Nat) : Int) = ((a.length : Nat) : Int) := by
      show ((a.length + 0 : Nat) : Int) = _
      omega
    rw [h8] at hi1
    exact hn ⟨by omega, h7⟩
  | cons c cs =>
    have h5 : l = (c - 96) + 32 * zt_cd cs := h3
    have h7 := hb c (List.mem_cons_self ..)
    have h8 := zt_cd0 cs (fun d hd => hb d (List.mem_cons_of_mem _ hd))
    rw [List.length_cons] at hi1
    have h9 := h6.1
    rw [← h2] at h9
    omega
theorem zt_and31 {x v : Int} (hx : 0 ≤ x ∧ x ≤ 1099511627775) (e : v = (Int64.ofInt x &&& Int64.ofInt 31).toInt) : v = x % 32 := by
  have h1 : (Int64.ofInt x).toBitVec.toInt = x := zz_t64 (by omega)
  have hm : (Int64.ofInt x).toBitVec.msb = false := by
    rw [BitVec.msb_eq_toInt, h1]
    exact decide_eq_false (by omega)
  have hn : ((Int64.ofInt x).toBitVec.toNat : Int) = x := by rw [← BitVec.toInt_eq_toNat_of_msb hm, h1]
  have hm2 : ((Int64.ofInt x).toBitVec &&& (Int64.ofInt 31).toBitVec).msb = false := by rw [BitVec.msb_and, hm]; rfl
  have h2 : (Int64.ofInt x &&& Int64.ofInt 31).toInt = ((Int64.ofInt x).toBitVec &&& (Int64.ofInt 31).toBitVec).toInt := by rw [← Int64.toInt_toBitVec, Int64.toBitVec_and]
  have h3 : (Int64.ofInt 31).toBitVec.toNat = 2 ^ 5 - 1 := by decide
  rw [e, h2, BitVec.toInt_eq_toNat_of_msb hm2, BitVec.toNat_and, h3, Nat.and_two_pow_sub_one_eq_mod]
  omega
/-- what the first four of d digits from q on are worth -/
def zt_n4 (f : Nat → Int) (q d : Int) : Int := zt_nv f q (if d ≤ 4 then d.toNat else 4)
theorem zt_n40 (f : Nat → Int) (q : Int) : zt_n4 f q (q - q) = 0 := by
  unfold zt_n4
  rw [Int.sub_self, if_pos (by decide)]
  rfl
theorem zt_n4S {f : Nat → Int} {q d e p x y : Int} (hd : e = d + 1 ∧ 0 ≤ d) (hp : p = q + d) (h1 : d < 4 → y = 10 * x + f p.toNat - 48) (h2 : 4 ≤ d → y = x) (h : x = zt_n4 f q d) : y = zt_n4 f q e := by
  unfold zt_n4 at h ⊢
  rcases (by omega : d < 4 ∨ 4 ≤ d) with h3 | h3
  · rw [if_pos (by omega)] at h
    rw [if_pos (by omega), h1 h3, h]
    have h4 : e.toNat = d.toNat + 1 := by omega
    rw [h4]
    show _ = 10 * zt_nv f q d.toNat + f (q + (d.toNat : Int)).toNat - 48
    rw [show q + (d.toNat : Int) = p by omega]
  · rw [if_neg (by omega), h2 h3, h]
    rcases (by omega : d = 4 ∨ 4 < d) with h4 | h4
    · rw [if_pos (by omega), h4]
      rfl
    · rw [if_neg (by omega)]
theorem zt_n4v {f : Nat → Int} {q d : Int} (h : d ≤ 4) : zt_n4 f q d = zt_nv f q d.toNat := by
  unfold zt_n4
  rw [if_pos h]
theorem zt_tvx {f : Nat → Int} {e p q x : Int} (hq : q = zt_R 32 32 f e p) (hx : x = zt_R 48 57 f e q) : zt_tv f e p = zt_nv f q (x - q).toNat := by
  unfold zt_tv
  rw [← hq, ← hx]
theorem zt_pwA {tk te tv : Int → Int} {c p K V m w : Int} (hK : K = tk p) (hV : K = 100 → V = tv p) (h : (c = 10 ∧ m = 4095 ∧ w = 5) ∨ (c = 13 ∧ m = 511 ∧ w = 8) ∨ (c = 14 ∧ m = 511 ∧ w = 9) ∨ (c = 15 ∧ m = 1023 ∧ w = 10) ∨ (c = 16 ∧ m = 31 ∧ w = 11)) : zt_pw tk te tv c p = (if K = 100 ∧ V ≤ m then w else 0) ∧ zt_pe te c p = te p := by
  have key : ∀ m' w' : Int, m' = m → w' = w → (if tk p = 100 ∧ tv p ≤ m' then w' else 0) = (if K = 100 ∧ V ≤ m then w else 0) := by
    intro m' w' h1 h2
    rw [h1, h2, ← hK]
    by_cases h3 : K = 100
    · rw [hV h3]
    · rw [if_neg (fun h4 => h3 h4.1), if_neg (fun h4 => h3 h4.1)]
  refine ⟨?_, ?_⟩
  · rcases h with h | h | h | h | h
    · unfold zt_pw
      rw [if_pos h.1]
      exact key _ _ h.2.1.symm h.2.2.symm
    · unfold zt_pw
      rw [if_neg (by omega), if_neg (by omega), if_pos h.1]
      exact key _ _ h.2.1.symm h.2.2.symm
    · unfold zt_pw
      rw [if_neg (by omega), if_neg (by omega), if_neg (by omega), if_pos h.1]
      exact key _ _ h.2.1.symm h.2.2.symm
    · unfold zt_pw
      rw [if_neg (by omega), if_neg (by omega), if_neg (by omega), if_neg (by omega), if_pos h.1]
      exact key _ _ h.2.1.symm h.2.2.symm
    · unfold zt_pw
      rw [if_neg (by omega), if_neg (by omega), if_neg (by omega), if_neg (by omega), if_neg (by omega), if_pos h.1]
      exact key _ _ h.2.1.symm h.2.2.symm
  · unfold zt_pe
    rw [if_neg (by omega)]
theorem zt_pwF {tk te tv : Int → Int} {c p K : Int} (hK : K = tk p) (h : c = 17 ∨ c = 18) : zt_pw tk te tv c p = (if K = 19 then (if c = 17 then 1 else 3) else if K = 20 then (if c = 17 then 2 else 4) else 0) ∧ zt_pe te c p = te p := by
  rcases h with rfl | rfl
  · unfold zt_pw zt_pe
    rw [hK]
    exact ⟨rfl, rfl⟩
  · unfold zt_pw zt_pe
    rw [hK]
    exact ⟨rfl, rfl⟩
theorem zt_pwB {tk te tv : Int → Int} {c p : Int} (h : c = 11) : zt_pw tk te tv c p = (if (tk p = 100 ∧ tv p ≤ 63) ∧ tk (te p) = 12 ∧ tk (te (te p)) = 100 ∧ tv (te (te p)) ≤ 31 then 6 else 0) ∧ zt_pe te c p = te (te (te p)) := by
  subst h
  exact ⟨rfl, rfl⟩
theorem zt_pwN {tk te tv : Int → Int} {c p : Int} (h : c < 10 ∨ c = 12 ∨ 18 < c) : zt_pw tk te tv c p = 0 := by
  unfold zt_pw
  rw [if_neg (by omega), if_neg (by omega), if_neg (by omega), if_neg (by omega), if_neg (by omega), if_neg (by omega), if_neg (by omega), if_neg (by omega)]
/-- the reference's bit of a field -/
def zt_bit (w : Int) : Int := if w = 5 then 1 else if w = 6 then 2 else if w = 8 then 256 else if w = 9 then 512 else if w = 10 then 1024 else if w = 11 then 2048 else if w = 1 then 8192 else if w = 2 then 16384 else if w = 3 then 32768 else if w = 4 then 65536 else 0
theorem zt_pwr (tk te tv : Int → Int) (c p : Int) : zt_pw tk te tv c p = 0 ∨ zt_pw tk te tv c p = 5 ∨ zt_pw tk te tv c p = 6 ∨ zt_pw tk te tv c p = 8 ∨ zt_pw tk te tv c p = 9 ∨ zt_pw tk te tv c p = 10 ∨ zt_pw tk te tv c p = 11 ∨ zt_pw tk te tv c p = 1 ∨ zt_pw tk te tv c p = 2 ∨ zt_pw tk te tv c p = 3 ∨ zt_pw tk te tv c p = 4 := by
  unfold zt_pw
  repeat' split
  all_goals omega
/-- bit j of an int -/
def zt_bt (s : Int) (j : Nat) : Bool := (Int32.ofInt s).toBitVec.getLsbD j
def zt_bj (w : Int) : Nat := if w = 5 then 0 else if w = 6 then 1 else if w = 8 then 8 else if w = 9 then 9 else if w = 10 then 10 else if w = 11 then 11 else if w = 1 then 13 else if w = 2 then 14 else if w = 3 then 15 else 16
theorem zt_bt0 (j : Nat) : zt_bt 0 j = false := by
  unfold zt_bt
  have h : (Int32.ofInt 0).toBitVec = 0#32 := by decide
  rw [h, BitVec.getLsbD_zero]
theorem zt_bitb {w : Int} (h : w = 5 ∨ w = 6 ∨ w = 8 ∨ w = 9 ∨ w = 10 ∨ w = 11 ∨ w = 1 ∨ w = 2 ∨ w = 3 ∨ w = 4) : (Int32.ofInt (zt_bit w)).toBitVec = BitVec.twoPow 32 (zt_bj w) ∧ zt_bj w < 32 ∧ zt_bit w ≠ 0 := by
  rcases h with rfl | rfl | rfl | rfl | rfl | rfl | rfl | rfl | rfl | rfl <;> decide
theorem zt_bji {v w : Int} (hv : v = 5 ∨ v = 6 ∨ v = 8 ∨ v = 9 ∨ v = 10 ∨ v = 11 ∨ v = 1 ∨ v = 2 ∨ v = 3 ∨ v = 4) (hw : w = 5 ∨ w = 6 ∨ w = 8 ∨ w = 9 ∨ w = 10 ∨ w = 11 ∨ w = 1 ∨ w = 2 ∨ w = 3 ∨ w = 4) (h : zt_bj v = zt_bj w) : v = w := by
  rcases hv with rfl | rfl | rfl | rfl | rfl | rfl | rfl | rfl | rfl | rfl <;> rcases hw with rfl | rfl | rfl | rfl | rfl | rfl | rfl | rfl | rfl | rfl <;> first | rfl | exact absurd h (by decide)
theorem zt_and0 {s v : Int} {b : Int32} {j : Nat} (hb : b.toBitVec = BitVec.twoPow 32 j) (hj : j < 32) (e : v = (Int32.ofInt s &&& b).toInt) : v ≠ 0 ↔ zt_bt s j = true := by
  have h1 : (Int32.ofInt s &&& b).toBitVec = if zt_bt s j then BitVec.twoPow 32 j else 0#32 := by
    rw [Int32.toBitVec_and, hb]
    exact BitVec.and_twoPow _ _
  have h2 : v = ((Int32.ofInt s &&& b).toBitVec).toInt := e
  rw [h2, h1]
  cases zt_bt s j with
  | true =>
    refine ⟨fun _ => rfl, fun _ h3 => ?_⟩
    have h4 : BitVec.twoPow 32 j = 0#32 := BitVec.eq_of_toInt_eq (by simpa using h3)
    have h5 : (BitVec.twoPow 32 j).getLsbD j = false := by rw [h4, BitVec.getLsbD_zero]
    rw [BitVec.getLsbD_twoPow] at h5
    simp [hj] at h5
  | false => exact ⟨fun h3 => absurd (by simp) h3, fun h3 => absurd h3 (by decide)⟩
theorem zt_or0 {s v : Int} {b : Int32} {j i : Nat} (hb : b.toBitVec = BitVec.twoPow 32 j) (hj : j < 32) (e : v = (Int32.ofInt s ||| b).toInt) : zt_bt v i = (decide (i = j) || zt_bt s i) := by
  unfold zt_bt
  rw [e, Int32.ofInt_toInt, Int32.toBitVec_or, hb, BitVec.getLsbD_or, BitVec.getLsbD_twoPow, Bool.or_comm]
  congr 1
  by_cases h : i = j
  · subst h
    simp [hj]
  · have h1 : ¬ j = i := fun h2 => h h2.symm
    simp [h, h1]
/-- the reference's walk over a line's parts: res is what comes of the rest -/
def zt_IM (tk te tv : Int → Int) (seen c p res : Int) : Prop := ∃ (k : Nat) (o : Int → Bool), zt_pa tk te tv k c p o = res ∧ 1502 ≤ (k : Int) + p ∧ ∀ w : Int, (w = 5 ∨ w = 6 ∨ w = 8 ∨ w = 9 ∨ w = 10 ∨ w = 11 ∨ w = 1 ∨ w = 2 ∨ w = 3 ∨ w = 4) → zt_bt seen (zt_bj w) = o w
theorem zt_IM0 {tk te tv : Int → Int} {c p : Int} (hp : 0 ≤ p) : zt_IM tk te tv 0 c p (zt_pa tk te tv 1600 c p (fun _ => false)) := ⟨1600, fun _ => false, rfl, by omega, fun w _ => zt_bt0 _⟩
theorem zt_IME {tk te tv : Int → Int} {seen c p res : Int} (h : zt_IM tk te tv seen c p res) (hp : p ≤ 1500) (hc : c = 0) : res = 1 := by
  obtain ⟨k, o, h1, h2, _⟩ := h
  have h3 : k = (k - 1) + 1 := by omega
  rw [h3, zt_pa1, if_pos hc] at h1
  exact h1.symm
theorem zt_IMN {tk te tv : Int → Int} {seen c p res b v : Int} (h : zt_IM tk te tv seen c p res) (hp : p ≤ 1500) (hc : c ≠ 0) (hb : b = zt_bit (zt_pw tk te tv c p)) (hv : b = 0 ∨ (v = (Int32.ofInt seen &&& Int32.ofInt b).toInt ∧ v ≠ 0)) : res = 0 := by
  obtain ⟨k, o, h1, h2, h4⟩ := h
  have h3 : k = (k - 1) + 1 := by omega
  have hr := zt_pwr tk te tv c p
  rw [h3, zt_pa1, if_neg hc, if_pos] at h1
  · exact h1.symm
  · by_cases h5 : zt_pw tk te tv c p = 0
    · exact Or.inl h5
    · right
      have h6 := zt_bitb (w := zt_pw tk te tv c p) (by omega)
      rcases hv with h7 | h7
      · exact absurd (hb.symm.trans h7) h6.2.2
      · rw [hb] at h7
        rw [← h4 _ (by omega)]
        exact (zt_and0 h6.1 h6.2.1 h7.1).mp h7.2
theorem zt_IMS {tk te tv : Int → Int} {seen c p res b v u d q : Int} (h : zt_IM tk te tv seen c p res) (hp : p ≤ 1500) (hc : c ≠ 0) (hb : b = zt_bit (zt_pw tk te tv c p)) (hb0 : b ≠ 0) (hv : v = (Int32.ofInt seen &&& Int32.ofInt b).toInt) (hv0 : v = 0) (hu : u = (Int32.ofInt seen ||| Int32.ofInt b).toInt) (hd : d = tk (zt_pe te c p)) (hq : q = te (zt_pe te c p)) (hpq : p < q) : zt_IM tk te tv u d q res := by
  obtain ⟨k, o, h1, h2, h4⟩ := h
  have h3 : k = (k - 1) + 1 := by omega
  have hr := zt_pwr tk te tv c p
  have h5 : zt_pw tk te tv c p ≠ 0 := by
    intro h6
    rw [h6] at hb
    exact hb0 hb
  have h6 := zt_bitb (w := zt_pw tk te tv c p) (by omega)
  have h7 : o (zt_pw tk te tv c p) = false := by
    rw [← h4 _ (by omega)]
    cases h8 : zt_bt seen (zt_bj (zt_pw tk te tv c p)) with
    | false => rfl
    | true =>
      rw [hb] at hv
      exact absurd hv0 ((zt_and0 h6.1 h6.2.1 hv).mpr h8)
  rw [h3, zt_pa1, if_neg hc, if_neg (by rw [h7]; intro h8; rcases h8 with h9 | h9; exact h5 h9; cases h9), ← hd, ← hq] at h1
  refine ⟨k - 1, _, h1, by omega, fun w hw => ?_⟩
  rw [hb] at hu
  rw [zt_or0 h6.1 h6.2.1 hu, h4 w hw]
  congr 1
  by_cases h8 : w = zt_pw tk te tv c p
  · rw [h8]
    simp
  · have h9 : ¬ zt_bj w = zt_bj (zt_pw tk te tv c p) := fun h10 => h8 (zt_bji hw (by omega) h10)
    simp [h8, h9]

/-! Tokens as the class has them: sorts, words as strings, bits of what was told. By hand. -/
/-- a token's code, of its sort and its word's number -/
def zt_co (s w : Int) : Int := if s = 0 then 0 else if s = 1 then w else if s = 2 then 100 else 101
theorem zt_cox {s w : Int} : (s = 0 → zt_co s w = 0) ∧ (s = 1 → zt_co s w = w) ∧ (s = 2 → zt_co s w = 100) ∧ (s ≠ 0 → s ≠ 1 → s ≠ 2 → zt_co s w = 101) := by
  unfold zt_co
  refine ⟨fun h => ?_, fun h => ?_, fun h => ?_, fun h1 h2 h3 => ?_⟩
  · rw [if_pos h]
  · rw [if_neg (by omega), if_pos h]
  · rw [if_neg (by omega), if_neg (by omega), if_pos h]
  · rw [if_neg h1, if_neg h2, if_neg h3]
/-- a string's signs -/
def zt_tw (t : Nat) : List Int := (mm_byt.getD t []).map (fun b => b.toInt)
def zt_by (t i : Nat) : Int := (zt_tw t).getD i 0
/-- its number among the words of programs, 0 if it is none -/
def zt_W (t : Nat) : Int := ([1, 2, 3, 4, 5, 6, 7, 8, 9, 0, 10, 11, 12, 13, 14, 15, 16, 17, 19, 20, 18] : List Int).getD t 0
theorem zt_Ww : ∀ t : Nat, t < 59 → zt_W t ≠ 0 → zt_tw t = zt_nw.getD (zt_W t).toNat [] ∧ 1 ≤ zt_W t ∧ zt_W t ≤ 20 := by decide +kernel
theorem zt_twl : ∀ t : Nat, t < 59 → (zt_tw t).length = mm_len.getD t 0 := by decide +kernel
theorem zt_twr : ∀ t : Nat, t < 59 → ∀ c ∈ zt_tw t, 0 ≤ c ∧ c ≤ 127 := by decide +kernel
theorem zt_gdm (l : List Int32) : ∀ i : Nat, (l.getD i 0).toInt = (l.map (fun b => b.toInt)).getD i 0 := by
  induction l with
  | nil =>
    intro i
    rfl
  | cons c cs ih =>
    intro i
    cases i with
    | zero => rfl
    | succ i => exact ih i
theorem zt_gdr : ∀ (l : List Int), (∀ c ∈ l, 0 ≤ c ∧ c ≤ 127) → ∀ i : Nat, 0 ≤ l.getD i 0 ∧ l.getD i 0 ≤ 127 := by
  intro l
  induction l with
  | nil =>
    intro _ i
    exact ⟨Int.le_refl _, by show (0 : Int) ≤ 127; decide⟩
  | cons c cs ih =>
    intro h i
    cases i with
    | zero => exact h c (List.mem_cons_self ..)
    | succ i => exact ih (fun d hd => h d (List.mem_cons_of_mem _ hd)) i
theorem zt_byr {t i : Nat} (h : t < 59) : 0 ≤ zt_by t i ∧ zt_by t i ≤ 127 := zt_gdr _ (zt_twr t h) i
theorem zt_255 : ∀ k : Nat, k < 128 → (Int32.ofInt (k : Int) &&& Int32.ofInt 255).toInt = (k : Int) := by decide +kernel
theorem zt_and255 {x v : Int} (hx : 0 ≤ x ∧ x ≤ 127) (e : v = (Int32.ofInt x &&& Int32.ofInt 255).toInt) : v = x := by
  obtain ⟨k, rfl⟩ : ∃ k : Nat, x = (k : Int) := ⟨x.toNat, by omega⟩
  rw [e, zt_255 k (by omega)]
/-- the walk along a word: its first k signs are as they should be -/
def zt_wm (f : Nat → Int) (q : Int) (w : List Int) (k : Int) : Prop := ∃ a b : List Int, w = a ++ b ∧ k = ((a.length : Nat) : Int) ∧ zt_ms f q a
theorem zt_wm0 {f : Nat → Int} {q : Int} {w : List Int} : zt_wm f q w 0 := ⟨[], w, rfl, rfl, trivial⟩
theorem zt_gda (a : List Int) (c : Int) (cs : List Int) : (a ++ c :: cs).getD a.length 0 = c := by
  induction a with
  | nil => rfl
  | cons d ds ih => exact ih
theorem zt_wmS {f : Nat → Int} {q k p y : Int} {w : List Int} (h : zt_wm f q w k) (hk : k < ((w.length : Nat) : Int)) (hp : p = q + k) (hc : f p.toNat = w.getD k.toNat 0) (hy : y = k + 1) : zt_wm f q w y := by
  obtain ⟨a, b, h1, h2, h3⟩ := h
  cases b with
  | nil =>
    rw [h1, List.append_nil] at hk
    omega
  | cons c cs =>
    have h4 : k.toNat = a.length := by omega
    rw [h1, h4, zt_gda] at hc
    refine ⟨a ++ [c], cs, ?_, ?_, (zt_msa f a [c] q).mpr ⟨h3, ?_, trivial⟩⟩
    · rw [h1, List.append_assoc]
      rfl
    · rw [List.length_append]
      show y = (((a.length + 1) : Nat) : Int)
      omega
    · rw [← h2, ← hp]
      exact hc
theorem zt_wmY {f : Nat → Int} {q k : Int} {w : List Int} (h : zt_wm f q w k) (hk : ((w.length : Nat) : Int) ≤ k) : zt_ms f q w := by
  obtain ⟨a, b, h1, h2, h3⟩ := h
  cases b with
  | nil =>
    rw [h1, List.append_nil]
    exact h3
  | cons c cs =>
    rw [h1, List.length_append, List.length_cons] at hk
    omega
theorem zt_wmN {f : Nat → Int} {q k p : Int} {w : List Int} (h : zt_wm f q w k) (hk : k < ((w.length : Nat) : Int)) (hp : p = q + k) (hc : f p.toNat ≠ w.getD k.toNat 0) : ¬ zt_ms f q w := by
  intro hm
  obtain ⟨a, b, h1, h2, h3⟩ := h
  cases b with
  | nil =>
    rw [h1, List.append_nil] at hk
    omega
  | cons c cs =>
    have h4 : k.toNat = a.length := by omega
    rw [h1, h4, zt_gda] at hc
    rw [h1] at hm
    have h5 := ((zt_msa f a (c :: cs) q).mp hm).2.1
    rw [← h2, ← hp] at h5
    exact hc h5
/-- what isWord says -/
def zt_IS (r s : Int) (f : Nat → Int) (q p : Int) (t : Nat) : Prop := (r = 1 ∧ s = 1 ∧ zt_iw f q p (zt_tw t)) ∨ (r = 0 ∧ (s ≠ 1 ∨ ¬ zt_iw f q p (zt_tw t)))
theorem zt_ISW {r s q p w : Int} {f : Nat → Int} {t : Nat} (ht : t < 59) (hw : zt_W t = w) (h0 : w ≠ 0) (h : zt_IS r s f q p t) : (r = 1 ∧ zt_co s (zt_wl f q p 20) = w ∧ s = 1) ∨ (r = 0 ∧ zt_co s (zt_wl f q p 20) ≠ w) := by
  have a := zt_Ww t ht (by rw [hw]; exact h0)
  rw [hw] at a
  have b : zt_iw f q p (zt_tw t) ↔ zt_wl f q p 20 = w := by
    rw [a.1, zt_wlx (by omega)]
    constructor
    · intro h1
      omega
    · intro h1
      omega
  have c := zt_cox (s := s) (w := zt_wl f q p 20)
  rcases h with ⟨h1, h2, h3⟩ | ⟨h1, h2⟩
  · exact Or.inl ⟨h1, by rw [c.2.1 h2]; exact b.mp h3, h2⟩
  · refine Or.inr ⟨h1, fun h3 => ?_⟩
    by_cases h4 : s = 1
    · rw [c.2.1 h4] at h3
      exact h2.elim (fun h5 => h5 h4) (fun h5 => h5 (b.mpr h3))
    · rcases (by omega : s = 0 ∨ s = 2 ∨ (s ≠ 0 ∧ s ≠ 2)) with h5 | h5 | h5
      · have d := c.1 h5
        omega
      · have d := c.2.2.1 h5
        omega
      · have d := c.2.2.2 h5.1 h4 h5.2
        omega
def zt_nq (a b : Int) : Prop := a ≠ b
theorem zt_ISN {s q p w : Int} {f : Nat → Int} {t : Nat} (ht : t < 59) (hw : zt_W t = w) (h0 : w ≠ 0) (h : zt_IS 0 s f q p t) : zt_nq (zt_co s (zt_wl f q p 20)) w := by
  rcases zt_ISW ht hw h0 h with h1 | h1
  · exact absurd h1.1 (by decide)
  · exact h1.2
theorem zt_ISY {s q p w : Int} {f : Nat → Int} {t : Nat} (ht : t < 59) (hw : zt_W t = w) (h0 : w ≠ 0) (h : zt_IS 1 s f q p t) : zt_co s (zt_wl f q p 20) = w ∧ s = 1 := by
  rcases zt_ISW ht hw h0 h with h1 | h1
  · exact h1.2
  · exact absurd h1.1 (by decide)
theorem zt_c100 {s q p : Int} {f : Nat → Int} (hs : 0 ≤ s ∧ s ≤ 3) : zt_co s (zt_wl f q p 20) = 100 ↔ s = 2 := by
  have c := zt_cox (s := s) (w := zt_wl f q p 20)
  have b := zt_wlb (f := f) (q := q) (r := p) (k := 20) (by omega)
  constructor
  · intro h
    rcases (by omega : s = 0 ∨ s = 1 ∨ s = 2 ∨ s = 3) with h1 | h1 | h1 | h1
    · have d := c.1 h1
      omega
    · have d := c.2.1 h1
      omega
    · exact h1
    · have d := c.2.2.2 (by omega) (by omega) (by omega)
      omega
  · intro h
    exact c.2.2.1 h
theorem zt_c0 {s q p : Int} {f : Nat → Int} (hs : 0 ≤ s ∧ s ≤ 3) : zt_co s (zt_wl f q p 20) = 0 ↔ s = 0 := by
  have c := zt_cox (s := s) (w := zt_wl f q p 20)
  have b := zt_wlb (f := f) (q := q) (r := p) (k := 20) (by omega)
  constructor
  · intro h
    rcases (by omega : s = 0 ∨ s = 1 ∨ s = 2 ∨ s = 3) with h1 | h1 | h1 | h1
    · exact h1
    · have d := c.2.1 h1
      omega
    · have d := c.2.2.1 h1
      omega
    · have d := c.2.2.2 (by omega) (by omega) (by omega)
      omega
  · intro h
    exact c.1 h
/-- bit j as a number -/
def zt_bi (s : Int) (j : Nat) : Int := if zt_bt s j = true then 1 else 0
theorem zt_bix {s : Int} {j : Nat} : (zt_bt s j = true ∧ zt_bi s j = 1) ∨ (zt_bt s j = false ∧ zt_bi s j = 0) := by
  unfold zt_bi
  cases zt_bt s j with
  | true => exact Or.inl ⟨rfl, rfl⟩
  | false => exact Or.inr ⟨rfl, rfl⟩
theorem zt_shb {s v u x : Int} {w : Nat} (hw : w < 12) (hx : x = (w : Int)) (e1 : v = (Int32.ofInt s >>> (Int32.ofInt x &&& 31)).toInt) (e2 : u = (Int32.ofInt v &&& Int32.ofInt 1).toInt) : u = zt_bi s w := by
  subst hx
  have h1 : (Int32.ofInt 1).toBitVec = BitVec.twoPow 32 0 := by decide
  have h2 := zt_and0 (s := v) (v := u) (b := Int32.ofInt 1) (j := 0) h1 (by omega) e2
  have hs : ∀ k : Nat, k < 12 → (BitVec.smod (Int32.ofInt (k : Int) &&& 31).toBitVec 32).toNat = k := by decide +kernel
  have h3 : zt_bt v 0 = zt_bt s w := by
    unfold zt_bt
    rw [e1, Int32.ofInt_toInt, Int32.toBitVec_shiftRight, BitVec.sshiftRight', hs w hw, BitVec.getLsbD_sshiftRight]
    have h4 : w + 0 < 32 := by omega
    rw [if_pos h4, decide_eq_false (show ¬ 32 ≤ 0 by omega), Bool.not_false, Bool.true_and]
    rfl
  have h5 : 0 ≤ u ∧ u ≤ 1 := by
    have h6 := (zz_and32 (Int32.ofInt v) (Int32.ofInt 1)).2 (by decide)
    rw [← e2] at h6
    exact h6
  rw [h3] at h2
  rcases zt_bix (s := s) (j := w) with ⟨h6, h7⟩ | ⟨h6, h7⟩
  · have h8 := h2.mpr h6
    omega
  · have h8 : ¬ u ≠ 0 := fun h9 => by rw [h2.mp h9] at h6; cases h6
    omega
/-- a bit more -/
def zt_set (s : Int) (w : Nat) (s1 : Int) : Prop := ∀ j : Nat, zt_bt s1 j = (decide (j = w) || zt_bt s j)
theorem zt_set1 {s v : Int} {b : Int32} {w : Nat} (hb : b.toBitVec = BitVec.twoPow 32 w) (hw : w < 32) (e : v = (Int32.ofInt s ||| b).toInt) : zt_set s w v := fun _ => zt_or0 hb hw e
theorem zt_nv1 {f : Nat → Int} {q p : Int} {k : Nat} (hp : p = q + (k : Int)) : zt_nv f q (k + 1) = 10 * zt_nv f q k + f p.toNat - 48 := by
  rw [hp]
  rfl
theorem zt_tkd {f : Nat → Int} {e p q x : Int} (hq : q = zt_R 32 32 f e p) (h1 : q < e ∧ f q.toNat ≠ 35) (h2 : ¬ (97 ≤ f q.toNat ∧ f q.toNat ≤ 122)) (hx : x = zt_R 48 57 f e q) (hd : q < x → 48 ≤ f q.toNat ∧ f q.toNat ≤ 57) : zt_te f e p = x ∧ ((q < x ∧ x - q ≤ 4 ∧ zt_tk f e p = 100) ∨ (¬ (q < x ∧ x - q ≤ 4) ∧ zt_tk f e p = 101)) := by
  by_cases h3 : 48 ≤ f q.toNat ∧ f q.toNat ≤ 57
  · have a := zt_tkn (p := p) hq h1.1 h3
    have b := zt_RS (e := e) (f := f) h1.1 h3
    have c := zt_Rge (lo := 48) (hi := 57) (f := f) (e := e) (p := q + 1)
    rw [← hx] at a
    refine ⟨a.2, ?_⟩
    by_cases h4 : 4 < x - q
    · rw [if_pos h4] at a
      exact Or.inr ⟨by omega, a.1⟩
    · rw [if_neg h4] at a
      exact Or.inl ⟨by omega, by omega, a.1⟩
  · have a := zt_tkb (p := p) hq h1 h2 h3
    have b := zt_R0 (lo := 48) (hi := 57) (f := f) (e := e) (p := q) (Or.inr h3)
    exact ⟨by omega, Or.inr ⟨by omega, a.1⟩⟩
/-- what is told of the fields behind a part -/
def zt_up (s w s1 : Int) : Prop := ∀ j : Nat, zt_bt s1 j = ((decide ((j : Int) = w) || decide (w = 6 ∧ j = 7)) || zt_bt s j)
theorem zt_up1 {s s1 w : Int} {k : Nat} (h : zt_set s k s1) (hk : w = (k : Int)) (h6 : w ≠ 6) : zt_up s w s1 := by
  intro j
  rw [h j, hk]
  have a : decide (((k : Nat) : Int) = 6 ∧ j = 7) = false := decide_eq_false (fun q => h6 (hk.trans q.1))
  rw [a, Bool.or_false]
  congr 1
  by_cases b : j = k
  · rw [b, decide_eq_true rfl, decide_eq_true rfl]
  · rw [decide_eq_false b, decide_eq_false (by omega)]
theorem zt_up6 {s s1 s2 : Int} (h : zt_set s 6 s1) (h7 : zt_set s1 7 s2) : zt_up s 6 s2 := by
  intro j
  rw [h7 j, h j, ← Bool.or_assoc]
  congr 1
  rcases (by omega : j = 6 ∨ j = 7 ∨ (j ≠ 6 ∧ j ≠ 7)) with b | b | b
  · subst b
    rfl
  · subst b
    rfl
  · rw [decide_eq_false b.1, decide_eq_false b.2, decide_eq_false (by omega), decide_eq_false (by omega)]
theorem zt_bi7 {s s1 : Int} (hb : zt_bi s 7 = zt_bi s 6) (h0 : zt_bi s 6 = 0) (h : zt_set s 6 s1) : zt_bi s1 7 = 0 := by
  have a := h 7
  rw [decide_eq_false (by decide), Bool.false_or] at a
  rcases zt_bix (s := s) (j := 7) with b | b
  · omega
  · unfold zt_bi
    rw [a, b.1, if_neg (by decide)]
/-- the class's walk over a line's parts -/
def zt_IC (tk te tv : Int → Int) (seen p res : Int) : Prop := ∃ (k : Nat) (o : Int → Bool), zt_pa tk te tv k (tk p) (te p) o = res ∧ 1502 ≤ (k : Int) + p ∧ ∀ w : Nat, (w = 5 ∨ w = 6 ∨ w = 8 ∨ w = 9 ∨ w = 10 ∨ w = 11 ∨ w = 1 ∨ w = 2 ∨ w = 3 ∨ w = 4) → zt_bt seen w = o (w : Int)
theorem zt_IC0 {tk te tv : Int → Int} {p : Int} (hp : 0 ≤ p) : zt_IC tk te tv 0 p (zt_pa tk te tv 1600 (tk p) (te p) (fun _ => false)) := ⟨1600, fun _ => false, rfl, by omega, fun w _ => zt_bt0 _⟩
theorem zt_ICE {tk te tv : Int → Int} {seen p res : Int} (h : zt_IC tk te tv seen p res) (hp : p ≤ 1500) (hc : tk p = 0) : res = 1 := by
  obtain ⟨k, o, h1, h2, _⟩ := h
  have h3 : k = (k - 1) + 1 := by omega
  rw [h3, zt_pa1, if_pos hc] at h1
  exact h1.symm
theorem zt_ICN {tk te tv : Int → Int} {seen p res c q : Int} (h : zt_IC tk te tv seen p res) (hp : p ≤ 1500) (hc : c = tk p) (hq : q = te p) (h0 : c ≠ 0) (hv : zt_pw tk te tv c q = 0 ∨ zt_bi seen (zt_pw tk te tv c q).toNat = 1) : res = 0 := by
  obtain ⟨k, o, h1, h2, h4⟩ := h
  have h3 : k = (k - 1) + 1 := by omega
  have hr := zt_pwr tk te tv c q
  rw [h3, ← hc, ← hq, zt_pa1, if_neg h0, if_pos] at h1
  · exact h1.symm
  · by_cases h5 : zt_pw tk te tv c q = 0
    · exact Or.inl h5
    · right
      have h6 : ((zt_pw tk te tv c q).toNat : Int) = zt_pw tk te tv c q := by omega
      have h7 := h4 (zt_pw tk te tv c q).toNat (by omega)
      rw [h6] at h7
      rw [← h7]
      rcases zt_bix (s := seen) (j := (zt_pw tk te tv c q).toNat) with h8 | h8
      · exact h8.1
      · omega
theorem zt_ICS {tk te tv : Int → Int} {seen p res c q s1 p1 : Int} (h : zt_IC tk te tv seen p res) (hp : p ≤ 1500) (hc : c = tk p) (hq : q = te p) (h0 : c ≠ 0) (hw : zt_pw tk te tv c q ≠ 0) (hb : zt_bi seen (zt_pw tk te tv c q).toNat = 0) (hu : zt_up seen (zt_pw tk te tv c q) s1) (hp1 : p1 = zt_pe te c q) (hlt : p < p1) : zt_IC tk te tv s1 p1 res := by
  obtain ⟨k, o, h1, h2, h4⟩ := h
  have h3 : k = (k - 1) + 1 := by omega
  have hr := zt_pwr tk te tv c q
  have h6 : ((zt_pw tk te tv c q).toNat : Int) = zt_pw tk te tv c q := by omega
  have h7 : o (zt_pw tk te tv c q) = false := by
    have h8 := h4 (zt_pw tk te tv c q).toNat (by omega)
    rw [h6] at h8
    rw [← h8]
    rcases zt_bix (s := seen) (j := (zt_pw tk te tv c q).toNat) with h9 | h9
    · omega
    · exact h9.1
  rw [h3, ← hc, ← hq, zt_pa1, if_neg h0, if_neg (by rw [h7]; intro h8; rcases h8 with h9 | h9; exact hw h9; cases h9), ← hp1] at h1
  refine ⟨k - 1, _, h1, by omega, fun w h8 => ?_⟩
  have h9 := hu w
  rw [decide_eq_false (p := zt_pw tk te tv c q = 6 ∧ w = 7) (by omega), Bool.or_false, h4 w h8] at h9
  exact h9
/-- bits 6 and 7 go together -/
theorem zt_up67 {s w s1 : Int} (h : zt_up s w s1) (hb : zt_bi s 7 = zt_bi s 6) (hw : w ≠ 7) : zt_bi s1 7 = zt_bi s1 6 := by
  have a := h 7
  have b := h 6
  have c : zt_bt s 7 = zt_bt s 6 := by
    rcases zt_bix (s := s) (j := 7) with d | d <;> rcases zt_bix (s := s) (j := 6) with e | e
    · rw [d.1, e.1]
    · omega
    · omega
    · rw [d.1, e.1]
  unfold zt_bi
  rw [a, b, c]
  by_cases h6 : w = 6
  · rw [decide_eq_true (p := (((6 : Nat) : Int) = w)) (by omega), decide_eq_true (p := (w = 6 ∧ 7 = 7)) ⟨h6, rfl⟩]
    simp
  · rw [decide_eq_false (p := (((7 : Nat) : Int) = w)) (by omega), decide_eq_false (p := (w = 6 ∧ 7 = 7)) (fun q => h6 q.1), decide_eq_false (p := (((6 : Nat) : Int) = w)) (by omega), decide_eq_false (p := (w = 6 ∧ 6 = 7)) (fun q => h6 q.1)]
/-- a line whose first token is c and ends at p -/
def zt_l2 (tk te tv : Int → Int) (c p : Int) : Int := if 1 ≤ c ∧ c ≤ 9 then (if zt_pa tk te tv 1600 (tk p) (te p) (fun _ => false) = 1 then 1 else -1) else -1
theorem zt_l2x {tk te tv : Int → Int} {p : Int} : zt_li tk te tv p = if tk p = 0 then 0 else zt_l2 tk te tv (tk p) (te p) := rfl
theorem zt_Wk {u : Nat} {k : Int} (hk : 1 ≤ k ∧ k ≤ 9) (h : (u : Int) = k - 1) : zt_W u = k := by
  rcases (by omega : u = 0 ∨ u = 1 ∨ u = 2 ∨ u = 3 ∨ u = 4 ∨ u = 5 ∨ u = 6 ∨ u = 7 ∨ u = 8) with rfl | rfl | rfl | rfl | rfl | rfl | rfl | rfl | rfl
  · show (1 : Int) = k; omega
  · show (2 : Int) = k; omega
  · show (3 : Int) = k; omega
  · show (4 : Int) = k; omega
  · show (5 : Int) = k; omega
  · show (6 : Int) = k; omega
  · show (7 : Int) = k; omega
  · show (8 : Int) = k; omega
  · show (9 : Int) = k; omega
theorem zt_l2b (tk te tv : Int → Int) (c p : Int) : zt_l2 tk te tv c p = 1 ∨ zt_l2 tk te tv c p = -1 := by
  unfold zt_l2
  split
  · split
    · exact Or.inl rfl
    · exact Or.inr rfl
  · exact Or.inr rfl
/-- a number's worth after d digits, as long as it is bounded -/
def zt_nb (d v : Int) : Prop := (d = 0 ∧ v = 0) ∨ (d = 1 ∧ 0 ≤ v ∧ v ≤ 9) ∨ (d = 2 ∧ 0 ≤ v ∧ v ≤ 99) ∨ (d = 3 ∧ 0 ≤ v ∧ v ≤ 999) ∨ (d = 4 ∧ 0 ≤ v ∧ v ≤ 9999) ∨ 5 ≤ d
theorem zt_nb0 {d v : Int} (h : d = 0) (hv : v = 0) : zt_nb d v := Or.inl ⟨h, hv⟩
theorem zt_nbb {d v : Int} (h : zt_nb d v) (hd : d ≤ 4) : 0 ≤ v ∧ v ≤ 9999 := by
  rcases h with h | h | h | h | h | h
  · exact ⟨by omega, by omega⟩
  · exact ⟨by omega, by omega⟩
  · exact ⟨by omega, by omega⟩
  · exact ⟨by omega, by omega⟩
  · exact ⟨by omega, by omega⟩
  · exact absurd hd (by omega)
theorem zt_nb3 {d v : Int} (h : zt_nb d v) (hd : d ≤ 3) : 0 ≤ v ∧ v ≤ 999 := by
  rcases h with h | h | h | h | h | h
  · exact ⟨by omega, by omega⟩
  · exact ⟨by omega, by omega⟩
  · exact ⟨by omega, by omega⟩
  · exact ⟨by omega, by omega⟩
  · exact absurd hd (by omega)
  · exact absurd hd (by omega)
theorem zt_nbS {d d1 v c w : Int} (h : zt_nb d v) (hd : d1 = d + 1) (hc : 48 ≤ c ∧ c ≤ 57) (hw : 0 ≤ v → v ≤ 9999 → w = 10 * v + c - 48) : zt_nb d1 w := by
  rcases h with h | h | h | h | h | h
  · have e := hw (by omega) (by omega)
    exact Or.inr (Or.inl ⟨by omega, by omega, by omega⟩)
  · have e := hw (by omega) (by omega)
    exact Or.inr (Or.inr (Or.inl ⟨by omega, by omega, by omega⟩))
  · have e := hw (by omega) (by omega)
    exact Or.inr (Or.inr (Or.inr (Or.inl ⟨by omega, by omega, by omega⟩)))
  · have e := hw (by omega) (by omega)
    exact Or.inr (Or.inr (Or.inr (Or.inr (Or.inl ⟨by omega, by omega, by omega⟩))))
  · exact Or.inr (Or.inr (Or.inr (Or.inr (Or.inr (by omega)))))
  · exact Or.inr (Or.inr (Or.inr (Or.inr (Or.inr (by omega)))))

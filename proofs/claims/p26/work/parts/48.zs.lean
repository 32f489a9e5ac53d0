/-! The line of a layer: what both sides write, sign by sign. By hand. -/
def zs_P (n : Int) (f : Nat → Int) (l : List Int) : Prop := n = l.length ∧ ∀ i : Nat, i < l.length → f i = l.getD i 0
theorem zs_P0 {n : Int} {f : Nat → Int} (h : n = 0) : zs_P n f [] := ⟨h, fun i hi => absurd hi (Nat.not_lt_zero i)⟩
theorem zs_Pa {n m x : Int} {f g : Nat → Int} {l : List Int} (h : zs_P n f l) (hm : m = n + 1) (hg : ∀ i : Nat, (i : Int) ≠ n → g i = f i) (hx : g n.toNat = x) : zs_P m g (l ++ [x]) := by
  obtain ⟨h1, h2⟩ := h
  refine ⟨by rw [List.length_append, List.length_singleton]; omega, fun i hi => ?_⟩
  rw [List.length_append, List.length_singleton] at hi
  by_cases e : i < l.length
  · show g i = ((l ++ [x])[i]?).getD 0
    rw [List.getElem?_append_left e]
    exact (hg i (by omega)).trans (h2 i e)
  · have e2 : i = l.length := by omega
    show g i = ((l ++ [x])[i]?).getD 0
    rw [List.getElem?_append_right (by omega), show i - l.length = 0 by omega]
    show g i = x
    rw [← hx, show n.toNat = i by omega]
theorem zs_Pq {S0 S1 S2 : zz_S} {c d j k : Nat} {x y : Int} {l : List Int} (h : zs_P (S0 d j) (S0 c) l) (q1 : S1 = zz_st S0 c k x) (q2 : S2 = zz_st S1 d j y) (hk : k = (S0 d j).toNat) (hy : y = S0 d j + 1) (hcd : c ≠ d) : zs_P (S2 d j) (S2 c) (l ++ [x]) := by
  have h0 := h.1
  refine zs_Pa h ((zz_rs q2).trans hy) (fun i hi => ?_) ?_
  · exact (zz_ro q2 (fun e => hcd e.1) rfl).trans (zz_ro q1 (fun e => absurd e.2 (by omega)) rfl)
  · rw [← hk]
    exact (zz_ro q2 (fun e => hcd e.1) rfl).trans (zz_rs q1)
/-- the sign at k, or -1 -/
def zs_at (l : List Int) (k : Int) : Int := if k < l.length then l.getD k.toNat 0 else -1
theorem zs_aty {n k : Int} {f : Nat → Int} {l : List Int} (h : zs_P n f l) (k0 : 0 ≤ k) (hk : k < n) : zs_at l k = f k.toNat := by
  have h1 := h.1
  unfold zs_at
  rw [if_pos (by omega)]
  exact (h.2 _ (by omega)).symm
theorem zs_atn {n k : Int} {f : Nat → Int} {l : List Int} (h : zs_P n f l) (hk : n ≤ k) : zs_at l k = -1 := by
  have h1 := h.1
  unfold zs_at
  rw [if_neg (by omega)]
/-- a token follows a blank, but at a line's beginning -/
def zs_pre (l : List Int) : List Int := if l.length = 0 then l else l ++ [32]
def zs_tk (l w : List Int) : List Int := zs_pre l ++ w
theorem zs_preN {l : List Int} (h : l.length = 0) : zs_pre l = l := if_pos h
theorem zs_preY {l : List Int} (h : l.length ≠ 0) : zs_pre l = l ++ [32] := if_neg h
theorem zs_prel (l : List Int) : (zs_pre l).length ≤ l.length + 1 := by
  unfold zs_pre
  split
  · omega
  · rw [List.length_append, List.length_singleton]
    omega
/-- the digits of a number that stand for units above u -/
def zs_d (v u : Int) : Int := 48 + v / u % 10
def zs_g (c : Bool) (x : Int) : List Int := if c then [x] else []
def zs_nup (v u : Int) : List Int := ((zs_g (decide (u < 1000 ∧ 1000 ≤ v)) (zs_d v 1000) ++ zs_g (decide (u < 100 ∧ 100 ≤ v)) (zs_d v 100)) ++ zs_g (decide (u < 10 ∧ 10 ≤ v)) (zs_d v 10)) ++ zs_g (decide (u < 1)) (zs_d v 1)
def zs_nu (v : Int) : List Int := zs_nup v 0
theorem zs_gt {p : Prop} [Decidable p] (x : Int) (h : p) : zs_g (decide p) x = [x] := by
  rw [decide_eq_true h]
  rfl
theorem zs_gf {p : Prop} [Decidable p] (x : Int) (h : ¬ p) : zs_g (decide p) x = [] := by
  rw [decide_eq_false h]
  rfl
theorem zs_gl (c : Bool) (x : Int) : (zs_g c x).length ≤ 1 := by
  cases c
  · exact Nat.zero_le 1
  · exact Nat.le_refl 1
theorem zs_nupl (v u : Int) : (zs_nup v u).length ≤ 4 := by
  unfold zs_nup
  rw [List.length_append, List.length_append, List.length_append]
  have h1 := zs_gl (decide (u < 1000 ∧ 1000 ≤ v)) (zs_d v 1000)
  have h2 := zs_gl (decide (u < 100 ∧ 100 ≤ v)) (zs_d v 100)
  have h3 := zs_gl (decide (u < 10 ∧ 10 ≤ v)) (zs_d v 10)
  have h4 := zs_gl (decide (u < 1)) (zs_d v 1)
  omega
theorem zs_nup0 (v : Int) : zs_nup v 1000 = [] := by
  unfold zs_nup
  rw [zs_gf _ (by omega), zs_gf _ (by omega), zs_gf _ (by omega), zs_gf _ (by omega)]
  rfl
theorem zs_nupY {v u w : Int} (hu : u = 1000 ∨ u = 100 ∨ u = 10 ∨ u = 1) (h : u ≤ v ∨ u = 1) (hw : w = u / 10) : zs_nup v u ++ [zs_d v u] = zs_nup v w := by
  unfold zs_nup
  rcases hu with e | e | e | e
  · rw [zs_gf (p := u < 1000 ∧ 1000 ≤ v) _ (by omega), zs_gf (p := u < 100 ∧ 100 ≤ v) _ (by omega), zs_gf (p := u < 10 ∧ 10 ≤ v) _ (by omega), zs_gf (p := u < 1) _ (by omega), zs_gt (p := w < 1000 ∧ 1000 ≤ v) _ (by omega), zs_gf (p := w < 100 ∧ 100 ≤ v) _ (by omega), zs_gf (p := w < 10 ∧ 10 ≤ v) _ (by omega), zs_gf (p := w < 1) _ (by omega), e]
    rfl
  · rw [zs_gf (p := u < 100 ∧ 100 ≤ v) _ (by omega), zs_gf (p := u < 10 ∧ 10 ≤ v) _ (by omega), zs_gf (p := u < 1) _ (by omega), zs_gt (p := w < 100 ∧ 100 ≤ v) _ (by omega), zs_gf (p := w < 10 ∧ 10 ≤ v) _ (by omega), zs_gf (p := w < 1) _ (by omega), e, show (decide ((100 : Int) < 1000 ∧ 1000 ≤ v)) = decide (w < 1000 ∧ 1000 ≤ v) from decide_eq_decide.mpr (by omega)]
    simp only [List.append_nil]
  · rw [zs_gf (p := u < 10 ∧ 10 ≤ v) _ (by omega), zs_gf (p := u < 1) _ (by omega), zs_gt (p := w < 10 ∧ 10 ≤ v) _ (by omega), zs_gf (p := w < 1) _ (by omega), e, show (decide ((10 : Int) < 1000 ∧ 1000 ≤ v)) = decide (w < 1000 ∧ 1000 ≤ v) from decide_eq_decide.mpr (by omega), show (decide ((10 : Int) < 100 ∧ 100 ≤ v)) = decide (w < 100 ∧ 100 ≤ v) from decide_eq_decide.mpr (by omega)]
    simp only [List.append_nil]
  · rw [zs_gf (p := u < 1) _ (by omega), zs_gt (p := w < 1) _ (by omega), e, show (decide ((1 : Int) < 1000 ∧ 1000 ≤ v)) = decide (w < 1000 ∧ 1000 ≤ v) from decide_eq_decide.mpr (by omega), show (decide ((1 : Int) < 100 ∧ 100 ≤ v)) = decide (w < 100 ∧ 100 ≤ v) from decide_eq_decide.mpr (by omega), show (decide ((1 : Int) < 10 ∧ 10 ≤ v)) = decide (w < 10 ∧ 10 ≤ v) from decide_eq_decide.mpr (by omega)]
    simp only [List.append_nil]
theorem zs_nupN {v u w : Int} (hu : u = 1000 ∨ u = 100 ∨ u = 10 ∨ u = 1) (h : v < u) (h1 : u ≠ 1) (hw : w = u / 10) : zs_nup v u = zs_nup v w := by
  unfold zs_nup
  rw [show decide (u < 1000 ∧ 1000 ≤ v) = decide (w < 1000 ∧ 1000 ≤ v) from decide_eq_decide.mpr (by omega), show decide (u < 100 ∧ 100 ≤ v) = decide (w < 100 ∧ 100 ≤ v) from decide_eq_decide.mpr (by omega), show decide (u < 10 ∧ 10 ≤ v) = decide (w < 10 ∧ 10 ≤ v) from decide_eq_decide.mpr (by omega), show decide (u < 1) = decide (w < 1) from decide_eq_decide.mpr (by omega)]
theorem zs_dg {v u a b c : Int} (hv : 0 ≤ v) (hu : u = 1000 ∨ u = 100 ∨ u = 10 ∨ u = 1) (ha : a = v.tdiv u) (hb : b = a.tmod 10) (hc : c = 48 + b) : c = zs_d v u := by
  have h1 : a = v / u := by rw [ha, Int.tdiv_eq_ediv_of_nonneg hv]
  have h2 : 0 ≤ v / u := Int.ediv_nonneg hv (by omega)
  have h3 : b = v / u % 10 := by rw [hb, h1, Int.tmod_eq_emod_of_nonneg h2]
  unfold zs_d
  omega
def zs_num (l : List Int) (v : Int) : List Int := (l ++ [32]) ++ zs_nu v
def zs_nd (l w : List Int) (v : Int) : List Int := zs_num (zs_tk l w) v
/-- with a bound of the count -/
def zs_L (n : Int) (f : Nat → Int) (l : List Int) (m : Nat) : Prop := zs_P n f l ∧ l.length ≤ m
theorem zs_tkl (l w : List Int) : (zs_tk l w).length ≤ l.length + 1 + w.length := by
  unfold zs_tk
  rw [List.length_append]
  have := zs_prel l
  omega
theorem zs_numl (l : List Int) (v : Int) : (zs_num l v).length ≤ l.length + 5 := by
  unfold zs_num zs_nu
  rw [List.length_append, List.length_append, List.length_singleton]
  have := zs_nupl v 0
  omega
theorem zs_Lt {n : Int} {f : Nat → Int} {l w : List Int} {m : Nat} (h : zs_P n f (zs_tk l w)) (hl : l.length ≤ m) : zs_L n f (zs_tk l w) (m + 1 + w.length) := ⟨h, by have := zs_tkl l w; omega⟩
theorem zs_Ln {n v : Int} {f : Nat → Int} {l : List Int} {m : Nat} (h : zs_P n f (zs_num l v)) (hl : l.length ≤ m) : zs_L n f (zs_num l v) (m + 5) := ⟨h, by have := zs_numl l v; omega⟩
theorem zs_L1 {n x : Int} {f : Nat → Int} {l : List Int} {m : Nat} (h : zs_P n f (l ++ [x])) (hl : l.length ≤ m) : zs_L n f (l ++ [x]) (m + 1) := ⟨h, by rw [List.length_append, List.length_singleton]; omega⟩
/-- a token sign by sign -/
theorem zs_tks {w : List Int} {x y : Int} (h0 : 0 ≤ x) (h1 : x < w.length) (e : y = x + 1) : w.take x.toNat ++ [w.getD x.toNat 0] = w.take y.toNat := by
  have h2 : x.toNat < w.length := by omega
  have e1 : y.toNat = x.toNat + 1 := by omega
  have e2 : w.getD x.toNat 0 = w[x.toNat] := by
    show (w[x.toNat]?).getD 0 = w[x.toNat]
    rw [List.getElem?_eq_getElem h2]
    rfl
  rw [e1, e2, List.take_succ_eq_append_getElem h2]
theorem zs_tke {w : List Int} {x : Int} (h : (w.length : Int) ≤ x) : w.take x.toNat = w := List.take_of_length_le (by omega)
/-- a word by its number -/
def zs_cw : List Int → Int → Prop
  | [], c => c ≤ 0
  | a :: w, c => 0 < c ∧ a = 96 + c % 32 ∧ zs_cw w (c / 32)
theorem zs_cwS {w : List Int} {c b d : Int} (h : zs_cw w c) (hc : 0 < c) (hb : b = 96 + c % 32) (hd : d = c / 32) : ∃ u : List Int, w = b :: u ∧ zs_cw u d := by
  match w, h with
  | [], h => exact absurd hc (Int.not_lt.mpr h)
  | a :: u, h => exact ⟨u, by rw [hb, ← h.2.1], by rw [hd]; exact h.2.2⟩
theorem zs_cwE {w : List Int} {c : Int} (h : zs_cw w c) (hc : c ≤ 0) : w = [] := by
  match w, h with
  | [], _ => rfl
  | a :: u, h => exact absurd h.1 (Int.not_lt.mpr hc)
def zs_CI (n : Int) (f : Nat → Int) (p : List Int) (w : List Int) (x : Int) : Prop := ∃ w1 w2 : List Int, w1 ++ w2 = w ∧ zs_cw w2 x ∧ zs_P n f (p ++ w1)
theorem zs_CI0 {n x : Int} {f : Nat → Int} {p w : List Int} (h : zs_P n f p) (hw : zs_cw w x) : zs_CI n f p w x := ⟨[], w, rfl, hw, by rw [List.append_nil]; exact h⟩
theorem zs_CIs {n n1 x y b : Int} {f f1 : Nat → Int} {p w : List Int} (h : zs_CI n f p w x) (hx : 0 < x) (hb : b = 96 + x % 32) (hy : y = x / 32) (hP : ∀ l : List Int, zs_P n f l → zs_P n1 f1 (l ++ [b])) : zs_CI n1 f1 p w y := by
  obtain ⟨w1, w2, e, hw, h1⟩ := h
  obtain ⟨u, eu, hu⟩ := zs_cwS hw hx hb hy
  refine ⟨w1 ++ [b], u, ?_, hu, ?_⟩
  · rw [← e, eu, List.append_assoc]
    rfl
  · rw [← List.append_assoc]
    exact hP _ h1
theorem zs_CIe {n x : Int} {f : Nat → Int} {p w : List Int} (h : zs_CI n f p w x) (hx : x ≤ 0) : zs_P n f (p ++ w) := by
  obtain ⟨w1, w2, e, hw, h1⟩ := h
  rw [zs_cwE hw hx, List.append_nil] at e
  rw [← e]
  exact h1
/-- the words -/
abbrev zs_wconv : List Int := [99, 111, 110, 118]
abbrev zs_wby : List Int := [98, 121]
abbrev zs_wx : List Int := [120]
abbrev zs_woutputs : List Int := [111, 117, 116, 112, 117, 116, 115]
abbrev zs_wat : List Int := [97, 116]
abbrev zs_wpool : List Int := [112, 111, 111, 108]
abbrev zs_wadd : List Int := [97, 100, 100]
abbrev zs_winput : List Int := [105, 110, 112, 117, 116]
abbrev zs_wstep : List Int := [115, 116, 101, 112]
abbrev zs_wedge : List Int := [101, 100, 103, 101]
abbrev zs_wshift : List Int := [115, 104, 105, 102, 116]
abbrev zs_wrelu : List Int := [114, 101, 108, 117]
theorem zs_kconv : zs_cw zs_wconv 735715 := ⟨by decide, by decide, by decide, by decide, by decide, by decide, by decide, by decide, Int.le_refl 0⟩
theorem zs_kby : zs_cw zs_wby 802 := ⟨by decide, by decide, by decide, by decide, Int.le_refl 0⟩
theorem zs_kx : zs_cw zs_wx 24 := ⟨by decide, by decide, Int.le_refl 0⟩
theorem zs_koutputs : zs_cw zs_woutputs 21094748847 := ⟨by decide, by decide, by decide, by decide, by decide, by decide, by decide, by decide, by decide, by decide, by decide, by decide, by decide, by decide, Int.le_refl 0⟩
theorem zs_kat : zs_cw zs_wat 641 := ⟨by decide, by decide, by decide, by decide, Int.le_refl 0⟩
theorem zs_kpool : zs_cw zs_wpool 409072 := ⟨by decide, by decide, by decide, by decide, by decide, by decide, by decide, by decide, Int.le_refl 0⟩
theorem zs_kadd : zs_cw zs_wadd 4225 := ⟨by decide, by decide, by decide, by decide, by decide, by decide, Int.le_refl 0⟩
theorem zs_kinput : zs_cw zs_winput 21676489 := ⟨by decide, by decide, by decide, by decide, by decide, by decide, by decide, by decide, by decide, by decide, Int.le_refl 0⟩
theorem zs_kstep : zs_cw zs_wstep 530067 := ⟨by decide, by decide, by decide, by decide, by decide, by decide, by decide, by decide, Int.le_refl 0⟩
theorem zs_kedge : zs_cw zs_wedge 171141 := ⟨by decide, by decide, by decide, by decide, by decide, by decide, by decide, by decide, Int.le_refl 0⟩
theorem zs_kshift : zs_cw zs_wshift 21177619 := ⟨by decide, by decide, by decide, by decide, by decide, by decide, by decide, by decide, by decide, by decide, Int.le_refl 0⟩
theorem zs_krelu : zs_cw zs_wrelu 700594 := ⟨by decide, by decide, by decide, by decide, by decide, by decide, by decide, by decide, Int.le_refl 0⟩
/-- a line -/
def zs_hd (K a b kh kw ch ad h w : Int) : List Int := if K = 1 then zs_nd (zs_nd (zs_nd (zs_nd (zs_nd [] zs_wconv a) zs_wby kh) zs_wx kw) zs_woutputs ch) zs_wat ad else if K = 2 then zs_nd (zs_nd (zs_nd [] zs_wpool a) zs_wby kh) zs_wx kw else if K = 3 then zs_num (zs_nd [] zs_wadd a) b else zs_nd (zs_nd (zs_nd [] zs_winput h) zs_wx w) zs_wx ch
theorem zs_hd1 {K a b kh kw ch ad h w : Int} (e : K = 1) : zs_hd K a b kh kw ch ad h w = zs_nd (zs_nd (zs_nd (zs_nd (zs_nd [] zs_wconv a) zs_wby kh) zs_wx kw) zs_woutputs ch) zs_wat ad := if_pos e
theorem zs_hd2 {K a b kh kw ch ad h w : Int} (e : K = 2) : zs_hd K a b kh kw ch ad h w = zs_nd (zs_nd (zs_nd [] zs_wpool a) zs_wby kh) zs_wx kw := (if_neg (by omega)).trans (if_pos e)
theorem zs_hd3 {K a b kh kw ch ad h w : Int} (e : K = 3) : zs_hd K a b kh kw ch ad h w = zs_num (zs_nd [] zs_wadd a) b := (if_neg (by omega)).trans ((if_neg (by omega)).trans (if_pos e))
theorem zs_hd0 {K a b kh kw ch ad h w : Int} (e : K = 0) : zs_hd K a b kh kw ch ad h w = zs_nd (zs_nd (zs_nd [] zs_winput h) zs_wx w) zs_wx ch := (if_neg (by omega)).trans ((if_neg (by omega)).trans (if_neg (by omega)))
def zs_o1 (l : List Int) (x : Int) : List Int := if x = 1 then l else zs_nd l zs_wstep x
def zs_o2 (l : List Int) (x : Int) : List Int := if x = 0 then l else zs_nd l zs_wedge x
def zs_o3 (l : List Int) (x : Int) : List Int := if x = 0 then l else zs_nd l zs_wshift x
def zs_o4 (l : List Int) (x : Int) : List Int := if x = 0 then l else zs_tk l zs_wrelu
def zs_op (l : List Int) (st ed sh rl : Int) : List Int := zs_o4 (zs_o3 (zs_o2 (zs_o1 l st) ed) sh) rl
theorem zs_opE {l l1 l2 l3 l4 : List Int} {st ed sh rl : Int} (e1 : zs_o1 l st = l1) (e2 : zs_o2 l1 ed = l2) (e3 : zs_o3 l2 sh = l3) (e4 : zs_o4 l3 rl = l4) : zs_op l st ed sh rl = l4 := by
  unfold zs_op
  rw [e1, e2, e3, e4]
def zs_ln (v : zn_T) (k : Nat) : List Int := zs_op (zs_hd (v 0 k) (v 1 k) (v 2 k) (v 3 k) (v 4 k) (v 12 k) (v 9 k) (v 10 k) (v 11 k)) (v 5 k) (v 6 k) (v 7 k) (v 8 k) ++ [10]
/-- what a network's numbers are, beside zn_V and zn_W -/
def zs_q (K a b kh kw st ed sh rl ad : Int) : Prop := (0 ≤ a ∧ 0 ≤ b) ∧ (K ≠ 3 → 0 ≤ kh ∧ 0 ≤ kw) ∧ 1 ≤ st ∧ (0 ≤ ed ∧ (K ≠ 1 → ed = 0) ∧ (K = 3 → st = 1)) ∧ (0 ≤ sh ∧ sh ≤ 15) ∧ (0 ≤ rl ∧ rl ≤ 1) ∧ (K = 1 → 0 ≤ ad)
def zs_Q (v : zn_T) : Prop := (v 5 0 = 1 ∧ v 6 0 = 0 ∧ v 7 0 = 0 ∧ v 8 0 = 0) ∧ ∀ k : Int, 1 ≤ k → k < v 15 0 → zs_q (v 0 k.toNat) (v 1 k.toNat) (v 2 k.toNat) (v 3 k.toNat) (v 4 k.toNat) (v 5 k.toNat) (v 6 k.toNat) (v 7 k.toNat) (v 8 k.toNat) (v 9 k.toNat)
theorem zs_preZ {n : Int} {f : Nat → Int} {u : List Int} (h : zs_P n f u) (hn : n ≤ 0) : zs_P n f (zs_pre u) := by
  have h1 := h.1
  rw [zs_preN (by omega)]
  exact h
theorem zs_preA {n n1 : Int} {f f1 : Nat → Int} {u : List Int} (h : zs_P n f u) (hn : 0 < n) (h1 : zs_P n1 f1 (u ++ [32])) : zs_P n1 f1 (zs_pre u) := by
  have h2 := h.1
  rw [zs_preY (by omega)]
  exact h1
theorem zs_T0 {n : Int} {f : Nat → Int} {u w : List Int} (h : zs_P n f (zs_pre u)) : zs_P n f (zs_pre u ++ w.take (0 : Int).toNat) := by
  rw [show w.take (0 : Int).toNat = [] from rfl, List.append_nil]
  exact h
theorem zs_TS {n n1 x y b : Int} {f f1 : Nat → Int} {u w : List Int} (a : zs_P n f (zs_pre u ++ w.take x.toNat)) (h0 : 0 ≤ x) (h1 : x < w.length) (hy : y = x + 1) (hb : b = w.getD x.toNat 0) (hl : u.length ≤ 80) (h38 : x ≤ 38) (o : ∀ l : List Int, zs_P n f l → l.length ≤ 127 → zs_P n1 f1 (l ++ [b])) : zs_P n1 f1 (zs_pre u ++ w.take y.toNat) := by
  have q := o _ a (by rw [List.length_append, List.length_take]; have := zs_prel u; omega)
  rw [List.append_assoc, hb, zs_tks h0 h1 hy] at q
  exact q
theorem zs_TE {n x : Int} {f : Nat → Int} {u w : List Int} (a : zs_P n f (zs_pre u ++ w.take x.toNat)) (h : (w.length : Int) ≤ x) : zs_P n f (zs_tk u w) := by
  rw [zs_tke h] at a
  exact a
theorem zs_u4 {x : Int} (h : x = 1000 ∨ x = 100 ∨ x = 10 ∨ x = 1 ∨ x = 0) (hx : x ≠ 0) : x = 1000 ∨ x = 100 ∨ x = 10 ∨ x = 1 := by omega
theorem zs_u1 {u w : Int} (hu : u = 1000 ∨ u = 100 ∨ u = 10 ∨ u = 1) (hw : w = u.tdiv 10) : w = u / 10 := by rw [hw, Int.tdiv_eq_ediv_of_nonneg (by omega)]
theorem zs_u10 {u w : Int} (hu : u = 1000 ∨ u = 100 ∨ u = 10 ∨ u = 1) (hw : w = u.tdiv 10) : w = 1000 ∨ w = 100 ∨ w = 10 ∨ w = 1 ∨ w = 0 := by
  have := zs_u1 hu hw
  omega
theorem zs_m38 : ∀ t : Nat, t < 59 → mm_len.getD t 0 ≤ 38 := by decide +kernel
theorem zs_Lm {n : Int} {f : Nat → Int} {l : List Int} {m k : Nat} (h : zs_L n f l m) (hm : m ≤ k) : zs_L n f l k := ⟨h.1, Nat.le_trans h.2 hm⟩
/-- the numbers that a line shows -/
def zs_lq (K a b kh kw ch ad h w st ed sh : Int) : Prop := (0 ≤ K ∧ K ≤ 3) ∧ (K ≠ 0 → 0 ≤ a) ∧ (K = 3 → 0 ≤ b) ∧ ((K = 1 ∨ K = 2) → 0 ≤ kh ∧ 0 ≤ kw) ∧ (0 ≤ ch ∧ 0 ≤ h ∧ 0 ≤ w) ∧ (K = 1 → 0 ≤ ad) ∧ 1 ≤ st ∧ 0 ≤ ed ∧ 0 ≤ sh
theorem zs_Q.lq {v : zn_T} {k : Int} (hV : zn_V v) (hW : zn_W v) (hQ : zs_Q v) (k0 : 0 ≤ k) (k1 : k < v 15 0) : zs_lq (v 0 k.toNat) (v 1 k.toNat) (v 2 k.toNat) (v 3 k.toNat) (v 4 k.toNat) (v 12 k.toNat) (v 9 k.toNat) (v 10 k.toNat) (v 11 k.toNat) (v 5 k.toNat) (v 6 k.toNat) (v 7 k.toNat) := by
  have a := hV.2.1 k k0 k1
  unfold zs_lq
  rcases Decidable.em (k = 0) with e | e
  · subst e
    have q := hQ.1
    have w := hW.1
    simp only [Int.toNat_zero] at a ⊢
    omega
  · have q := hQ.2 k (by omega) k1
    have w := hW.2 k (by omega) k1
    unfold zs_q at q
    omega
theorem zs_opT {n : Int} {f : Nat → Int} {l l1 l2 l3 l4 : List Int} {st ed sh rl : Int} (h : zs_P n f l4) (e1 : zs_o1 l st = l1) (e2 : zs_o2 l1 ed = l2) (e3 : zs_o3 l2 sh = l3) (e4 : zs_o4 l3 rl = l4) : zs_P n f (zs_op l st ed sh rl) := by
  rw [zs_opE e1 e2 e3 e4]
  exact h
theorem zs_sh {x v sh rl : Int} (hx : x = sh + 16 * rl) (h1 : 0 ≤ sh ∧ sh ≤ 15) (h2 : 0 ≤ rl ∧ rl ≤ 1) (e : v = x.tmod 16) : v = sh := by
  rw [e, Int.tmod_eq_emod_of_nonneg (by omega)]
  omega
def zs_lx (K st ed sh rl : Int) : Prop := 1 ≤ K ∧ (K ≠ 1 → ed = 0) ∧ (K = 3 → st = 1) ∧ sh ≤ 15 ∧ 0 ≤ rl ∧ rl ≤ 1
/-- what the reference says of layer q -/
def zs_SL (S : zz_S) (q : Int) (n : Int) (f : Nat → Int) (n1 : Int) (f1 : Nat → Int) : Prop := ∀ K a b kh kw ch ad h w st ed sh rl : Int, zs_lq K a b kh kw ch ad h w st ed sh → zs_lx K st ed sh rl → S 1106 q.toNat + 1 = K → S 1107 q.toNat = a → (K = 3 → S 1108 q.toNat = b) → S 1109 q.toNat = kh → S 1110 q.toNat = kw → S 1104 (q + 1).toNat = ch → (K = 1 → S 1114 q.toNat = ad) → S 1111 q.toNat = st → S 1112 q.toNat = ed → S 1113 q.toNat = sh + 16 * rl → zs_P n f [] → zs_P n1 f1 (zs_op (zs_hd K a b kh kw ch ad h w) st ed sh rl)
theorem zs_l0 {v : zn_T} (hW : zn_W v) (hQ : zs_Q v) : zs_ln v 0 = zs_nd (zs_nd (zs_nd [] zs_winput (v 10 0)) zs_wx (v 11 0)) zs_wx (v 12 0) ++ [10] := by
  obtain ⟨⟨q5, q6, q7, q8⟩, _⟩ := hQ
  unfold zs_ln
  rw [zs_hd0 hW.1, zs_opE (if_pos q5) (if_pos q6) (if_pos q7) (if_pos q8)]
theorem zs_Q.lx {v : zn_T} {k : Int} (hW : zn_W v) (hQ : zs_Q v) (k0 : 1 ≤ k) (k1 : k < v 15 0) : zs_lx (v 0 k.toNat) (v 5 k.toNat) (v 6 k.toNat) (v 7 k.toNat) (v 8 k.toNat) := by
  have q := hQ.2 k k0 k1
  have w := hW.2 k k0 k1
  unfold zs_q at q
  unfold zs_lx
  omega
theorem zs_opH {n : Int} {f : Nat → Int} {l l1 l2 l3 l4 : List Int} {K a b kh kw ch ad h w st ed sh rl : Int} (g : zs_P n f l4) (eh : zs_hd K a b kh kw ch ad h w = l) (e1 : zs_o1 l st = l1) (e2 : zs_o2 l1 ed = l2) (e3 : zs_o3 l2 sh = l3) (e4 : zs_o4 l3 rl = l4) : zs_P n f (zs_op (zs_hd K a b kh kw ch ad h w) st ed sh rl) := by
  rw [eh, zs_opE e1 e2 e3 e4]
  exact g
/-! A network's numbers stay so. -/
theorem zs_Qip (h w c nm : Int) : zs_Q (zn_ip h w c nm) := by
  refine ⟨⟨rfl, rfl, rfl, rfl⟩, fun k k1 k2 => ?_⟩
  have e : zn_ip h w c nm 15 0 = 1 := rfl
  omega
theorem zs_Qdp {v : zn_T} (hQ : zs_Q v) : zs_Q (zn_dp v) := by
  refine ⟨hQ.1, fun k k1 k2 => ?_⟩
  have e : zn_dp v 15 0 = 1 := rfl
  omega
theorem zs_Qrp {v : zn_T} {B : Nat → Int} {m : Int} (hQ : zs_Q v) : zs_Q (zn_rp v B m) := hQ
theorem zs_Qnw {v : zn_T} {K a b kh kw st ed sh rl ch ad nm : Int} (hV : zn_V v) (hQ : zs_Q v) (q : zs_q K a b kh kw st ed sh rl ad) : zs_Q (zn_nw v K a b kh kw st ed sh rl ch ad nm) := by
  have hV1 := hV.1
  have e0 : zn_nw v K a b kh kw st ed sh rl ch ad nm 15 0 = v 15 0 + 1 := rfl
  refine ⟨by rw [zn_nwo (s := 5) (by decide) (by omega), zn_nwo (s := 6) (by decide) (by omega), zn_nwo (s := 7) (by decide) (by omega), zn_nwo (s := 8) (by decide) (by omega)]; exact hQ.1, fun k k1 k2 => ?_⟩
  rcases (by omega : k = v 15 0 ∨ k < v 15 0) with e | e
  · have n : ((k.toNat : Nat) : Int) = v 15 0 := by omega
    rw [zn_nwN (s := 0) n (by decide), zn_nwN (s := 1) n (by decide), zn_nwN (s := 2) n (by decide), zn_nwN (s := 3) n (by decide), zn_nwN (s := 4) n (by decide), zn_nwN (s := 5) n (by decide), zn_nwN (s := 6) n (by decide), zn_nwN (s := 7) n (by decide), zn_nwN (s := 8) n (by decide), zn_nwN (s := 9) n (by decide)]
    exact q
  · rw [zn_nwo (s := 0) (by decide) (by omega), zn_nwo (s := 1) (by decide) (by omega), zn_nwo (s := 2) (by decide) (by omega), zn_nwo (s := 3) (by decide) (by omega), zn_nwo (s := 4) (by decide) (by omega), zn_nwo (s := 5) (by decide) (by omega), zn_nwo (s := 6) (by decide) (by omega), zn_nwo (s := 7) (by decide) (by omega), zn_nwo (s := 8) (by decide) (by omega), zn_nwo (s := 9) (by decide) (by omega)]
    exact hQ.2 k k1 e
theorem zs_Fq {v : zn_T} {K a b kh kw st ed sh rl ch ad : Int} (h : zn_F v K a b kh kw st ed sh ch ad 0) (hK : K = 1 ∨ K = 2 ∨ K = 3) (hx : (K ≠ 1 → ed = 0) ∧ (K = 2 → sh = 0) ∧ (K = 3 → st = 1) ∧ 0 ≤ rl ∧ rl ≤ 1) : zs_q K a b kh kw st ed sh rl ad := by
  obtain ⟨h1, h2, h3, _⟩ := zn_F0 h
  unfold zn_in at h1
  unfold zn_fit at h2
  unfold zn_rs zn_res at h3
  have h4 : K = 1 → 0 ≤ ad := fun e => by
    rcases h3 with h3 | h3
    · omega
    · rcases h3.2.2.2.1 with q | q
      · omega
      · exact q.2.1
  clear h3
  unfold zs_q
  omega
theorem zs_noA {tk te tv wc : Int → Int} {A : Int → Prop} {N : Nat → Int} {T : Nat} {i : Int} {j : Nat} (hi : 4 ≤ i ∧ i ≤ 7) (hj : (j : Int) = i + 1) (hA : ¬ A i) (k : Nat) : ∀ (d w p : Int) (o : Nat → Int), zt_no tk te tv wc A N T k d w p o j = o j := by
  induction k with
  | zero =>
    intro d w p o
    exact if_neg (by omega)
  | succ k ih =>
    intro d w p o
    by_cases hd : d = 0
    · rw [zt_no0 hd]
      exact if_neg (by omega)
    · by_cases hb : zt_ob d w = 0 ∨ ¬ A (zt_ob d w) ∨ o (10 + (zt_ob d w).toNat) = 1 ∨ ¬ zt_og tk te wc N T (zt_ob d w) p
      · rw [zt_noN hd hb]
        exact if_neg (by omega)
      · rw [zt_noS hd hb, ih]
        have h8 : A (zt_ob d w) := Classical.byContradiction (fun y => hb (Or.inr (Or.inl y)))
        have h7 : zt_ob d w ≠ 0 := fun y => hb (Or.inl y)
        have h9 : zt_ob d w ≠ i := fun y => hA (y ▸ h8)
        have b := zt_obb d w
        unfold zt_ou
        rw [if_neg (by omega), if_neg (by omega), if_neg (by omega), if_neg (by omega), if_neg (by omega), if_neg (by omega)]
theorem zs_no8 {tk te tv wc : Int → Int} {A : Int → Prop} {N : Nat → Int} {T : Nat} (k : Nat) : ∀ (d w p : Int) (o : Nat → Int), (0 ≤ o 8 ∧ o 8 ≤ 1) → 0 ≤ zt_no tk te tv wc A N T k d w p o 8 ∧ zt_no tk te tv wc A N T k d w p o 8 ≤ 1 := by
  induction k with
  | zero =>
    intro d w p o h
    exact h
  | succ k ih =>
    intro d w p o h
    by_cases hd : d = 0
    · rw [zt_no0 hd]
      exact h
    · by_cases hb : zt_ob d w = 0 ∨ ¬ A (zt_ob d w) ∨ o (10 + (zt_ob d w).toNat) = 1 ∨ ¬ zt_og tk te wc N T (zt_ob d w) p
      · rw [zt_noN hd hb]
        exact h
      · rw [zt_noS hd hb]
        refine ih _ _ _ _ ?_
        have h7 : zt_ob d w ≠ 0 := fun y => hb (Or.inl y)
        have b := zt_obb d w
        rcases Decidable.em (zt_ob d w = 7) with e | e
        · have e3 : zt_ou te tv wc (zt_ob d w) p o 8 = 1 := by
            rw [e]
            rfl
          rw [e3]
          decide
        · have e3 : zt_ou te tv wc (zt_ob d w) p o 8 = o 8 := by
            unfold zt_ou
            rw [if_neg (by omega), if_neg (by omega), if_neg (by omega), if_neg (by omega), if_neg (by omega), if_neg (by omega)]
          rw [e3]
          exact h
theorem zs_Qlv {tk te tv wc : Int → Int} {v : zn_T} {p : Int} (hV : zn_V v) (hQ : zs_Q v) (h : zn_lg tk te tv wc v p) : zs_Q (zn_lv tk te tv wc v p) := by
  have hK := zn_kd3 h.1
  refine zs_Qnw hV hQ (zs_Fq h.2.2.2.2.2 hK ⟨fun x => ?_, fun x => ?_, fun x => ?_, ?_⟩)
  · exact (zs_noA (i := 5) (j := 6) (by decide) rfl (by unfold zn_al; omega) 1600 _ _ _ _).trans rfl
  · exact (zs_noA (i := 6) (j := 7) (by decide) rfl (by unfold zn_al; omega) 1600 _ _ _ _).trans rfl
  · exact (zs_noA (i := 4) (j := 5) (by decide) rfl (by unfold zn_al; omega) 1600 _ _ _ _).trans rfl
  · exact zs_no8 1600 _ _ _ _ (by decide)
theorem zs_ntQ {f : Nat → Int} {n : Int} (k : Nat) : ∀ (a q b : Int) (v : zn_T), (b = 0 ∨ b = 1) → 0 ≤ q → (b = 1 → zn_V v ∧ zs_Q v) → (zn_nt f n k a q b v).1 = -1 → zs_Q (zn_nt f n k a q b v).2 := by
  induction k with
  | zero =>
    intro a q b v _ hq _ h
    have h9 : q = -1 := h
    omega
  | succ k ih =>
    intro a q b v hb hq hV
    by_cases h1 : n < a
    · rw [zn_ntE h1]
      intro h
      rcases hb with e | e
      · subst e
        have h9 : q = -1 := h
        omega
      · exact (hV e).2
    · by_cases h2 : zt_kn f (zt_U 10 f n a) a = 0
      · rw [zn_ntB h1 rfl h2]
        exact ih _ _ _ _ hb (by omega) hV
      · rcases hb with e | e
        · subst e
          by_cases h3 : zn_ig (zt_kn f (zt_U 10 f n a)) (zt_te f (zt_U 10 f n a)) (zt_tv f (zt_U 10 f n a)) (zt_kc f (zt_U 10 f n a)) a
          · rw [zn_ntI h1 rfl h2 h3]
            have fp := h3.2.2.2.2.2.2.2
            exact ih _ _ _ _ (Or.inr rfl) (by omega) (fun _ => ⟨zn_Vip fp.1 fp.2.1 fp.2.2.1 fp.2.2.2, zs_Qip _ _ _ _⟩)
          · rw [zn_ntJ h1 rfl h2 h3]
            intro h
            have h9 : q = -1 := h
            omega
        · subst e
          by_cases h3 : zn_lg (zt_kn f (zt_U 10 f n a)) (zt_te f (zt_U 10 f n a)) (zt_tv f (zt_U 10 f n a)) (zt_kc f (zt_U 10 f n a)) v a
          · rw [zn_ntL h1 rfl h2 h3]
            exact ih _ _ _ _ (Or.inr rfl) (by omega) (fun _ => ⟨(zn_Vlv (hV rfl).1 h3).1, zs_Qlv (hV rfl).1 (hV rfl).2 h3⟩)
          · rw [zn_ntN h1 rfl h2 h3]
            intro h
            have h9 : q = -1 := h
            omega
theorem zs_rlb (p : Int) : 0 ≤ zn_rl p ∧ zn_rl p ≤ 1 := by
  unfold zn_rl
  split
  · decide
  · decide

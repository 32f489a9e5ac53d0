/-! What network the reference has: it shows v. By hand. -/
def zn_ML (S : zz_S) (v : zn_T) (l : Nat) : Prop := S 1106 l = v 0 (l + 1) - 1 ∧ S 1107 l = v 1 (l + 1) ∧ (v 0 (l + 1) = 3 → S 1108 l = v 2 (l + 1)) ∧ S 1109 l = v 3 (l + 1) ∧ S 1110 l = v 4 (l + 1) ∧ S 1111 l = v 5 (l + 1) ∧ S 1112 l = v 6 (l + 1) ∧ S 1113 l = v 7 (l + 1) + 16 * v 8 (l + 1) ∧ (v 0 (l + 1) = 1 → S 1114 l = v 9 (l + 1))
def zn_MT (S : zz_S) (v : zn_T) (k : Nat) : Prop := S 1102 k = v 10 k ∧ S 1103 k = v 11 k ∧ S 1104 k = v 12 k ∧ S 1105 k = v 13 k
def zn_M (S : zz_S) (v : zn_T) : Prop := S 1079 36 = v 15 0 ∧ S 1105 (v 15 0).toNat = v 15 1 ∧ (∀ k : Nat, (k : Int) < v 15 0 → zn_MT S v k) ∧ (∀ l : Nat, (l : Int) + 1 < v 15 0 → zn_ML S v l)
theorem zn_M.same {S S1 : zz_S} {v : zn_T} (h : zn_M S v) (hT : S1 1079 36 = S 1079 36) (hs : ∀ a i : Nat, 1102 ≤ a → a ≤ 1114 → S1 a i = S a i) : zn_M S1 v := by
  obtain ⟨h1, h2, h3, h4⟩ := h
  refine ⟨hT.trans h1, (hs 1105 _ (by decide) (by decide)).trans h2, fun k hk => ?_, fun l hl => ?_⟩
  · have g := h3 k hk
    unfold zn_MT at g ⊢
    rw [hs 1102 k (by decide) (by decide), hs 1103 k (by decide) (by decide), hs 1104 k (by decide) (by decide), hs 1105 k (by decide) (by decide)]
    exact g
  · have g := h4 l hl
    unfold zn_ML at g ⊢
    rw [hs 1106 l (by decide) (by decide), hs 1107 l (by decide) (by decide), hs 1108 l (by decide) (by decide), hs 1109 l (by decide) (by decide), hs 1110 l (by decide) (by decide), hs 1111 l (by decide) (by decide), hs 1112 l (by decide) (by decide), hs 1113 l (by decide) (by decide), hs 1114 l (by decide) (by decide)]
    exact g
theorem zn_M.fr {sl : List (Nat × Nat)} {cl : List Nat} {V : Nat → Nat → Prop} {S S1 : zz_S} {v : zn_T} (h : zn_M S v) (f : zz_fr sl cl V S S1) (hs : sl.all (fun p => Nat.blt p.1 1102 || Nat.blt 1114 p.1) = true) (hc : cl.all (fun p => Nat.blt p 1102 || Nat.blt 1114 p) = true) (hv : ∀ a i, V a i → a < 1102 ∨ 1114 < a) (hT : S1 1079 36 = S 1079 36) : zn_M S1 v :=
  h.same hT (fun a i x y => f a i (zz_nc4 hs ⟨x, y⟩) (zz_nc3 hc ⟨x, y⟩) (fun hV => by have := hv a i hV; omega))
theorem zn_inM {S : zz_S} {a b : Int} {v : zn_T} (h : zn_M S v) : zn_in v a b ↔ (0 ≤ a ∧ a < S 1079 36) ∧ 0 ≤ b ∧ b < S 1079 36 := by
  unfold zn_in
  rw [h.1]
theorem zn_Ms {S : zz_S} {v : zn_T} (h : zn_M S v) {a : Int} (h1 : 0 ≤ a) (h2 : a < S 1079 36) : zn_MT S v a.toNat := h.2.2.1 a.toNat (by have := h.1; omega)
theorem zn_rsM {S : zz_S} {K a b kh kw st ed ch ad : Int} {v : zn_T} (h : zn_M S v) (i : (0 ≤ a ∧ a < S 1079 36) ∧ 0 ≤ b ∧ b < S 1079 36) : zn_rs v K a b kh kw st ed ch ad ↔ zn_res K kh kw st ed ch ad (S 1102 a.toNat) (S 1103 a.toNat) (S 1104 a.toNat) (S 1102 b.toNat) (S 1103 b.toNat) (S 1104 b.toNat) := by
  have p := zn_Ms h i.1.1 i.1.2
  have q := zn_Ms h i.2.1 i.2.2
  rw [p.1, p.2.1, p.2.2.1, q.1, q.2.1, q.2.2.1]
  exact Iff.rfl
theorem zn_nzM {S : zz_S} {K a kh kw st ed ch : Int} {v : zn_T} (h : zn_M S v) (i1 : 0 ≤ a) (i2 : a < S 1079 36) : zn_nz v K a kh kw st ed ch = (zn_out K kh st ed (S 1102 a.toNat) * zn_out K kw st ed (S 1103 a.toNat)) * zn_ch K ch (S 1104 a.toNat) := by
  have p := zn_Ms h i1 i2
  rw [p.1, p.2.1, p.2.2.1]
  rfl
/-- a layer came -/
theorem zn_M.up {sl : List (Nat × Nat)} {cl : List Nat} {V : Nat → Nat → Prop} {S S1 : zz_S} {T : Nat} {v : zn_T} {K a b kh kw st ed sh rl ch ad nm : Int} (h : zn_M S v) (f : zz_fr sl cl V S S1) (hs : sl.all (fun p => Nat.blt p.1 1102 || Nat.blt 1114 p.1) = true) (hc : cl.all (fun p => Nat.blt p 1102 || Nat.blt 1114 p) = true) (hv : ∀ a i, V a i → a < 1102 ∨ 1114 < a ∨ (a ≤ 1104 ∧ i = T) ∨ (a = 1105 ∧ i = T + 1) ∨ (1106 ≤ a ∧ i + 1 = T)) (hT1 : 1 ≤ T) (hT : S 1079 36 = (T : Int)) (ht : S1 1079 36 = (T : Int) + 1) (i1 : 0 ≤ a) (i2 : a < S 1079 36)
    (d10 : S1 1102 T = zn_out K kh st ed (S 1102 a.toNat)) (d11 : S1 1103 T = zn_out K kw st ed (S 1103 a.toNat)) (d12 : S1 1104 T = zn_ch K ch (S 1104 a.toNat)) (d14 : S1 1105 (T + 1) = S 1105 T + (zn_out K kh st ed (S 1102 a.toNat) * zn_out K kw st ed (S 1103 a.toNat)) * zn_ch K ch (S 1104 a.toNat))
    (d0 : S1 1106 (T - 1) = K - 1) (d1 : S1 1107 (T - 1) = a) (d2 : K = 3 → S1 1108 (T - 1) = b) (d3 : S1 1109 (T - 1) = kh) (d4 : S1 1110 (T - 1) = kw) (d5 : S1 1111 (T - 1) = st) (d6 : S1 1112 (T - 1) = ed) (d7 : S1 1113 (T - 1) = sh + 16 * rl) (d9 : K = 1 → S1 1114 (T - 1) = ad) : zn_M S1 (zn_nw v K a b kh kw st ed sh rl ch ad nm) := by
  have key : ∀ a i, 1102 ≤ a → a ≤ 1114 → ¬ (a ≤ 1104 ∧ i = T) → ¬ (a = 1105 ∧ i = T + 1) → ¬ (1106 ≤ a ∧ i + 1 = T) → S1 a i = S a i := by
    intro a i x y n1 n2 n3
    refine f a i (zz_nc4 hs ⟨x, y⟩) (zz_nc3 hc ⟨x, y⟩) (fun hV => ?_)
    have := hv a i hV
    omega
  have hTv : v 15 0 = (T : Int) := h.1.symm.trans hT
  have e0 : zn_nw v K a b kh kw st ed sh rl ch ad nm 15 0 = v 15 0 + 1 := rfl
  have e1 : zn_nw v K a b kh kw st ed sh rl ch ad nm 15 1 = v 15 1 + zn_nz v K a kh kw st ed ch := rfl
  have p := zn_Ms h i1 i2
  have hE : S 1105 T = v 15 1 := by
    have := h.2.1
    rw [hTv] at this
    exact this
  have nN : ∀ s : Nat, s ≠ 15 → zn_nw v K a b kh kw st ed sh rl ch ad nm s T = if s = 0 then K else if s = 1 then a else if s = 2 then b else if s = 3 then kh else if s = 4 then kw else if s = 5 then st else if s = 6 then ed else if s = 7 then sh else if s = 8 then rl else if s = 9 then ad else if s = 10 then zn_out K kh st ed (v 10 a.toNat) else if s = 11 then zn_out K kw st ed (v 11 a.toNat) else if s = 12 then zn_ch K ch (v 12 a.toNat) else if s = 13 then v 15 1 else if s = 14 then nm else 0 := fun s hs => zn_nwN hTv.symm hs
  refine ⟨by rw [ht, e0, hTv], ?_, fun k hk => ?_, fun l hl => ?_⟩
  · rw [e0, e1, hTv, show ((T : Int) + 1).toNat = T + 1 by omega, d14, hE, zn_nzM h i1 i2]
  · rw [e0] at hk
    by_cases e : k = T
    · subst e
      refine ⟨?_, ?_, ?_, ?_⟩
      · rw [nN 10 (by decide), d10, p.1]
        rfl
      · rw [nN 11 (by decide), d11, p.2.1]
        rfl
      · rw [nN 12 (by decide), d12, p.2.2.1]
        rfl
      · rw [nN 13 (by decide), key 1105 _ (by decide) (by decide) (by omega) (by omega) (by omega), hE]
        rfl
    · have g := h.2.2.1 k (by omega)
      have o : ∀ s : Nat, s ≠ 15 → zn_nw v K a b kh kw st ed sh rl ch ad nm s k = v s k := fun s hs => zn_nwo hs (by omega)
      unfold zn_MT at g ⊢
      rw [key 1102 k (by decide) (by decide) (by omega) (by omega) (by omega), key 1103 k (by decide) (by decide) (by omega) (by omega) (by omega), key 1104 k (by decide) (by decide) (by omega) (by omega) (by omega), key 1105 k (by decide) (by decide) (by omega) (by omega) (by omega), o 10 (by decide), o 11 (by decide), o 12 (by decide), o 13 (by decide)]
      exact g
  · rw [e0] at hl
    by_cases e : l + 1 = T
    · have el : l = T - 1 := by omega
      subst el
      unfold zn_ML
      rw [e, nN 0 (by decide), nN 1 (by decide), nN 2 (by decide), nN 3 (by decide), nN 4 (by decide), nN 5 (by decide), nN 6 (by decide), nN 7 (by decide), nN 8 (by decide), nN 9 (by decide)]
      exact ⟨d0, d1, d2, d3, d4, d5, d6, d7, d9⟩
    · have g := h.2.2.2 l (by omega)
      have o : ∀ s : Nat, s ≠ 15 → zn_nw v K a b kh kw st ed sh rl ch ad nm s (l + 1) = v s (l + 1) := fun s hs => zn_nwo hs (by omega)
      unfold zn_ML at g ⊢
      rw [key 1106 l (by decide) (by decide) (by omega) (by omega) (by omega), key 1107 l (by decide) (by decide) (by omega) (by omega) (by omega), key 1108 l (by decide) (by decide) (by omega) (by omega) (by omega), key 1109 l (by decide) (by decide) (by omega) (by omega) (by omega), key 1110 l (by decide) (by decide) (by omega) (by omega) (by omega), key 1111 l (by decide) (by decide) (by omega) (by omega) (by omega), key 1112 l (by decide) (by decide) (by omega) (by omega) (by omega), key 1113 l (by decide) (by decide) (by omega) (by omega) (by omega), key 1114 l (by decide) (by decide) (by omega) (by omega) (by omega)]
      rw [o 0 (by decide), o 1 (by decide), o 2 (by decide), o 3 (by decide), o 4 (by decide), o 5 (by decide), o 6 (by decide), o 7 (by decide), o 8 (by decide), o 9 (by decide)]
      exact g
theorem zn_M.ip {S : zz_S} {h w c nm : Int} (hT : S 1079 36 = 1) (h0 : S 1102 0 = h) (h1 : S 1103 0 = w) (h2 : S 1104 0 = c) (h3 : S 1105 0 = 0) (h4 : S 1105 1 = (h * w) * c) : zn_M S (zn_ip h w c nm) := by
  have e0 : zn_ip h w c nm 15 0 = 1 := rfl
  refine ⟨hT, h4, fun k hk => ?_, fun l hl => ?_⟩
  · have e : k = 0 := by omega
    subst e
    exact ⟨h0, h1, h2, h3⟩
  · omega
theorem zn_M.dp {S S1 : zz_S} {v : zn_T} (h : zn_M S v) (hV : zn_V v) (hT : S1 1079 36 = 1) (h0 : S1 1102 0 = S 1102 0) (h1 : S1 1103 0 = S 1103 0) (h2 : S1 1104 0 = S 1104 0) (h3 : S1 1105 0 = S 1105 0) (h4 : S1 1105 1 = (S 1102 0 * S 1103 0) * S 1104 0) : zn_M S1 (zn_dp v) := by
  have e0 : zn_dp v 15 0 = 1 := rfl
  have hV1 := hV.1
  have g := h.2.2.1 0 (by omega)
  unfold zn_MT at g
  refine ⟨hT, ?_, fun k hk => ?_, fun l hl => ?_⟩
  · show S1 1105 1 = (v 10 0 * v 11 0) * v 12 0
    rw [h4, g.1, g.2.1, g.2.2.1]
  · have e : k = 0 := by omega
    subst e
    exact ⟨h0.trans g.1, h1.trans g.2.1, h2.trans g.2.2.1, h3.trans g.2.2.2⟩
  · omega
/-- what the options told, as the reference keeps it: T the cell of the numbers -/
def zn_T8 (g : Nat → Int) (o : Nat → Int) : Prop := (o 11 = 1 → g 0 = o 1 ∧ g 1 = o 2) ∧ (o 12 = 1 → g 2 = o 3) ∧ g 3 = o 4 ∧ g 4 = o 5 ∧ g 5 = o 6 ∧ g 6 = o 7 ∧ g 7 = o 8
/-- a text under way (reference): b an input was there, line q begins at a, g the names -/
def zn_MI (f : Nat → Int) (n : Int) (b q a : Int) (g : Nat → Int) (S : zz_S) (res : Int × zn_T) : Prop := ∃ v : zn_T, zn_nt f n (1502 - q).toNat a q b v = res ∧ (b = 1 → zn_V v ∧ zn_M S v ∧ (∀ k : Nat, (k : Int) < v 15 0 → g k = v 14 k) ∧ zn_nz0 v)
theorem zn_MI0 {f : Nat → Int} {n : Int} {g : Nat → Int} {S : zz_S} : zn_MI f n 0 0 0 g S (zn_nt f n 1502 0 0 0 zn_v0) := ⟨zn_v0, rfl, fun x => absurd x (by decide)⟩
theorem zn_MI.same {f : Nat → Int} {n b q a : Int} {g g1 : Nat → Int} {S S1 : zz_S} {res : Int × zn_T} (h : zn_MI f n b q a g S res) (hM : ∀ v : zn_T, zn_M S v → zn_M S1 v) (hg : ∀ k : Nat, g1 k = g k) : zn_MI f n b q a g1 S1 res := by
  obtain ⟨v, h1, h2⟩ := h
  refine ⟨v, h1, fun x => ?_⟩
  obtain ⟨y1, y2, y3, y4⟩ := h2 x
  exact ⟨y1, hM v y2, fun k hk => (hg k).trans (y3 k hk), y4⟩
theorem zn_MIB {f : Nat → Int} {n b q a e : Int} {g : Nat → Int} {S : zz_S} {res : Int × zn_T} (h : zn_MI f n b q a g S res) (hq : 0 ≤ q ∧ q ≤ 1500) (ha : a ≤ n) (he : e = zt_U 10 f n a) (h0 : zt_kn f e a = 0) : zn_MI f n b (q + 1) (e + 1) g S res := by
  obtain ⟨v, h1, h2⟩ := h
  refine ⟨v, ?_, h2⟩
  rw [show (1502 - q).toNat = (1502 - (q + 1)).toNat + 1 by omega, zn_ntB (by omega) he h0] at h1
  exact h1
theorem zn_MIE {f : Nat → Int} {n b q a : Int} {g : Nat → Int} {S : zz_S} {res : Int × zn_T} (h : zn_MI f n b q a g S res) (hq : 0 ≤ q ∧ q ≤ 1501) (ha : n < a) : (b = 1 → res.1 = -1 ∧ zn_V res.2 ∧ zn_M S res.2) ∧ (b = 0 → res.1 = q) := by
  obtain ⟨v, h1, h2⟩ := h
  rw [show (1502 - q).toNat = (1502 - (q + 1)).toNat + 1 by omega, zn_ntE ha] at h1
  subst h1
  refine ⟨fun x => ?_, fun x => if_neg (by omega)⟩
  obtain ⟨g1, g2, g3, g4⟩ := h2 x
  exact ⟨if_pos x, g1, g2⟩
theorem zn_MIL {f : Nat → Int} {n q a e c r : Int} {g g1 : Nat → Int} {S S1 : zz_S} {res : Int × zn_T} (h : zn_MI f n 1 q a g S res) (hq : 0 ≤ q ∧ q ≤ 1500) (ha : a ≤ n) (he : e = zt_U 10 f n a) (hc : c = zt_U 35 f e a) (h0 : zt_km f c a ≠ 0) (hg : ∀ v : zn_T, zn_V v → zn_M S v → (∀ k : Nat, (k : Int) < v 15 0 → g k = v 14 k) → (r = 1 ∧ zn_lg (zt_km f c) (zt_tn f c) (zt_tv f c) (zt_kd f c) v a ∧ zn_M S1 (zn_lv (zt_km f c) (zt_tn f c) (zt_tv f c) (zt_kd f c) v a) ∧ g1 (v 15 0).toNat = zn_lo (zt_km f c) (zt_tn f c) (zt_tv f c) (zt_kd f c) v a 9 ∧ ∀ k : Nat, (k : Int) ≠ v 15 0 → g1 k = g k) ∨ (r = 0 ∧ ¬ zn_lg (zt_km f c) (zt_tn f c) (zt_tv f c) (zt_kd f c) v a)) : (r = 1 → zn_MI f n 1 (q + 1) (e + 1) g1 S1 res) ∧ (r = 0 → res.1 = q) := by
  obtain ⟨v, h1, h2⟩ := h
  obtain ⟨y1, y2, y3, y4⟩ := h2 rfl
  have hb := (zt_Ub (c := 10) (f := f) ha).1
  rw [← he] at hb
  have hb2 := (zt_Ub (c := 35) (f := f) hb.1).1
  rw [← hc] at hb2
  have tq := zn_tqk hc hb.1
  have lq := zn_lq (v := v) tq ⟨Int.le_refl a, hb2.1⟩
  have k0 : zt_kn f e a ≠ 0 := by
    rw [← (tq a (Int.le_refl a) hb2.1).1]
    exact h0
  rw [show (1502 - q).toNat = (1502 - (q + 1)).toNat + 1 by omega] at h1
  have y1' := y1.1
  rcases hg v y1 y2 y3 with x | x
  · refine ⟨fun _ => ?_, fun z => by omega⟩
    obtain ⟨_, x1, x2, x3, x4⟩ := x
    rw [zn_ntL (by omega) he k0 (lq.1.mp x1)] at h1
    have V := zn_Vlv y1 (lq.1.mp x1)
    have N := zn_lvn (tk := zt_kn f e) (te := zt_te f e) (tv := zt_tv f e) (wc := zt_kc f e) (p := a) y1
    refine ⟨_, h1, fun _ => ⟨V.1, by rw [← lq.2.1]; exact x2, fun k hk => ?_, fun i hi h11 => ?_⟩⟩
    · rw [N.1] at hk
      rcases (by omega : (k : Int) = v 15 0 ∨ (k : Int) < v 15 0) with e1 | e1
      · have e2 : k = (v 15 0).toNat := by omega
        rw [e2, N.2.1, x3, lq.2.2]
      · rw [x4 k (by omega), N.2.2 k (by omega)]
        exact y3 k e1
    · rw [N.1] at hi
      rw [N.2.2 i (by omega)]
      exact y4 i (by omega) h11
  · refine ⟨fun z => by omega, fun _ => ?_⟩
    rw [zn_ntN (by omega) he k0 (fun w => x.2 (lq.1.mpr w))] at h1
    rw [← h1]
theorem zn_MII {f : Nat → Int} {n q a e c r : Int} {g g1 : Nat → Int} {S S1 : zz_S} {res : Int × zn_T} (h : zn_MI f n 0 q a g S res) (hq : 0 ≤ q ∧ q ≤ 1500) (ha : a ≤ n) (he : e = zt_U 10 f n a) (hc : c = zt_U 35 f e a) (h0 : zt_km f c a ≠ 0) (hg : (r = 1 ∧ zn_ig (zt_km f c) (zt_tn f c) (zt_tv f c) (zt_kd f c) a ∧ zn_M S1 (zn_iv (zt_km f c) (zt_tn f c) (zt_tv f c) (zt_kd f c) a) ∧ g1 0 = zn_io (zt_km f c) (zt_tn f c) (zt_tv f c) (zt_kd f c) (zt_tn f c (zt_tn f c (zt_tn f c (zt_tn f c (zt_tn f c (zt_tn f c a)))))) 9) ∨ (r = 0 ∧ ¬ zn_ig (zt_km f c) (zt_tn f c) (zt_tv f c) (zt_kd f c) a)) : (r = 1 → zn_MI f n 1 (q + 1) (e + 1) g1 S1 res) ∧ (r = 0 → res.1 = q) := by
  obtain ⟨v, h1, h2⟩ := h
  have hb := (zt_Ub (c := 10) (f := f) ha).1
  rw [← he] at hb
  have hb2 := (zt_Ub (c := 35) (f := f) hb.1).1
  rw [← hc] at hb2
  have tq := zn_tqk hc hb.1
  have iq := zn_iq tq ⟨Int.le_refl a, hb2.1⟩
  have k0 : zt_kn f e a ≠ 0 := by
    rw [← (tq a (Int.le_refl a) hb2.1).1]
    exact h0
  rw [show (1502 - q).toNat = (1502 - (q + 1)).toNat + 1 by omega] at h1
  rcases hg with x | x
  · refine ⟨fun _ => ?_, fun z => by omega⟩
    obtain ⟨_, x1, x2, x3⟩ := x
    have g9 := iq.1.mp x1
    rw [zn_ntI (by omega) he k0 g9] at h1
    have fp := g9.2.2.2.2.2.2.2
    refine ⟨_, h1, fun _ => ⟨zn_Vip fp.1 fp.2.1 fp.2.2.1 fp.2.2.2, by rw [← iq.2.1]; exact x2, fun k hk => ?_, fun i hi _ => ?_⟩⟩
    · have hk1 : (k : Int) < 1 := hk
      have e2 : k = 0 := by omega
      subst e2
      rw [x3, iq.2.2]
      rfl
    · have hi1 : (1 : Int) ≤ (i : Int) := hi
      show (if i = 0 then _ else (0 : Int)) = 0
      rw [if_neg (by omega)]
  · refine ⟨fun z => by omega, fun _ => ?_⟩
    rw [zn_ntJ (by omega) he k0 (fun w => x.2 (iq.1.mpr w))] at h1
    rw [← h1]
/-- the network that was kept came back -/
theorem zn_M.kept {S S1 : zz_S} {v : zn_T} (h : zn_M S v) (hV : zn_V v) (hT : S1 1079 36 = S 1079 36) (k0 : ∀ u : Nat, u < 11 → S1 1102 u = S 1102 u) (k1 : ∀ u : Nat, u < 11 → S1 1103 u = S 1103 u) (k2 : ∀ u : Nat, u < 11 → S1 1104 u = S 1104 u) (k3 : ∀ u : Nat, u < 12 → S1 1105 u = S 1105 u) (k4 : ∀ u : Nat, u < 10 → S1 1106 u = S 1106 u) (k5 : ∀ u : Nat, u < 10 → S1 1107 u = S 1107 u) (k6 : ∀ u : Nat, u < 10 → S1 1108 u = S 1108 u) (k7 : ∀ u : Nat, u < 10 → S1 1109 u = S 1109 u) (k8 : ∀ u : Nat, u < 10 → S1 1110 u = S 1110 u) (k9 : ∀ u : Nat, u < 10 → S1 1111 u = S 1111 u) (k10 : ∀ u : Nat, u < 10 → S1 1112 u = S 1112 u) (k11 : ∀ u : Nat, u < 10 → S1 1113 u = S 1113 u) (k12 : ∀ u : Nat, u < 10 → S1 1114 u = S 1114 u) : zn_M S1 v := by
  have hV1 := hV.1
  obtain ⟨h1, h2, h3, h4⟩ := h
  refine ⟨hT.trans h1, (k3 _ (by omega)).trans h2, fun k hk => ?_, fun l hl => ?_⟩
  · have g := h3 k hk
    unfold zn_MT at g ⊢
    rw [k0 k (by omega), k1 k (by omega), k2 k (by omega), k3 k (by omega)]
    exact g
  · have g := h4 l hl
    unfold zn_ML at g ⊢
    rw [k4 l (by omega), k5 l (by omega), k6 l (by omega), k7 l (by omega), k8 l (by omega), k9 l (by omega), k10 l (by omega), k11 l (by omega), k12 l (by omega)]
    exact g
/-! Places anew (reference). -/
def zn_NF (S : zz_S) (v : zn_T) (k : Nat) : Prop := S 1102 k = v 10 k ∧ S 1103 k = v 11 k ∧ S 1104 k = v 12 k
def zn_NL (S : zz_S) (v : zn_T) (l : Nat) : Prop := S 1106 l = v 0 (l + 1) - 1 ∧ S 1107 l = v 1 (l + 1) ∧ (v 0 (l + 1) = 3 → S 1108 l = v 2 (l + 1))
/-- it shows v but for the places -/
def zn_N (S : zz_S) (v : zn_T) : Prop := S 1079 36 = v 15 0 ∧ (∀ k : Nat, (k : Int) < v 15 0 → zn_NF S v k) ∧ ∀ l : Nat, (l : Int) + 1 < v 15 0 → zn_NL S v l
theorem zn_N.of {S : zz_S} {v : zn_T} (h : zn_M S v) : zn_N S v := by
  refine ⟨h.1, fun k hk => ?_, fun l hl => ?_⟩
  · have g := h.2.2.1 k hk
    exact ⟨g.1, g.2.1, g.2.2.1⟩
  · have g := h.2.2.2 l hl
    exact ⟨g.1, g.2.1, g.2.2.1⟩
theorem zn_N.same {S S1 : zz_S} {v : zn_T} (h : zn_N S v) (hT : S1 1079 36 = S 1079 36) (hs : ∀ a i : Nat, 1102 ≤ a → a ≤ 1108 → a ≠ 1105 → S1 a i = S a i) : zn_N S1 v := by
  obtain ⟨h1, h2, h3⟩ := h
  refine ⟨hT.trans h1, fun k hk => ?_, fun l hl => ?_⟩
  · have g := h2 k hk
    unfold zn_NF at g ⊢
    rw [hs 1102 k (by decide) (by decide) (by decide), hs 1103 k (by decide) (by decide) (by decide), hs 1104 k (by decide) (by decide) (by decide)]
    exact g
  · have g := h3 l hl
    unfold zn_NL at g ⊢
    rw [hs 1106 l (by decide) (by decide) (by decide), hs 1107 l (by decide) (by decide) (by decide), hs 1108 l (by decide) (by decide) (by decide)]
    exact g
theorem zn_N.tk {S : zz_S} {v : zn_T} (h : zn_N S v) {l t : Int} (l1 : 0 ≤ l) (l2 : l + 1 < v 15 0) : (S 1107 l.toNat = t ∨ (S 1106 l.toNat = 2 ∧ S 1108 l.toNat = t)) ↔ zn_tk v (l + 1) t := by
  have g := h.2.2 l.toNat (by omega)
  unfold zn_NL at g
  rw [show l.toNat + 1 = (l + 1).toNat by omega] at g
  obtain ⟨g1, g2, g3⟩ := g
  unfold zn_tk
  constructor
  · intro x
    rcases x with x | x
    · exact Or.inl (by omega)
    · have y : v 0 (l + 1).toNat = 3 := by omega
      have z := g3 y
      exact Or.inr ⟨y, by omega⟩
  · intro x
    rcases x with x | x
    · exact Or.inl (by omega)
    · have z := g3 x.1
      exact Or.inr ⟨by omega, by omega⟩
/-- is it needed, so far (reference) -/
def zn_RN (S : zz_S) (t q x y k : Int) : Prop := ∀ v : zn_T, zn_N S v → ((x = 1 ∧ ∃ j : Int, 1 ≤ j ∧ j < k ∧ zn_tk v j t) ∨ (x = 0 ∧ ¬ ∃ j : Int, 1 ≤ j ∧ j < k ∧ zn_tk v j t)) ∧ ((y = 1 ∧ ∃ j : Int, 1 ≤ j ∧ q ≤ j ∧ j < k ∧ zn_tk v j t) ∨ (y = 0 ∧ ¬ ∃ j : Int, 1 ≤ j ∧ q ≤ j ∧ j < k ∧ zn_tk v j t))
theorem zn_RN0 {S : zz_S} {t q : Int} : zn_RN S t q 0 0 1 := by
  intro v _
  exact ⟨Or.inr ⟨rfl, fun ⟨j, a, b, _⟩ => by omega⟩, Or.inr ⟨rfl, fun ⟨j, a, _, b, _⟩ => by omega⟩⟩
theorem zn_RNs {S : zz_S} {t q x y k x1 y1 k1 l : Int} (h : zn_RN S t q x y k) (hk : k = l + 1) (l1 : 0 ≤ l) (l2 : l + 1 < S 1079 36) (e : k1 = k + 1) (hx : (x1 = 1 ∧ (x = 1 ∨ (S 1107 l.toNat = t ∨ (S 1106 l.toNat = 2 ∧ S 1108 l.toNat = t)))) ∨ (x1 = 0 ∧ x = 0 ∧ ¬ (S 1107 l.toNat = t ∨ (S 1106 l.toNat = 2 ∧ S 1108 l.toNat = t)))) (hy : (y1 = 1 ∧ (y = 1 ∨ (q ≤ k ∧ (S 1107 l.toNat = t ∨ (S 1106 l.toNat = 2 ∧ S 1108 l.toNat = t))))) ∨ (y1 = 0 ∧ y = 0 ∧ (k < q ∨ ¬ (S 1107 l.toNat = t ∨ (S 1106 l.toNat = 2 ∧ S 1108 l.toNat = t))))) : zn_RN S t q x1 y1 k1 := by
  intro v hN
  have g := h v hN
  have tk := zn_N.tk hN (l := l) (t := t) l1 (by have := hN.1; omega)
  rw [← hk] at tk
  rw [tk] at hx hy
  subst e
  refine ⟨?_, ?_⟩
  · rcases hx with ⟨a, b⟩ | ⟨a, b, c⟩
    · refine Or.inl ⟨a, ?_⟩
      rcases b with b | b
      · rcases g.1 with d | d
        · obtain ⟨j, j1, j2, j3⟩ := d.2
          exact ⟨j, j1, by omega, j3⟩
        · omega
      · exact ⟨k, by omega, by omega, b⟩
    · refine Or.inr ⟨a, fun ⟨j, j1, j2, j3⟩ => ?_⟩
      rcases (by omega : j = k ∨ j < k) with q | q
      · rw [q] at j3
        exact c j3
      · rcases g.1 with d | d
        · omega
        · exact d.2 ⟨j, j1, q, j3⟩
  · rcases hy with ⟨a, b⟩ | ⟨a, b, c⟩
    · refine Or.inl ⟨a, ?_⟩
      rcases b with b | b
      · rcases g.2 with d | d
        · obtain ⟨j, j1, j2, j3, j4⟩ := d.2
          exact ⟨j, j1, j2, by omega, j4⟩
        · omega
      · exact ⟨k, by omega, b.1, by omega, b.2⟩
    · refine Or.inr ⟨a, fun ⟨j, j1, j2, j3, j4⟩ => ?_⟩
      rcases (by omega : j = k ∨ j < k) with q | q
      · rw [q] at j4 j2
        rcases c with c | c
        · omega
        · exact c j4
      · rcases g.2 with d | d
        · omega
        · exact d.2 ⟨j, j1, j2, q, j4⟩
def zn_RD (S : zz_S) (t q r : Int) : Prop := ∀ v : zn_T, zn_N S v → (r = 1 ∧ zn_nd8 v t q) ∨ (r = 0 ∧ ¬ zn_nd8 v t q)
theorem zn_RDe {S : zz_S} {t q x y k r : Int} (h : zn_RN S t q x y k) (hk : k = S 1079 36 ∨ (k = 1 ∧ S 1079 36 ≤ 1)) (hr : (r = 1 ∧ (y ≠ 0 ∨ x = 0)) ∨ (r = 0 ∧ y = 0 ∧ x ≠ 0)) : zn_RD S t q r := by
  intro v hN
  have g := h v hN
  have e := hN.1
  unfold zn_nd8
  rcases hr with ⟨a, b⟩ | ⟨a, b, c⟩
  · refine Or.inl ⟨a, ?_⟩
    rcases (by omega : y ≠ 0 ∨ (y = 0 ∧ x = 0)) with d | d
    · rcases g.2 with f | f
      · obtain ⟨j, j1, j2, j3, j4⟩ := f.2
        exact Or.inl ⟨j, j1, j2, by omega, j4⟩
      · omega
    · rcases g.1 with f | f
      · omega
      · exact Or.inr (fun ⟨j, j1, j2, j3⟩ => f.2 ⟨j, j1, by omega, j3⟩)
  · refine Or.inr ⟨a, fun n => ?_⟩
    rcases n with ⟨j, j1, j2, j3, j4⟩ | n
    · rcases g.2 with f | f
      · omega
      · exact f.2 ⟨j, j1, j2, by omega, j4⟩
    · rcases g.1 with f | f
      · obtain ⟨j, j1, j2, j3⟩ := f.2
        exact n ⟨j, j1, by omega, j3⟩
      · omega
/-- does a spot meet one of the tensors ahead of x? -/
theorem zn_szN {S : zz_S} {v : zn_T} (h : zn_N S v) {k : Int} (k1 : 0 ≤ k) (k2 : k < v 15 0) : (S 1102 k.toNat * S 1103 k.toNat) * S 1104 k.toNat = zn_sz v k.toNat := by
  have g := h.2.1 k.toNat (by omega)
  rw [g.1, g.2.1, g.2.2]
  rfl
def zn_RM (S : zz_S) (p s x k : Int) : Prop := ∀ v : zn_T, zn_N S v → p < v 15 0 → (x = 1 ∧ ∃ t : Int, 0 ≤ t ∧ t < k ∧ zn_nd8 v t p ∧ s < S 1105 t.toNat + zn_sz v t.toNat ∧ S 1105 t.toNat < s + zn_sz v p.toNat) ∨ (x = 0 ∧ ∀ t : Int, 0 ≤ t → t < k → zn_nd8 v t p → ¬ (s < S 1105 t.toNat + zn_sz v t.toNat ∧ S 1105 t.toNat < s + zn_sz v p.toNat))
theorem zn_RM0 {S : zz_S} {p s : Int} : zn_RM S p s 0 0 := fun v _ _ => Or.inr ⟨rfl, fun t t1 t2 => by omega⟩
theorem zn_RMy {S : zz_S} {p s k : Int} (h : zn_RM S p s 1 k) : zn_RM S p s 1 (k + 1) := by
  intro v hN hp
  rcases h v hN hp with ⟨a, t, t1, t2, t3⟩ | ⟨a, _⟩
  · exact Or.inl ⟨a, t, t1, by omega, t3⟩
  · omega
theorem zn_RMn {S : zz_S} {p s k : Int} (h : zn_RM S p s 0 k) (hk : 0 ≤ k) (hn : zn_RD S k p 0 ∨ (∃ w : Int, w = (S 1102 k.toNat * S 1103 k.toNat) * S 1104 k.toNat ∧ S 1105 k.toNat + w ≤ s) ∨ (∃ w : Int, w = (S 1102 p.toNat * S 1103 p.toNat) * S 1104 p.toNat ∧ s + w ≤ S 1105 k.toNat)) (hkp : k < p) : zn_RM S p s 0 (k + 1) := by
  intro v hN hp
  rcases h v hN hp with ⟨a, _⟩ | ⟨a, g⟩
  · omega
  · refine Or.inr ⟨a, fun t t1 t2 hd x => ?_⟩
    rcases (by omega : t = k ∨ t < k) with q | q
    · rw [q] at hd x
      rcases hn with n | ⟨w, w1, w2⟩ | ⟨w, w1, w2⟩
      · rcases n v hN with m | m
        · omega
        · exact m.2 hd
      · rw [zn_szN hN hk (by omega)] at w1
        omega
      · rw [zn_szN hN (by omega) hp] at w1
        omega
    · exact g t t1 q hd x
theorem zn_RMs {S : zz_S} {p s k w u x : Int} (hk : 0 ≤ k) (hkp : k < p) (hd : zn_RD S k p 1) (hw : w = (S 1102 k.toNat * S 1103 k.toNat) * S 1104 k.toNat) (h1 : s < S 1105 k.toNat + w) (hu : u = (S 1102 p.toNat * S 1103 p.toNat) * S 1104 p.toNat) (h2 : S 1105 k.toNat < s + u) (hx : x = 1) : zn_RM S p s x (k + 1) := by
  intro v hN hp
  rw [zn_szN hN hk (by omega)] at hw
  rw [zn_szN hN (by omega) hp] at hu
  refine Or.inl ⟨hx, k, hk, by omega, ?_, by omega, by omega⟩
  rcases hd v hN with m | m
  · exact m.2
  · omega
def zn_RF (S : zz_S) (p s r : Int) : Prop := ∀ v : zn_T, zn_N S v → p < v 15 0 → (r = 1 ∧ ¬ zn_fe v (S 1105) p s) ∨ (r = 0 ∧ zn_fe v (S 1105) p s)
theorem zn_RFe {S : zz_S} {p s x k : Int} (h : zn_RM S p s x k) (hk : k = p) : zn_RF S p s x := by
  intro v hN hp
  subst hk
  rcases h v hN hp with ⟨a, t, t1, t2, t3, t4, t5⟩ | ⟨a, g⟩
  · exact Or.inl ⟨a, fun f => f t t1 t2 t3 ⟨t4, t5⟩⟩
  · exact Or.inr ⟨a, g⟩
/-- all places, under way: k tensors have theirs, which end at m -/
def zn_RP (S0 S : zz_S) (m k : Int) : Prop := ∀ v : zn_T, zn_N S0 v → zn_V v → zn_pl v (S 1105) k ∧ (∀ j : Int, 0 ≤ j → j < k → S 1105 j.toNat + zn_sz v j.toNat ≤ m) ∧ ∃ j : Int, 0 ≤ j ∧ j < k ∧ S 1105 j.toNat + zn_sz v j.toNat = m
def zn_RQ (S0 S : zz_S) (k s : Int) : Prop := ∀ v : zn_T, zn_N S0 v → zn_V v → ∀ u : Int, 0 ≤ u → u < s → ¬ zn_fe v (S 1105) k u
theorem zn_RP1 {S0 S : zz_S} {w : Int} (h0 : S 1105 0 = 0) (hw : w = (S0 1102 0 * S0 1103 0) * S0 1104 0) : zn_RP S0 S w 1 := by
  intro v hN hV
  have hV1 := hV.1
  have e := zn_szN hN (k := 0) (by decide) (by omega)
  have e1 : (S0 1102 0 * S0 1103 0) * S0 1104 0 = zn_sz v 0 := e
  refine ⟨zn_pl1 h0, fun j j1 j2 => ?_, 0, by decide, by decide, ?_⟩
  · rw [show j.toNat = 0 by omega, h0, hw, e1]
    omega
  · show S 1105 0 + zn_sz v 0 = w
    rw [h0, hw, e1]
    omega
theorem zn_RQ0 {S0 S : zz_S} {k : Int} : zn_RQ S0 S k 0 := fun v _ _ u u1 u2 => by omega
theorem zn_RQs {S0 S : zz_S} {k s : Int} (h : zn_RQ S0 S k s) (hN : ∀ v : zn_T, zn_N S0 v → zn_N S v) (hk : k < S0 1079 36) (hf : zn_RF S k s 1) : zn_RQ S0 S k (s + 1) := by
  intro v n hV u u1 u2
  rcases (by omega : u = s ∨ u < s) with q | q
  · rw [q]
    rcases hf v (hN v n) (by have := n.1; omega) with m | m
    · exact m.2
    · omega
  · exact h v n hV u u1 q
theorem zn_RPs {S0 S S1 : zz_S} {m k s w m1 : Int} (h : zn_RP S0 S m k) (hq : zn_RQ S0 S k s) (hN : ∀ v : zn_T, zn_N S0 v → zn_N S v) (hk : 1 ≤ k ∧ k < S0 1079 36) (hs : 0 ≤ s) (hf : zn_RF S k s 0) (e : S1 = zz_st S 1105 k.toNat s) (hw : w = (S0 1102 k.toNat * S0 1103 k.toNat) * S0 1104 k.toNat) (hm : (m1 = m ∧ s + w ≤ m) ∨ (m1 = s + w ∧ m < s + w)) : zn_RP S0 S1 m1 (k + 1) := by
  intro v n hV
  obtain ⟨g1, g2, j, j1, j2, j3⟩ := h v n hV
  have n1 := n.1
  have hB : ∀ t : Int, 0 ≤ t → t < k → S 1105 t.toNat = S1 1105 t.toNat := fun t t1 t2 => (zz_ro e (fun x => by omega) rfl).symm
  have hk9 : S1 1105 k.toNat = s := zz_rs e
  rw [zn_szN n (by omega) (by omega)] at hw
  have l : zn_ls v (S 1105) k s := by
    refine ⟨hs, ?_, hq v n hV⟩
    rcases hf v (hN v n) (by omega) with x | x
    · omega
    · exact x.2
  refine ⟨zn_plS g1 hk.1 hB (by rw [hk9]; exact l), fun i i1 i2 => ?_, ?_⟩
  · rcases (by omega : i = k ∨ i < k) with q | q
    · rw [q, hk9]
      omega
    · rw [← hB i i1 q]
      have := g2 i i1 q
      omega
  · rcases hm with x | x
    · exact ⟨j, j1, by omega, by rw [← hB j j1 j2]; omega⟩
    · exact ⟨k, by omega, by omega, by rw [hk9]; omega⟩
/-- places of all -/
def zn_RA (S0 S : zz_S) (r : Int) : Prop := ∀ v : zn_T, zn_N S0 v → zn_V v → zn_PL v (S 1105) r ∧ S 1105 (v 15 0).toNat = r ∧ zn_N S v
theorem zn_RAe {S0 S S1 : zz_S} {m k : Int} (h : zn_RP S0 S m k) (hk : k = S0 1079 36) (e : S1 = zz_st S 1105 k.toNat m) (hN : ∀ v : zn_T, zn_N S0 v → zn_N S1 v) : zn_RA S0 S1 m := by
  intro v n hV
  obtain ⟨g1, g2, j, j1, j2, j3⟩ := h v n hV
  have n1 := n.1
  have hV1 := hV.1
  have hB : ∀ t : Int, 0 ≤ t → t < k → S 1105 t.toNat = S1 1105 t.toNat := fun t t1 t2 => (zz_ro e (fun x => by omega) rfl).symm
  have ek : k = v 15 0 := by omega
  subst ek
  refine ⟨⟨zn_plB g1 (by omega) hB, fun i i1 i2 => by rw [← hB i i1 i2]; exact g2 i i1 i2, j, j1, j2, by rw [← hB j j1 j2]; exact j3⟩, zz_rs e, hN v n⟩
/-- place of the reference -/
def zn_MP (S0 S : zz_S) (h r : Int) : Prop := ∀ v : zn_T, zn_M S0 v → zn_V v → (h = 0 ∧ ∃ B : Nat → Int, zn_PL v B r ∧ r ≤ 2048 ∧ zn_M S (zn_rp v B r)) ∨ (h = 1 ∧ (∃ (B : Nat → Int) (m : Int), zn_PL v B m ∧ 2048 < m) ∧ zn_M S v)
theorem zn_MPy {S0 S1 S : zz_S} {r : Int} (h : zn_RA S0 S1 r) (hr : r ≤ 2048) (hT : S 1079 36 = S1 1079 36) (hs : ∀ a i : Nat, 1102 ≤ a → a ≤ 1114 → S a i = S1 a i) (h0 : ∀ a i : Nat, 1102 ≤ a → a ≤ 1114 → a ≠ 1105 → S1 a i = S0 a i) : zn_MP S0 S 0 r := by
  intro v hM hV
  obtain ⟨g1, g2, g3⟩ := h v (zn_N.of hM) hV
  refine Or.inl ⟨rfl, S1 1105, g1, hr, ?_⟩
  have M1 : zn_M S1 (zn_rp v (S1 1105) r) := by
    refine ⟨g3.1, g2, fun k hk => ?_, fun l hl => ?_⟩
    · have x := g3.2.1 k hk
      exact ⟨x.1, x.2.1, x.2.2, rfl⟩
    · have x := hM.2.2.2 l hl
      have y : zn_ML S1 v l := by
        unfold zn_ML at x ⊢
        rw [h0 1106 l (by decide) (by decide) (by decide), h0 1107 l (by decide) (by decide) (by decide), h0 1108 l (by decide) (by decide) (by decide), h0 1109 l (by decide) (by decide) (by decide), h0 1110 l (by decide) (by decide) (by decide), h0 1111 l (by decide) (by decide) (by decide), h0 1112 l (by decide) (by decide) (by decide), h0 1113 l (by decide) (by decide) (by decide), h0 1114 l (by decide) (by decide) (by decide)]
        exact x
      exact y
  exact M1.same hT hs
def zn_RB (S0 : zz_S) : Prop := ∀ v : zn_T, zn_N S0 v → zn_V v → ∃ (B : Nat → Int) (m : Int), zn_PL v B m ∧ 2048 < m
theorem zn_RBi {S0 S1 : zz_S} {m : Int} (h : zn_RA S0 S1 m) (hm : 2048 < m) : zn_RB S0 := fun v n hV => ⟨_, m, (h v n hV).1, hm⟩
theorem zn_RAm {S0 S S1 : zz_S} {m : Int} (h : zn_RA S S1 m) (hN : ∀ v : zn_T, zn_N S0 v → zn_N S v) : zn_RA S0 S1 m := fun v n hV => h v (hN v n) hV
theorem zn_MPn {S0 S : zz_S} {r : Int} (h : zn_RB S0) (hT : S 1079 36 = S0 1079 36) (hs : ∀ a i : Nat, 1102 ≤ a → a ≤ 1114 → a ≠ 1105 → S a i = S0 a i) (h5 : ∀ i : Nat, i < 12 → S 1105 i = S0 1105 i) : zn_MP S0 S 1 r := by
  intro v hM hV
  refine Or.inr ⟨rfl, h v (zn_N.of hM) hV, ?_⟩
  have hV1 := hV.1
  obtain ⟨h1, h2, h3, h4⟩ := hM
  refine ⟨hT.trans h1, (h5 _ (by omega)).trans h2, fun k hk => ?_, fun l hl => ?_⟩
  · have g := h3 k hk
    unfold zn_MT at g ⊢
    rw [hs 1102 k (by decide) (by decide) (by decide), hs 1103 k (by decide) (by decide) (by decide), hs 1104 k (by decide) (by decide) (by decide), h5 k (by omega)]
    exact g
  · have x := h4 l hl
    unfold zn_ML at x ⊢
    rw [hs 1106 l (by decide) (by decide) (by decide), hs 1107 l (by decide) (by decide) (by decide), hs 1108 l (by decide) (by decide) (by decide), hs 1109 l (by decide) (by decide) (by decide), hs 1110 l (by decide) (by decide) (by decide), hs 1111 l (by decide) (by decide) (by decide), hs 1112 l (by decide) (by decide) (by decide), hs 1113 l (by decide) (by decide) (by decide), hs 1114 l (by decide) (by decide) (by decide)]
    exact x
/-- the same places: the reference shows them too -/
theorem zn_M.ext {S : zz_S} {v : zn_T} {B B1 : Nat → Int} {m : Int} (hV : zn_V v) (hB : ∀ j : Int, 0 ≤ j → j < v 15 0 → B j.toNat = B1 j.toNat) (h : zn_M S (zn_rp v B1 m)) : zn_M S (zn_rp v B m) := by
  obtain ⟨h1, h2, h3, h4⟩ := h
  refine ⟨h1, h2, fun k hk => ?_, h4⟩
  have hk2 : (k : Int) < v 15 0 := hk
  obtain ⟨g1, g2, g3, g4⟩ := h3 k hk
  have g5 : S 1105 k = B1 k := g4
  have e := hB (k : Int) (by omega) hk2
  rw [show ((k : Nat) : Int).toNat = k by omega] at e
  exact ⟨g1, g2, g3, g5.trans e.symm⟩
theorem zn_no8 {tk te tv wc : Int → Int} {A : Int → Prop} {N : Nat → Int} {T : Nat} (k : Nat) : ∀ (d w p : Int) (o : Nat → Int), (0 ≤ o 8 ∧ o 8 ≤ 1) → 0 ≤ zt_no tk te tv wc A N T k d w p o 8 ∧ zt_no tk te tv wc A N T k d w p o 8 ≤ 1 := by
  induction k with
  | zero =>
    intro d w p o h
    exact h
  | succ k ih =>
    intro d w p o h
    by_cases hd : d = 0
    · rw [zt_no0 hd]
      exact h
    · by_cases hb : zt_ob d w = 0 ∨ ¬ A (zt_ob d w) ∨ o (10 + (zt_ob d w).toNat) = 1 ∨ ¬ zt_og tk te wc N T (zt_ob d w) p
      · rw [zt_noN hd hb]
        exact h
      · rw [zt_noS hd hb]
        refine ih _ _ _ _ ?_
        have b := zt_obb d w
        by_cases h7 : zt_ob d w = 7
        · have e : zt_ou te tv wc (zt_ob d w) p o 8 = 1 := by
            unfold zt_ou
            rw [if_neg (by omega), if_neg (by omega), if_neg (by omega), if_neg (by omega), if_pos (by omega)]
          rw [e]
          decide
        · have e : zt_ou te tv wc (zt_ob d w) p o 8 = o 8 := by
            unfold zt_ou
            rw [if_neg (by omega), if_neg (by omega), if_neg (by omega), if_neg (by omega), if_neg (by omega), if_neg (by omega)]
          rw [e]
          exact h
theorem zn_lo8 {tk te tv wc : Int → Int} {v : zn_T} {p : Int} : 0 ≤ zn_lo tk te tv wc v p 8 ∧ zn_lo tk te tv wc v p 8 ≤ 1 := zn_no8 1600 _ _ _ _ (by show (0 : Int) ≤ 0 ∧ (0 : Int) ≤ 1; decide)

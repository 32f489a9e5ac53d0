/-! The law: both sides show the same network. By hand. -/
def zn_A (S : zz_S) : Prop := S 1000 7 + S 1000 8 = 1 ∧ ∃ v : zn_T, zn_V v ∧ (zn_W v ∧ zs_Q v) ∧ zn_C S (S 1000 7) v ∧ zn_M S v
theorem zn_C.out {sl : List (Nat × Nat)} {cl : List Nat} {V : Nat → Nat → Prop} {S S1 : zz_S} {q : Int} {v : zn_T} (h : zn_C S q v) (hV : zn_V v) (hq : 0 ≤ q ∧ q ≤ 1) (f : zz_fr sl cl V S S1) (hs : sl.all (fun p => Nat.blt p.1 1001 || Nat.blt 1028 p.1) = true) (hc : cl.all (fun p => Nat.blt p 1001 || Nat.blt 1028 p) = true) (hv : ∀ a i, V a i → a < 1001 ∨ 1028 < a) : zn_C S1 q v := by
  have h3 := zz_rf3 hq
  have hV1 := hV.1
  refine h.same (f _ _ (zz_out1 hs (by omega)) (zz_out2 hc (by omega)) (fun x => by have := hv _ _ x; omega)) (fun k k1 k2 s _ => ?_)
  have h6 := zz_rf6 (z := 12 * q + k) (by omega)
  exact f _ _ (zz_out1 hs (by omega)) (zz_out2 hc (by omega)) (fun x => by have := hv _ _ x; omega)
theorem zn_C.put {S S1 : zz_S} {q z : Int} {v : zn_T} {a i : Nat} (h : zn_C S q v) (hV : zn_V v) (hq : 0 ≤ q ∧ q ≤ 1) (e : S1 = zz_st S a i z) (ha : a < 1001 ∨ 1028 < a) : zn_C S1 q v :=
  h.out hV hq (zz_fr.put1 e) rfl rfl (fun b j x => by omega)
/-- a step that touches neither side's network -/
theorem zn_A.fr {sl : List (Nat × Nat)} {cl : List Nat} {V : Nat → Nat → Prop} {S S1 : zz_S} (h : zn_A S) (f : zz_fr sl cl V S S1) (hs : sl.all (fun p => Nat.blt p.1 1001 || Nat.blt 1028 p.1) = true) (hc : cl.all (fun p => Nat.blt p 1001 || Nat.blt 1028 p) = true) (hv : ∀ a i, V a i → a < 1001 ∨ (1028 < a ∧ a < 1102) ∨ 1114 < a) (hs2 : sl.all (fun p => Nat.blt p.1 1102 || Nat.blt 1114 p.1) = true) (hc2 : cl.all (fun p => Nat.blt p 1102 || Nat.blt 1114 p) = true) (h7 : S1 1000 7 = S 1000 7) (h8 : S1 1000 8 = S 1000 8) (hT : S1 1079 36 = S 1079 36) (G : 0 ≤ S 1000 7 ∧ S 1000 7 ≤ 1) : zn_A S1 := by
  obtain ⟨h1, v, hV, hW, hC, hM⟩ := h
  refine ⟨by omega, v, hV, hW, ?_, zn_M.fr hM f hs2 hc2 (fun a i x => by have := hv a i x; omega) hT⟩
  rw [h7]
  exact hC.out hV G f hs hc (fun a i x => by have := hv a i x; omega)
/-- what a call of a layer says: s the class, the answer o -/
def zn_WL (S S1 : zz_S) (z : Int) (K a b kh kw st ed sh rl ch ad r o : Int) : Prop := ∀ v : zn_T, zn_C S z v → zn_V v → zn_F v K a b kh kw st ed sh ch ad r ∧ (r = 0 → o = v 15 0 ∧ ∀ nm : Int, zn_C S1 z (zn_nw v K a b kh kw st ed sh rl ch ad nm)) ∧ (r ≠ 0 → zn_C S1 z v)
def zn_XL (S S2 : zz_S) (K a b kh kw st ed sh rl ch ad h b2 : Int) : Prop := ∀ v : zn_T, zn_M S v → zn_V v → zn_F v K a b kh kw st ed sh ch ad h ∧ (h = 0 → b2 = v 15 0 ∧ ∀ nm : Int, zn_M S2 (zn_nw v K a b kh kw st ed sh rl ch ad nm)) ∧ (h ≠ 0 → zn_M S2 v)
theorem zn_Llay {S S1 S2 : zz_S} {K a b kh kw st ed sh rl ch ad r o h b2 : Int} (A : zn_A S) (w : zn_WL S S1 (S 1000 7) K a b kh kw st ed sh rl ch ad r o) (m : zn_XL S1 S2 K a b kh kw st ed sh rl ch ad h b2) (hM : ∀ v : zn_T, zn_M S v → zn_M S1 v) (hC : ∀ v : zn_T, zn_V v → zn_C S1 (S 1000 7) v → zn_C S2 (S 1000 7) v) (h7 : S2 1000 7 = S 1000 7) (h8 : S2 1000 8 = S 1000 8) (hK : K = 1 ∨ K = 2 ∨ K = 3) (hb : K ≠ 3 → b = a) (hx : (K ≠ 1 → ed = 0) ∧ (K = 2 → sh = 0) ∧ (K = 3 → st = 1) ∧ 0 ≤ rl ∧ rl ≤ 1) : zn_A S2 ∧ h = r ∧ (r = 0 → o = b2) := by
  obtain ⟨h1, v, hV, hW, hC0, hM0⟩ := A
  obtain ⟨w1, w2, w3⟩ := w v hC0 hV
  obtain ⟨m1, m2, m3⟩ := m v (hM v hM0) hV
  have e := zn_Fu m1 w1
  refine ⟨⟨by omega, ?_⟩, e, fun x => ?_⟩
  · rw [h7]
    rcases Decidable.em (r = 0) with x | x
    · rw [x] at w1
      have V1 := zn_Vnw (rl := rl) (nm := 0) hV hK w1
      exact ⟨_, V1, ⟨zn_Wnw hV hW.1 hK hb, zs_Qnw hV hW.2 (zs_Fq w1 hK hx)⟩, hC _ V1 ((w2 x).2 0), (m2 (by omega)).2 0⟩
    · exact ⟨v, hV, hW, hC v hV (w3 x), m3 (by omega)⟩
  · rw [(w2 x).1, (m2 (by omega)).1]
theorem zn_Linp {S S1 S2 : zz_S} {a b c r h : Int} (A : zn_A S) (w0 : r = 0 → ∀ nm : Int, zn_C S1 (S 1000 7) (zn_ip a b c nm)) (w1 : r ≠ 0 → ∀ v : zn_T, zn_V v → zn_C S (S 1000 7) v → zn_C S1 (S 1000 7) v) (m0 : h = 0 → ∀ nm : Int, zn_M S2 (zn_ip a b c nm)) (m1 : h ≠ 0 → ∀ v : zn_T, zn_M S1 v → zn_M S2 v) (hM : ∀ v : zn_T, zn_M S v → zn_M S1 v) (hC : ∀ v : zn_T, zn_V v → zn_C S1 (S 1000 7) v → zn_C S2 (S 1000 7) v) (h7 : S2 1000 7 = S 1000 7) (h8 : S2 1000 8 = S 1000 8) (e : r = 0 ↔ h = 0) (hf : r = 0 → (1 ≤ a ∧ a ≤ 63) ∧ (1 ≤ b ∧ b ≤ 63) ∧ (1 ≤ c ∧ c ≤ 63) ∧ (a * b) * c ≤ 2048) : zn_A S2 := by
  obtain ⟨h1, v, hV, hW, hC0, hM0⟩ := A
  refine ⟨by omega, ?_⟩
  rw [h7]
  rcases Decidable.em (r = 0) with x | x
  · have f := hf x
    have V1 := zn_Vip (nm := 0) f.1 f.2.1 f.2.2.1 f.2.2.2
    exact ⟨_, V1, ⟨zn_Wip a b c 0, zs_Qip a b c 0⟩, hC _ V1 (w0 x 0), m0 (e.mp x) 0⟩
  · exact ⟨v, hV, hW, hC v hV (w1 x v hV hC0), m1 (fun y => x (e.mpr y)) v (hM v hM0)⟩
theorem zn_Lside {S S1 S2 : zz_S} {r h : Int} (A : zn_A S) (w0 : r = 0 → ∀ v : zn_T, zn_C S (S 1000 7) v → zn_V v → zn_C S1 (S 1000 7) (zn_dp v)) (w1 : r ≠ 0 → ∀ v : zn_T, zn_V v → zn_C S (S 1000 7) v → zn_C S1 (S 1000 7) v) (m : ∀ v : zn_T, zn_M S1 v → zn_V v → (h = 0 → zn_M S2 (zn_dp v)) ∧ (h ≠ 0 → zn_M S2 v)) (hM : ∀ v : zn_T, zn_M S v → zn_M S1 v) (hC : ∀ v : zn_T, zn_V v → zn_C S1 (S 1000 7) v → zn_C S2 (S 1000 7) v) (h7 : S2 1000 7 = S 1000 7) (h8 : S2 1000 8 = S 1000 8) (e : r = 0 ↔ h = 0) : zn_A S2 := by
  obtain ⟨h1, v, hV, hW, hC0, hM0⟩ := A
  have mm := m v (hM v hM0) hV
  refine ⟨by omega, ?_⟩
  rw [h7]
  rcases Decidable.em (r = 0) with x | x
  · exact ⟨_, zn_Vdp hV, ⟨zn_Wdp hW.1, zs_Qdp hW.2⟩, hC _ (zn_Vdp hV) (w0 x v hC0 hV), mm.1 (e.mp x)⟩
  · exact ⟨v, hV, hW, hC v hV (w1 x v hV hC0), mm.2 (fun y => x (e.mpr y))⟩
/-- network: f, g the two texts, which are alike -/
theorem zn_Lnet {S S1 S2 : zz_S} {f g : Nat → Int} {n n2 r b : Int} (A : zn_A S) (hfg : ∀ i : Int, 0 ≤ i → i < n → f i.toNat = g i.toNat) (hn : n2 = n) (w0 : r = (zn_nt f n 1502 0 0 0 zn_v0).1) (w1 : r = -1 → zn_V (zn_nt f n 1502 0 0 0 zn_v0).2 ∧ zn_C S1 (S 1000 8) (zn_nt f n 1502 0 0 0 zn_v0).2 ∧ S1 1000 7 = S 1000 8 ∧ S1 1000 8 = S 1000 7) (w2 : r ≠ -1 → S1 1000 7 = S 1000 7 ∧ S1 1000 8 = S 1000 8) (w3 : S 1000 7 + S 1000 8 = 1 → ∀ v : zn_T, zn_V v → zn_C S (S 1000 7) v → zn_C S1 (S 1000 7) v) (m0 : b = (zn_nt g n2 1502 0 0 0 zn_v0).1) (m1 : b = -1 → zn_V (zn_nt g n2 1502 0 0 0 zn_v0).2 ∧ zn_M S2 (zn_nt g n2 1502 0 0 0 zn_v0).2) (m2 : b ≠ -1 → ∀ v : zn_T, zn_V v → zn_M S1 v → zn_M S2 v) (hM : ∀ v : zn_T, zn_M S v → zn_M S1 v) (hC : ∀ (v : zn_T) (q : Int), 0 ≤ q ∧ q ≤ 1 → zn_V v → zn_C S1 q v → zn_C S2 q v) (h7 : S2 1000 7 = S1 1000 7) (h8 : S2 1000 8 = S1 1000 8) (G : (0 ≤ S 1000 7 ∧ S 1000 7 ≤ 1) ∧ 0 ≤ S 1000 8 ∧ S 1000 8 ≤ 1) : zn_A S2 ∧ r = b := by
  obtain ⟨h1, v, hV, hW, hC0, hM0⟩ := A
  subst hn
  have e := zn_nte hfg 1502 0 0 0 zn_v0 (Int.le_refl _) (Or.inl rfl)
  rw [e] at w0 w1
  refine ⟨⟨?_, ?_⟩, by rw [w0, m0]⟩
  · rcases Decidable.em (r = -1) with x | x
    · have y := w1 x
      omega
    · have y := w2 x
      omega
  · rcases Decidable.em (r = -1) with x | x
    · have y := w1 x
      have z := m1 (by rw [m0, ← w0]; exact x)
      rw [h7, y.2.2.1]
      exact ⟨_, y.1, ⟨zn_ntW 1502 0 0 0 zn_v0 (Or.inl rfl) zn_W0 (fun q => absurd q (by decide)), zs_ntQ 1502 0 0 0 zn_v0 (Or.inl rfl) (Int.le_refl 0) (fun q => absurd q (by decide)) (by rw [← w0]; exact x)⟩, hC _ _ G.2 y.1 y.2.1, z.2⟩
    · have y := w2 x
      rw [h7, y.1]
      exact ⟨v, hV, hW, hC _ _ G.1 hV (w3 h1 v hV hC0), m2 (by rw [m0, ← w0]; exact x) v hV (hM v hM0)⟩
/-- place -/
theorem zn_Lpl {S S1 S2 : zz_S} {r o h b : Int} (A : zn_A S) (w : (r = 0 ∧ zn_PP S S1 (S 1000 7) o) ∨ (r = 1 ∧ zn_PX S S1 (S 1000 7))) (m : zn_MP S1 S2 h b) (hM : ∀ v : zn_T, zn_M S v → zn_M S1 v) (hC : ∀ v : zn_T, zn_V v → zn_C S1 (S 1000 7) v → zn_C S2 (S 1000 7) v) (h7 : S2 1000 7 = S 1000 7) (h8 : S2 1000 8 = S 1000 8) : zn_A S2 ∧ h = r ∧ (r = 0 → o = b) := by
  obtain ⟨h1, v, hV, hW, hC0, hM0⟩ := A
  have mm := m v (hM v hM0) hV
  rcases w with ⟨x, w⟩ | ⟨x, w⟩
  · obtain ⟨B, p1, p2, p3⟩ := w v hC0 hV hW.1
    rcases mm with ⟨y, B1, q1, q2, q3⟩ | ⟨y, ⟨B1, m1, q1, q2⟩, q3⟩
    · have u := zn_PLu p1 q1
      obtain ⟨u1, u2⟩ := u
      subst u1
      have V1 := zn_Vrp hV p1 p2
      refine ⟨⟨by omega, ?_⟩, by omega, fun _ => rfl⟩
      rw [h7]
      exact ⟨_, V1, ⟨zn_Wrp hW.1, zs_Qrp hW.2⟩, hC _ V1 p3, zn_M.ext hV u2 q3⟩
    · have u := zn_PLu p1 q1
      omega
  · obtain ⟨p1, p2⟩ := w v hC0 hV hW.1
    rcases mm with ⟨y, B1, q1, q2, q3⟩ | ⟨y, _, q3⟩
    · have u := zn_PLN q1 p1
      omega
    · refine ⟨⟨by omega, ?_⟩, by omega, fun z => by omega⟩
      rw [h7]
      exact ⟨v, hV, hW, hC v hV p2, q3⟩
def zn_WF (S : zz_S) (z : Int) (t w r o : Int) : Prop := ∀ v : zn_T, zn_C S z v → zn_V v → (r = 1 ∧ ¬ (0 ≤ t ∧ t < v 15 0)) ∨ (r = 2 ∧ (0 ≤ t ∧ t < v 15 0) ∧ (w < 0 ∨ 3 < w)) ∨ (r = 0 ∧ (0 ≤ t ∧ t < v 15 0) ∧ (0 ≤ w ∧ w ≤ 3) ∧ o = zn_fo v t w)
theorem zn_Lfo {S S1 : zz_S} {t w r o h b : Int} (A : zn_A S) (wp : zn_WF S (S 1000 7) t w r o) (hM : ∀ v : zn_T, zn_M S v → zn_M S1 v) (m : ∀ v : zn_T, zn_M S1 v → (h = 1 ∧ ¬ (0 ≤ t ∧ t < v 15 0)) ∨ (h = 2 ∧ (0 ≤ t ∧ t < v 15 0) ∧ (w < 0 ∨ 3 < w)) ∨ (h = 0 ∧ (0 ≤ t ∧ t < v 15 0) ∧ (0 ≤ w ∧ w ≤ 3) ∧ b = zn_fo v t w)) : h = r ∧ (r = 0 → o = b) := by
  obtain ⟨h1, v, hV, hW, hC0, hM0⟩ := A
  rcases wp v hC0 hV with x | x | x
  · rcases m v (hM v hM0) with y | y | y
    · exact ⟨by omega, fun z => by omega⟩
    · exact absurd y.2.1 x.2
    · exact absurd y.2.1 x.2
  · rcases m v (hM v hM0) with y | y | y
    · exact absurd x.2.1 y.2
    · exact ⟨by omega, fun z => by omega⟩
    · omega
  · rcases m v (hM v hM0) with y | y | y
    · exact absurd x.2.1 y.2
    · omega
    · exact ⟨by omega, fun _ => by rw [x.2.2.2, y.2.2.2]⟩
theorem zn_PP.put {S0 S S1 : zz_S} {q r z : Int} {a i : Nat} (h : zn_PP S0 S q r) (hq : 0 ≤ q ∧ q ≤ 1) (e : S1 = zz_st S a i z) (ha : a < 1001 ∨ 1028 < a) : zn_PP S0 S1 q r := by
  intro v c hV hW
  obtain ⟨B, p1, p2, p3⟩ := h v c hV hW
  exact ⟨B, p1, p2, p3.put (zn_Vrp hV p1 p2) hq e ha⟩
/-- networkSign -/
def zs_WS (S : zz_S) (z : Int) (k i r o : Int) : Prop := ∀ v : zn_T, zn_C S z v → zn_V v → zn_W v → zs_Q v → (r = 1 ∧ ¬ (0 ≤ k ∧ k < v 15 0 ∧ 0 ≤ i)) ∨ (r = 0 ∧ (0 ≤ k ∧ k < v 15 0 ∧ 0 ≤ i) ∧ o = zs_at (zs_ln v k.toNat) i)
theorem zs_Lsg {S S1 : zz_S} {k i r o h b : Int} (A : zn_A S) (wp : zs_WS S (S 1000 7) k i r o) (hM : ∀ v : zn_T, zn_M S v → zn_M S1 v) (m : ∀ v : zn_T, zn_M S1 v → zn_V v → zn_W v → zs_Q v → (h = 1 ∧ ¬ (0 ≤ k ∧ k < v 15 0 ∧ 0 ≤ i)) ∨ (h = 0 ∧ (0 ≤ k ∧ k < v 15 0 ∧ 0 ≤ i) ∧ b = zs_at (zs_ln v k.toNat) i)) : h = r ∧ (r = 0 → o = b) := by
  obtain ⟨h1, v, hV, hW, hC0, hM0⟩ := A
  rcases wp v hC0 hV hW.1 hW.2 with x | x
  · rcases m v (hM v hM0) hV hW.1 hW.2 with y | y
    · exact ⟨by omega, fun z => by omega⟩
    · exact absurd y.2.1 x.2
  · rcases m v (hM v hM0) hV hW.1 hW.2 with y | y
    · exact absurd x.2.1 y.2
    · exact ⟨by omega, fun _ => by rw [x.2.2, y.2.2]⟩

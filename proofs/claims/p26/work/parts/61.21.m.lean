-- TensorForgeModel keepRow ([IIIZ)V
abbrev zr_keepRow_14_92_1110_10_92_1 : Room := { frames := 0, cells := 0, slots := 0, locals := 0 }
def zp_keepRow_14_92_1110_10_92_1  (S0 : zz_S) : zz_S → Prop := fun S => zz_G S ∧ zz_fr [] [1110] (fun _ _ => False) S0 S ∧ (∀ u : Nat, u < 10 → S 1110 u = S0 1119 (92 + u))
theorem zb_keepRow_14_92_1110_10_92_1_3 {g : mm_G} {l : Launch}  (S0 : zz_S) (n : Nat) (hn : zz_end ≤ n) (G_S0 : zz_G S0)  (x5 : Int) (S : zz_S) (G_S : zz_G S) (F_S : zz_fr [] [1110] (fun _ _ => False) S0 S) (i3_0 : 0 ≤ x5 ∧ x5 ≤ 10) (i3_1 : ∀ u : Nat, (u : Int) < x5 → S 1110 u = S0 1119 (92 + u)) (R : Nat) (hR : (10 - x5).toNat = R) (k3 : ∀ (x5 : Int) (S : zz_S), zz_G S → zz_fr [] [1110] (fun _ _ => False) S0 S → (0 ≤ x5 ∧ x5 ≤ 10) → (∀ u : Nat, (u : Int) < x5 → S 1110 u = S0 1119 (92 + u)) → (10 - x5).toNat < R → zz_E g l zy_keepRow_14_92 zr_keepRow_14_92_1110_10_92_1 (zz_QV n (zp_keepRow_14_92_1110_10_92_1  S0)) S n 3 [some (.ref 1079), some (.ref 1110), some (zi 10), some (zi 92), some (zi 1), some (zi x5)] [] 0 0) : zz_E g l zy_keepRow_14_92 zr_keepRow_14_92_1110_10_92_1 (zz_QV n (zp_keepRow_14_92_1110_10_92_1  S0)) S n 3 [some (.ref 1079), some (.ref 1110), some (zi 10), some (zi 92), some (zi 1), some (zi x5)] [] 0 0 := by
  refine zz_iload (x := x5) rfl zd_14_92_3 ?_
  refine zz_iload_n (x := 10) rfl zd_14_92_5 ?_
  refine zz_icmp_ge (by omega) (by omega) zd_14_92_6 (fun c1 => ?_) (fun c1 => ?_)
  · exact zz_vret zd_14_92_49 rfl (Nat.zero_le _) (Nat.zero_le _) ⟨_, rfl, G_S, F_S, fun u hu => i3_1 u (by omega)⟩
  · refine zz_iload (x := 1) rfl zd_14_92_9 ?_
    refine zz_if_eq (by omega) zd_14_92_11 (fun c2 => ?_) (fun c2 => ?_)
    · exfalso; omega
    · refine zz_aload_n (x := 1110) rfl zd_14_92_14 ?_
      refine zz_iload (x := x5) rfl zd_14_92_15 ?_
      refine zz_aload_n (x := 1079) rfl zd_14_92_17 ?_
      refine zz_getr (kd := 0) (z := 1119) zd_14_92_18 zf_Md_139 zT_1079 rfl (zz_ltn hn rfl) (zz_G.eq G_S 1079 67 1119 rfl rfl) (by decide) 1119 rfl ?_
      refine zz_iload_n (x := 92) rfl zd_14_92_21 ?_
      refine zz_iload (x := x5) rfl zd_14_92_22 ?_
      refine zz_iadd zd_14_92_24 ?_
      have g3 := zz_G.r G_S0 1119 ((92 + x5).toNat) (0) (if (92 + x5).toNat < 12 then 63 else if (92 + x5).toNat < 24 then 63 else if (92 + x5).toNat < 36 then 63 else if (92 + x5).toNat < 37 then 0 else if (92 + x5).toNat < 48 then 10000000 else if (92 + x5).toNat < 59 then 2 else if (92 + x5).toNat < 70 then 10 else if (92 + x5).toNat < 81 then 10 else if (92 + x5).toNat < 92 then 3 else if (92 + x5).toNat < 103 then 3 else if (92 + x5).toNat < 114 then 3 else if (92 + x5).toNat < 125 then 1 else if (92 + x5).toNat < 136 then 31 else 4096) rfl rfl
      refine zz_iald (z := S0 1119 ((92 + x5).toNat)) zd_14_92_25 zT_1119 rfl (zz_ltn hn rfl) (by decide) (by omega) (zz_rc F_S (zz_nc1 rfl) rfl (fun h => h) rfl) ?_
      refine zz_iast zd_14_92_26 zT_1110 rfl (zz_ltn hn rfl) (by decide) (by omega) (fun S4 qS4 => ?_)
      have G_S4 := zz_G.put G_S qS4 0 3 rfl (by omega)
      have F_S4 := zz_fr.putc F_S qS4 rfl
      refine zz_goto zd_14_92_27 ?_
      refine zz_iinc [some (.ref 1079), some (.ref 1110), some (zi 10), some (zi 92), some (zi 1), some (zi (x5 + 1))] zd_14_92_43 rfl rfl ?_
      refine zz_goto zd_14_92_46 ?_
      refine zz_less (ls1 := [some (.ref 1079), some (.ref 1110), some (zi 10), some (zi 92), some (zi 1), some (zi (x5 + 1))]) ⟨rfl, ⟨rfl, ⟨rfl, ⟨rfl, ⟨rfl, ⟨rfl, trivial⟩⟩⟩⟩⟩⟩ ?_
      exact k3 (x5 + 1) S4 G_S4 F_S4 (by omega) (fun u hu => (Decidable.em ((u : Int) = x5)).elim (fun h => by rw [show u = x5.toNat by omega, zz_rs qS4, show (92 + x5).toNat = 92 + x5.toNat by omega]) (fun h => by rw [zz_ro (b := 1110) (j := u) qS4 (fun h9 => by omega) rfl]; exact i3_1 u (by omega))) (by omega)
theorem zi_keepRow_14_92_1110_10_92_1 {g : mm_G} {l : Launch}  (S0 : zz_S) (n : Nat) (hn : zz_end ≤ n) (G_S0 : zz_G S0)  : ∀ N : Nat, (∀ (x5 : Int) (S : zz_S), zz_G S → zz_fr [] [1110] (fun _ _ => False) S0 S → (0 ≤ x5 ∧ x5 ≤ 10) → (∀ u : Nat, (u : Int) < x5 → S 1110 u = S0 1119 (92 + u)) → (10 - x5).toNat < N → zz_E g l zy_keepRow_14_92 zr_keepRow_14_92_1110_10_92_1 (zz_QV n (zp_keepRow_14_92_1110_10_92_1  S0)) S n 3 [some (.ref 1079), some (.ref 1110), some (zi 10), some (zi 92), some (zi 1), some (zi x5)] [] 0 0) := by
  intro N
  induction N with
  | zero => exact fun x5 S _ _ _ _ h => absurd h (Nat.not_lt_zero _)
  | succ N ih =>
    exact fun x5 S a b j0 j1 hR => zb_keepRow_14_92_1110_10_92_1_3  S0 n hn G_S0  x5 S a b j0 j1 _ rfl (fun x5 S a b j0 j1 h => ih x5 S a b j0 j1 (Nat.lt_of_lt_of_le h (Nat.le_of_lt_succ hR)))
theorem zc_keepRow_14_92_1110_10_92_1 {g : mm_G} {l : Launch}  (S0 : zz_S) (n : Nat) (hn : zz_end ≤ n) (G_S0 : zz_G S0)  : mm_Met g l zy_keepRow_14_92 zr_keepRow_14_92_1110_10_92_1 [.ref 1079, .ref 1110, zi 10, zi 92, zi 1] (zz_M S0 n) n (zz_QV n (zp_keepRow_14_92_1110_10_92_1  S0)) := by
  refine zz_enter (by decide) (Nat.le_of_ble_eq_true rfl) (zz_less (ls1 := [some (.ref 1079), some (.ref 1110), some (zi 10), some (zi 92), some (zi 1)]) ⟨rfl, ⟨rfl, ⟨rfl, ⟨rfl, ⟨rfl, trivial⟩⟩⟩⟩⟩ ?_)
  have F_S0 : zz_fr [] [1110] (fun _ _ => False) S0 S0 := zz_fr.refl
  have k3 : ∀ (x5 : Int) (S : zz_S), zz_G S → zz_fr [] [1110] (fun _ _ => False) S0 S → (0 ≤ x5 ∧ x5 ≤ 10) → (∀ u : Nat, (u : Int) < x5 → S 1110 u = S0 1119 (92 + u)) → zz_E g l zy_keepRow_14_92 zr_keepRow_14_92_1110_10_92_1 (zz_QV n (zp_keepRow_14_92_1110_10_92_1  S0)) S n 3 [some (.ref 1079), some (.ref 1110), some (zi 10), some (zi 92), some (zi 1), some (zi x5)] [] 0 0 := fun x5 S a b j0 j1 => (zi_keepRow_14_92_1110_10_92_1 (g := g) (l := l)  S0 n hn G_S0  _) x5 S a b j0 j1 (Nat.lt_succ_self _)
  refine zz_iconst zd_14_92_0 ?_
  refine zz_istore [some (.ref 1079), some (.ref 1110), some (zi 10), some (zi 92), some (zi 1), some (zi 0)] zd_14_92_1 (by decide) rfl ?_
  refine zz_less (ls1 := [some (.ref 1079), some (.ref 1110), some (zi 10), some (zi 92), some (zi 1), some (zi 0)]) ⟨rfl, ⟨rfl, ⟨rfl, ⟨rfl, ⟨rfl, ⟨rfl, trivial⟩⟩⟩⟩⟩⟩ ?_
  exact k3 0 S0 G_S0 F_S0 (by omega) (fun u h => absurd h (by omega))
-- TensorForgeModel keepRow ([IIIZ)V
abbrev zr_keepRow_14_92_1111_10_103_1 : Room := { frames := 0, cells := 0, slots := 0, locals := 0 }
def zp_keepRow_14_92_1111_10_103_1  (S0 : zz_S) : zz_S → Prop := fun S => zz_G S ∧ zz_fr [] [1111] (fun _ _ => False) S0 S ∧ (∀ u : Nat, u < 10 → S 1111 u = S0 1119 (103 + u))
theorem zb_keepRow_14_92_1111_10_103_1_3 {g : mm_G} {l : Launch}  (S0 : zz_S) (n : Nat) (hn : zz_end ≤ n) (G_S0 : zz_G S0)  (x5 : Int) (S : zz_S) (G_S : zz_G S) (F_S : zz_fr [] [1111] (fun _ _ => False) S0 S) (i3_0 : 0 ≤ x5 ∧ x5 ≤ 10) (i3_1 : ∀ u : Nat, (u : Int) < x5 → S 1111 u = S0 1119 (103 + u)) (R : Nat) (hR : (10 - x5).toNat = R) (k3 : ∀ (x5 : Int) (S : zz_S), zz_G S → zz_fr [] [1111] (fun _ _ => False) S0 S → (0 ≤ x5 ∧ x5 ≤ 10) → (∀ u : Nat, (u : Int) < x5 → S 1111 u = S0 1119 (103 + u)) → (10 - x5).toNat < R → zz_E g l zy_keepRow_14_92 zr_keepRow_14_92_1111_10_103_1 (zz_QV n (zp_keepRow_14_92_1111_10_103_1  S0)) S n 3 [some (.ref 1079), some (.ref 1111), some (zi 10), some (zi 103), some (zi 1), some (zi x5)] [] 0 0) : zz_E g l zy_keepRow_14_92 zr_keepRow_14_92_1111_10_103_1 (zz_QV n (zp_keepRow_14_92_1111_10_103_1  S0)) S n 3 [some (.ref 1079), some (.ref 1111), some (zi 10), some (zi 103), some (zi 1), some (zi x5)] [] 0 0 := by
  refine zz_iload (x := x5) rfl zd_14_92_3 ?_
  refine zz_iload_n (x := 10) rfl zd_14_92_5 ?_
  refine zz_icmp_ge (by omega) (by omega) zd_14_92_6 (fun c1 => ?_) (fun c1 => ?_)
  · exact zz_vret zd_14_92_49 rfl (Nat.zero_le _) (Nat.zero_le _) ⟨_, rfl, G_S, F_S, fun u hu => i3_1 u (by omega)⟩
  · refine zz_iload (x := 1) rfl zd_14_92_9 ?_
    refine zz_if_eq (by omega) zd_14_92_11 (fun c2 => ?_) (fun c2 => ?_)
    · exfalso; omega
    · refine zz_aload_n (x := 1111) rfl zd_14_92_14 ?_
      refine zz_iload (x := x5) rfl zd_14_92_15 ?_
      refine zz_aload_n (x := 1079) rfl zd_14_92_17 ?_
      refine zz_getr (kd := 0) (z := 1119) zd_14_92_18 zf_Md_139 zT_1079 rfl (zz_ltn hn rfl) (zz_G.eq G_S 1079 67 1119 rfl rfl) (by decide) 1119 rfl ?_
      refine zz_iload_n (x := 103) rfl zd_14_92_21 ?_
      refine zz_iload (x := x5) rfl zd_14_92_22 ?_
      refine zz_iadd zd_14_92_24 ?_
      have g3 := zz_G.r G_S0 1119 ((103 + x5).toNat) (0) (if (103 + x5).toNat < 12 then 63 else if (103 + x5).toNat < 24 then 63 else if (103 + x5).toNat < 36 then 63 else if (103 + x5).toNat < 37 then 0 else if (103 + x5).toNat < 48 then 10000000 else if (103 + x5).toNat < 59 then 2 else if (103 + x5).toNat < 70 then 10 else if (103 + x5).toNat < 81 then 10 else if (103 + x5).toNat < 92 then 3 else if (103 + x5).toNat < 103 then 3 else if (103 + x5).toNat < 114 then 3 else if (103 + x5).toNat < 125 then 1 else if (103 + x5).toNat < 136 then 31 else 4096) rfl rfl
      refine zz_iald (z := S0 1119 ((103 + x5).toNat)) zd_14_92_25 zT_1119 rfl (zz_ltn hn rfl) (by decide) (by omega) (zz_rc F_S (zz_nc1 rfl) rfl (fun h => h) rfl) ?_
      refine zz_iast zd_14_92_26 zT_1111 rfl (zz_ltn hn rfl) (by decide) (by omega) (fun S4 qS4 => ?_)
      have G_S4 := zz_G.put G_S qS4 0 3 rfl (by omega)
      have F_S4 := zz_fr.putc F_S qS4 rfl
      refine zz_goto zd_14_92_27 ?_
      refine zz_iinc [some (.ref 1079), some (.ref 1111), some (zi 10), some (zi 103), some (zi 1), some (zi (x5 + 1))] zd_14_92_43 rfl rfl ?_
      refine zz_goto zd_14_92_46 ?_
      refine zz_less (ls1 := [some (.ref 1079), some (.ref 1111), some (zi 10), some (zi 103), some (zi 1), some (zi (x5 + 1))]) ⟨rfl, ⟨rfl, ⟨rfl, ⟨rfl, ⟨rfl, ⟨rfl, trivial⟩⟩⟩⟩⟩⟩ ?_
      exact k3 (x5 + 1) S4 G_S4 F_S4 (by omega) (fun u hu => (Decidable.em ((u : Int) = x5)).elim (fun h => by rw [show u = x5.toNat by omega, zz_rs qS4, show (103 + x5).toNat = 103 + x5.toNat by omega]) (fun h => by rw [zz_ro (b := 1111) (j := u) qS4 (fun h9 => by omega) rfl]; exact i3_1 u (by omega))) (by omega)
theorem zi_keepRow_14_92_1111_10_103_1 {g : mm_G} {l : Launch}  (S0 : zz_S) (n : Nat) (hn : zz_end ≤ n) (G_S0 : zz_G S0)  : ∀ N : Nat, (∀ (x5 : Int) (S : zz_S), zz_G S → zz_fr [] [1111] (fun _ _ => False) S0 S → (0 ≤ x5 ∧ x5 ≤ 10) → (∀ u : Nat, (u : Int) < x5 → S 1111 u = S0 1119 (103 + u)) → (10 - x5).toNat < N → zz_E g l zy_keepRow_14_92 zr_keepRow_14_92_1111_10_103_1 (zz_QV n (zp_keepRow_14_92_1111_10_103_1  S0)) S n 3 [some (.ref 1079), some (.ref 1111), some (zi 10), some (zi 103), some (zi 1), some (zi x5)] [] 0 0) := by
  intro N
  induction N with
  | zero => exact fun x5 S _ _ _ _ h => absurd h (Nat.not_lt_zero _)
  | succ N ih =>
    exact fun x5 S a b j0 j1 hR => zb_keepRow_14_92_1111_10_103_1_3  S0 n hn G_S0  x5 S a b j0 j1 _ rfl (fun x5 S a b j0 j1 h => ih x5 S a b j0 j1 (Nat.lt_of_lt_of_le h (Nat.le_of_lt_succ hR)))
theorem zc_keepRow_14_92_1111_10_103_1 {g : mm_G} {l : Launch}  (S0 : zz_S) (n : Nat) (hn : zz_end ≤ n) (G_S0 : zz_G S0)  : mm_Met g l zy_keepRow_14_92 zr_keepRow_14_92_1111_10_103_1 [.ref 1079, .ref 1111, zi 10, zi 103, zi 1] (zz_M S0 n) n (zz_QV n (zp_keepRow_14_92_1111_10_103_1  S0)) := by
  refine zz_enter (by decide) (Nat.le_of_ble_eq_true rfl) (zz_less (ls1 := [some (.ref 1079), some (.ref 1111), some (zi 10), some (zi 103), some (zi 1)]) ⟨rfl, ⟨rfl, ⟨rfl, ⟨rfl, ⟨rfl, trivial⟩⟩⟩⟩⟩ ?_)
  have F_S0 : zz_fr [] [1111] (fun _ _ => False) S0 S0 := zz_fr.refl
  have k3 : ∀ (x5 : Int) (S : zz_S), zz_G S → zz_fr [] [1111] (fun _ _ => False) S0 S → (0 ≤ x5 ∧ x5 ≤ 10) → (∀ u : Nat, (u : Int) < x5 → S 1111 u = S0 1119 (103 + u)) → zz_E g l zy_keepRow_14_92 zr_keepRow_14_92_1111_10_103_1 (zz_QV n (zp_keepRow_14_92_1111_10_103_1  S0)) S n 3 [some (.ref 1079), some (.ref 1111), some (zi 10), some (zi 103), some (zi 1), some (zi x5)] [] 0 0 := fun x5 S a b j0 j1 => (zi_keepRow_14_92_1111_10_103_1 (g := g) (l := l)  S0 n hn G_S0  _) x5 S a b j0 j1 (Nat.lt_succ_self _)
  refine zz_iconst zd_14_92_0 ?_
  refine zz_istore [some (.ref 1079), some (.ref 1111), some (zi 10), some (zi 103), some (zi 1), some (zi 0)] zd_14_92_1 (by decide) rfl ?_
  refine zz_less (ls1 := [some (.ref 1079), some (.ref 1111), some (zi 10), some (zi 103), some (zi 1), some (zi 0)]) ⟨rfl, ⟨rfl, ⟨rfl, ⟨rfl, ⟨rfl, ⟨rfl, trivial⟩⟩⟩⟩⟩⟩ ?_
  exact k3 0 S0 G_S0 F_S0 (by omega) (fun u h => absurd h (by omega))
-- TensorForgeModel keepRow ([IIIZ)V
abbrev zr_keepRow_14_92_1112_10_114_1 : Room := { frames := 0, cells := 0, slots := 0, locals := 0 }
def zp_keepRow_14_92_1112_10_114_1  (S0 : zz_S) : zz_S → Prop := fun S => zz_G S ∧ zz_fr [] [1112] (fun _ _ => False) S0 S ∧ (∀ u : Nat, u < 10 → S 1112 u = S0 1119 (114 + u))
theorem zb_keepRow_14_92_1112_10_114_1_3 {g : mm_G} {l : Launch}  (S0 : zz_S) (n : Nat) (hn : zz_end ≤ n) (G_S0 : zz_G S0)  (x5 : Int) (S : zz_S) (G_S : zz_G S) (F_S : zz_fr [] [1112] (fun _ _ => False) S0 S) (i3_0 : 0 ≤ x5 ∧ x5 ≤ 10) (i3_1 : ∀ u : Nat, (u : Int) < x5 → S 1112 u = S0 1119 (114 + u)) (R : Nat) (hR : (10 - x5).toNat = R) (k3 : ∀ (x5 : Int) (S : zz_S), zz_G S → zz_fr [] [1112] (fun _ _ => False) S0 S → (0 ≤ x5 ∧ x5 ≤ 10) → (∀ u : Nat, (u : Int) < x5 → S 1112 u = S0 1119 (114 + u)) → (10 - x5).toNat < R → zz_E g l zy_keepRow_14_92 zr_keepRow_14_92_1112_10_114_1 (zz_QV n (zp_keepRow_14_92_1112_10_114_1  S0)) S n 3 [some (.ref 1079), some (.ref 1112), some (zi 10), some (zi 114), some (zi 1), some (zi x5)] [] 0 0) : zz_E g l zy_keepRow_14_92 zr_keepRow_14_92_1112_10_114_1 (zz_QV n (zp_keepRow_14_92_1112_10_114_1  S0)) S n 3 [some (.ref 1079), some (.ref 1112), some (zi 10), some (zi 114), some (zi 1), some (zi x5)] [] 0 0 := by
  refine zz_iload (x := x5) rfl zd_14_92_3 ?_
  refine zz_iload_n (x := 10) rfl zd_14_92_5 ?_
  refine zz_icmp_ge (by omega) (by omega) zd_14_92_6 (fun c1 => ?_) (fun c1 => ?_)
  · exact zz_vret zd_14_92_49 rfl (Nat.zero_le _) (Nat.zero_le _) ⟨_, rfl, G_S, F_S, fun u hu => i3_1 u (by omega)⟩
  · refine zz_iload (x := 1) rfl zd_14_92_9 ?_
    refine zz_if_eq (by omega) zd_14_92_11 (fun c2 => ?_) (fun c2 => ?_)
    · exfalso; omega
    · refine zz_aload_n (x := 1112) rfl zd_14_92_14 ?_
      refine zz_iload (x := x5) rfl zd_14_92_15 ?_
      refine zz_aload_n (x := 1079) rfl zd_14_92_17 ?_
      refine zz_getr (kd := 0) (z := 1119) zd_14_92_18 zf_Md_139 zT_1079 rfl (zz_ltn hn rfl) (zz_G.eq G_S 1079 67 1119 rfl rfl) (by decide) 1119 rfl ?_
      refine zz_iload_n (x := 114) rfl zd_14_92_21 ?_
      refine zz_iload (x := x5) rfl zd_14_92_22 ?_
      refine zz_iadd zd_14_92_24 ?_
      have g3 := zz_G.r G_S0 1119 ((114 + x5).toNat) (0) (if (114 + x5).toNat < 12 then 63 else if (114 + x5).toNat < 24 then 63 else if (114 + x5).toNat < 36 then 63 else if (114 + x5).toNat < 37 then 0 else if (114 + x5).toNat < 48 then 10000000 else if (114 + x5).toNat < 59 then 2 else if (114 + x5).toNat < 70 then 10 else if (114 + x5).toNat < 81 then 10 else if (114 + x5).toNat < 92 then 3 else if (114 + x5).toNat < 103 then 3 else if (114 + x5).toNat < 114 then 3 else if (114 + x5).toNat < 125 then 1 else if (114 + x5).toNat < 136 then 31 else 4096) rfl rfl
      refine zz_iald (z := S0 1119 ((114 + x5).toNat)) zd_14_92_25 zT_1119 rfl (zz_ltn hn rfl) (by decide) (by omega) (zz_rc F_S (zz_nc1 rfl) rfl (fun h => h) rfl) ?_
      refine zz_iast zd_14_92_26 zT_1112 rfl (zz_ltn hn rfl) (by decide) (by omega) (fun S4 qS4 => ?_)
      have G_S4 := zz_G.put G_S qS4 0 1 rfl (by omega)
      have F_S4 := zz_fr.putc F_S qS4 rfl
      refine zz_goto zd_14_92_27 ?_
      refine zz_iinc [some (.ref 1079), some (.ref 1112), some (zi 10), some (zi 114), some (zi 1), some (zi (x5 + 1))] zd_14_92_43 rfl rfl ?_
      refine zz_goto zd_14_92_46 ?_
      refine zz_less (ls1 := [some (.ref 1079), some (.ref 1112), some (zi 10), some (zi 114), some (zi 1), some (zi (x5 + 1))]) ⟨rfl, ⟨rfl, ⟨rfl, ⟨rfl, ⟨rfl, ⟨rfl, trivial⟩⟩⟩⟩⟩⟩ ?_
      exact k3 (x5 + 1) S4 G_S4 F_S4 (by omega) (fun u hu => (Decidable.em ((u : Int) = x5)).elim (fun h => by rw [show u = x5.toNat by omega, zz_rs qS4, show (114 + x5).toNat = 114 + x5.toNat by omega]) (fun h => by rw [zz_ro (b := 1112) (j := u) qS4 (fun h9 => by omega) rfl]; exact i3_1 u (by omega))) (by omega)
theorem zi_keepRow_14_92_1112_10_114_1 {g : mm_G} {l : Launch}  (S0 : zz_S) (n : Nat) (hn : zz_end ≤ n) (G_S0 : zz_G S0)  : ∀ N : Nat, (∀ (x5 : Int) (S : zz_S), zz_G S → zz_fr [] [1112] (fun _ _ => False) S0 S → (0 ≤ x5 ∧ x5 ≤ 10) → (∀ u : Nat, (u : Int) < x5 → S 1112 u = S0 1119 (114 + u)) → (10 - x5).toNat < N → zz_E g l zy_keepRow_14_92 zr_keepRow_14_92_1112_10_114_1 (zz_QV n (zp_keepRow_14_92_1112_10_114_1  S0)) S n 3 [some (.ref 1079), some (.ref 1112), some (zi 10), some (zi 114), some (zi 1), some (zi x5)] [] 0 0) := by
  intro N
  induction N with
  | zero => exact fun x5 S _ _ _ _ h => absurd h (Nat.not_lt_zero _)
  | succ N ih =>
    exact fun x5 S a b j0 j1 hR => zb_keepRow_14_92_1112_10_114_1_3  S0 n hn G_S0  x5 S a b j0 j1 _ rfl (fun x5 S a b j0 j1 h => ih x5 S a b j0 j1 (Nat.lt_of_lt_of_le h (Nat.le_of_lt_succ hR)))
theorem zc_keepRow_14_92_1112_10_114_1 {g : mm_G} {l : Launch}  (S0 : zz_S) (n : Nat) (hn : zz_end ≤ n) (G_S0 : zz_G S0)  : mm_Met g l zy_keepRow_14_92 zr_keepRow_14_92_1112_10_114_1 [.ref 1079, .ref 1112, zi 10, zi 114, zi 1] (zz_M S0 n) n (zz_QV n (zp_keepRow_14_92_1112_10_114_1  S0)) := by
  refine zz_enter (by decide) (Nat.le_of_ble_eq_true rfl) (zz_less (ls1 := [some (.ref 1079), some (.ref 1112), some (zi 10), some (zi 114), some (zi 1)]) ⟨rfl, ⟨rfl, ⟨rfl, ⟨rfl, ⟨rfl, trivial⟩⟩⟩⟩⟩ ?_)
  have F_S0 : zz_fr [] [1112] (fun _ _ => False) S0 S0 := zz_fr.refl
  have k3 : ∀ (x5 : Int) (S : zz_S), zz_G S → zz_fr [] [1112] (fun _ _ => False) S0 S → (0 ≤ x5 ∧ x5 ≤ 10) → (∀ u : Nat, (u : Int) < x5 → S 1112 u = S0 1119 (114 + u)) → zz_E g l zy_keepRow_14_92 zr_keepRow_14_92_1112_10_114_1 (zz_QV n (zp_keepRow_14_92_1112_10_114_1  S0)) S n 3 [some (.ref 1079), some (.ref 1112), some (zi 10), some (zi 114), some (zi 1), some (zi x5)] [] 0 0 := fun x5 S a b j0 j1 => (zi_keepRow_14_92_1112_10_114_1 (g := g) (l := l)  S0 n hn G_S0  _) x5 S a b j0 j1 (Nat.lt_succ_self _)
  refine zz_iconst zd_14_92_0 ?_
  refine zz_istore [some (.ref 1079), some (.ref 1112), some (zi 10), some (zi 114), some (zi 1), some (zi 0)] zd_14_92_1 (by decide) rfl ?_
  refine zz_less (ls1 := [some (.ref 1079), some (.ref 1112), some (zi 10), some (zi 114), some (zi 1), some (zi 0)]) ⟨rfl, ⟨rfl, ⟨rfl, ⟨rfl, ⟨rfl, ⟨rfl, trivial⟩⟩⟩⟩⟩⟩ ?_
  exact k3 0 S0 G_S0 F_S0 (by omega) (fun u h => absurd h (by omega))
-- TensorForgeModel keepRow ([IIIZ)V
abbrev zr_keepRow_14_92_1113_10_125_1 : Room := { frames := 0, cells := 0, slots := 0, locals := 0 }
def zp_keepRow_14_92_1113_10_125_1  (S0 : zz_S) : zz_S → Prop := fun S => zz_G S ∧ zz_fr [] [1113] (fun _ _ => False) S0 S ∧ (∀ u : Nat, u < 10 → S 1113 u = S0 1119 (125 + u))
theorem zb_keepRow_14_92_1113_10_125_1_3 {g : mm_G} {l : Launch}  (S0 : zz_S) (n : Nat) (hn : zz_end ≤ n) (G_S0 : zz_G S0)  (x5 : Int) (S : zz_S) (G_S : zz_G S) (F_S : zz_fr [] [1113] (fun _ _ => False) S0 S) (i3_0 : 0 ≤ x5 ∧ x5 ≤ 10) (i3_1 : ∀ u : Nat, (u : Int) < x5 → S 1113 u = S0 1119 (125 + u)) (R : Nat) (hR : (10 - x5).toNat = R) (k3 : ∀ (x5 : Int) (S : zz_S), zz_G S → zz_fr [] [1113] (fun _ _ => False) S0 S → (0 ≤ x5 ∧ x5 ≤ 10) → (∀ u : Nat, (u : Int) < x5 → S 1113 u = S0 1119 (125 + u)) → (10 - x5).toNat < R → zz_E g l zy_keepRow_14_92 zr_keepRow_14_92_1113_10_125_1 (zz_QV n (zp_keepRow_14_92_1113_10_125_1  S0)) S n 3 [some (.ref 1079), some (.ref 1113), some (zi 10), some (zi 125), some (zi 1), some (zi x5)] [] 0 0) : zz_E g l zy_keepRow_14_92 zr_keepRow_14_92_1113_10_125_1 (zz_QV n (zp_keepRow_14_92_1113_10_125_1  S0)) S n 3 [some (.ref 1079), some (.ref 1113), some (zi 10), some (zi 125), some (zi 1), some (zi x5)] [] 0 0 := by
  refine zz_iload (x := x5) rfl zd_14_92_3 ?_
  refine zz_iload_n (x := 10) rfl zd_14_92_5 ?_
  refine zz_icmp_ge (by omega) (by omega) zd_14_92_6 (fun c1 => ?_) (fun c1 => ?_)
  · exact zz_vret zd_14_92_49 rfl (Nat.zero_le _) (Nat.zero_le _) ⟨_, rfl, G_S, F_S, fun u hu => i3_1 u (by omega)⟩
  · refine zz_iload (x := 1) rfl zd_14_92_9 ?_
    refine zz_if_eq (by omega) zd_14_92_11 (fun c2 => ?_) (fun c2 => ?_)
    · exfalso; omega
    · refine zz_aload_n (x := 1113) rfl zd_14_92_14 ?_
      refine zz_iload (x := x5) rfl zd_14_92_15 ?_
      refine zz_aload_n (x := 1079) rfl zd_14_92_17 ?_
      refine zz_getr (kd := 0) (z := 1119) zd_14_92_18 zf_Md_139 zT_1079 rfl (zz_ltn hn rfl) (zz_G.eq G_S 1079 67 1119 rfl rfl) (by decide) 1119 rfl ?_
      refine zz_iload_n (x := 125) rfl zd_14_92_21 ?_
      refine zz_iload (x := x5) rfl zd_14_92_22 ?_
      refine zz_iadd zd_14_92_24 ?_
      have g3 := zz_G.r G_S0 1119 ((125 + x5).toNat) (0) (if (125 + x5).toNat < 12 then 63 else if (125 + x5).toNat < 24 then 63 else if (125 + x5).toNat < 36 then 63 else if (125 + x5).toNat < 37 then 0 else if (125 + x5).toNat < 48 then 10000000 else if (125 + x5).toNat < 59 then 2 else if (125 + x5).toNat < 70 then 10 else if (125 + x5).toNat < 81 then 10 else if (125 + x5).toNat < 92 then 3 else if (125 + x5).toNat < 103 then 3 else if (125 + x5).toNat < 114 then 3 else if (125 + x5).toNat < 125 then 1 else if (125 + x5).toNat < 136 then 31 else 4096) rfl rfl
      refine zz_iald (z := S0 1119 ((125 + x5).toNat)) zd_14_92_25 zT_1119 rfl (zz_ltn hn rfl) (by decide) (by omega) (zz_rc F_S (zz_nc1 rfl) rfl (fun h => h) rfl) ?_
      refine zz_iast zd_14_92_26 zT_1113 rfl (zz_ltn hn rfl) (by decide) (by omega) (fun S4 qS4 => ?_)
      have G_S4 := zz_G.put G_S qS4 0 31 rfl (by omega)
      have F_S4 := zz_fr.putc F_S qS4 rfl
      refine zz_goto zd_14_92_27 ?_
      refine zz_iinc [some (.ref 1079), some (.ref 1113), some (zi 10), some (zi 125), some (zi 1), some (zi (x5 + 1))] zd_14_92_43 rfl rfl ?_
      refine zz_goto zd_14_92_46 ?_
      refine zz_less (ls1 := [some (.ref 1079), some (.ref 1113), some (zi 10), some (zi 125), some (zi 1), some (zi (x5 + 1))]) ⟨rfl, ⟨rfl, ⟨rfl, ⟨rfl, ⟨rfl, ⟨rfl, trivial⟩⟩⟩⟩⟩⟩ ?_
      exact k3 (x5 + 1) S4 G_S4 F_S4 (by omega) (fun u hu => (Decidable.em ((u : Int) = x5)).elim (fun h => by rw [show u = x5.toNat by omega, zz_rs qS4, show (125 + x5).toNat = 125 + x5.toNat by omega]) (fun h => by rw [zz_ro (b := 1113) (j := u) qS4 (fun h9 => by omega) rfl]; exact i3_1 u (by omega))) (by omega)
theorem zi_keepRow_14_92_1113_10_125_1 {g : mm_G} {l : Launch}  (S0 : zz_S) (n : Nat) (hn : zz_end ≤ n) (G_S0 : zz_G S0)  : ∀ N : Nat, (∀ (x5 : Int) (S : zz_S), zz_G S → zz_fr [] [1113] (fun _ _ => False) S0 S → (0 ≤ x5 ∧ x5 ≤ 10) → (∀ u : Nat, (u : Int) < x5 → S 1113 u = S0 1119 (125 + u)) → (10 - x5).toNat < N → zz_E g l zy_keepRow_14_92 zr_keepRow_14_92_1113_10_125_1 (zz_QV n (zp_keepRow_14_92_1113_10_125_1  S0)) S n 3 [some (.ref 1079), some (.ref 1113), some (zi 10), some (zi 125), some (zi 1), some (zi x5)] [] 0 0) := by
  intro N
  induction N with
  | zero => exact fun x5 S _ _ _ _ h => absurd h (Nat.not_lt_zero _)
  | succ N ih =>
    exact fun x5 S a b j0 j1 hR => zb_keepRow_14_92_1113_10_125_1_3  S0 n hn G_S0  x5 S a b j0 j1 _ rfl (fun x5 S a b j0 j1 h => ih x5 S a b j0 j1 (Nat.lt_of_lt_of_le h (Nat.le_of_lt_succ hR)))
theorem zc_keepRow_14_92_1113_10_125_1 {g : mm_G} {l : Launch}  (S0 : zz_S) (n : Nat) (hn : zz_end ≤ n) (G_S0 : zz_G S0)  : mm_Met g l zy_keepRow_14_92 zr_keepRow_14_92_1113_10_125_1 [.ref 1079, .ref 1113, zi 10, zi 125, zi 1] (zz_M S0 n) n (zz_QV n (zp_keepRow_14_92_1113_10_125_1  S0)) := by
  refine zz_enter (by decide) (Nat.le_of_ble_eq_true rfl) (zz_less (ls1 := [some (.ref 1079), some (.ref 1113), some (zi 10), some (zi 125), some (zi 1)]) ⟨rfl, ⟨rfl, ⟨rfl, ⟨rfl, ⟨rfl, trivial⟩⟩⟩⟩⟩ ?_)
  have F_S0 : zz_fr [] [1113] (fun _ _ => False) S0 S0 := zz_fr.refl
  have k3 : ∀ (x5 : Int) (S : zz_S), zz_G S → zz_fr [] [1113] (fun _ _ => False) S0 S → (0 ≤ x5 ∧ x5 ≤ 10) → (∀ u : Nat, (u : Int) < x5 → S 1113 u = S0 1119 (125 + u)) → zz_E g l zy_keepRow_14_92 zr_keepRow_14_92_1113_10_125_1 (zz_QV n (zp_keepRow_14_92_1113_10_125_1  S0)) S n 3 [some (.ref 1079), some (.ref 1113), some (zi 10), some (zi 125), some (zi 1), some (zi x5)] [] 0 0 := fun x5 S a b j0 j1 => (zi_keepRow_14_92_1113_10_125_1 (g := g) (l := l)  S0 n hn G_S0  _) x5 S a b j0 j1 (Nat.lt_succ_self _)
  refine zz_iconst zd_14_92_0 ?_
  refine zz_istore [some (.ref 1079), some (.ref 1113), some (zi 10), some (zi 125), some (zi 1), some (zi 0)] zd_14_92_1 (by decide) rfl ?_
  refine zz_less (ls1 := [some (.ref 1079), some (.ref 1113), some (zi 10), some (zi 125), some (zi 1), some (zi 0)]) ⟨rfl, ⟨rfl, ⟨rfl, ⟨rfl, ⟨rfl, ⟨rfl, trivial⟩⟩⟩⟩⟩⟩ ?_
  exact k3 0 S0 G_S0 F_S0 (by omega) (fun u h => absurd h (by omega))
-- TensorForgeModel keepRow ([IIIZ)V
abbrev zr_keepRow_14_92_1114_10_136_1 : Room := { frames := 0, cells := 0, slots := 0, locals := 0 }
def zp_keepRow_14_92_1114_10_136_1  (S0 : zz_S) : zz_S → Prop := fun S => zz_G S ∧ zz_fr [] [1114] (fun _ _ => False) S0 S ∧ (∀ u : Nat, u < 10 → S 1114 u = S0 1119 (136 + u))
theorem zb_keepRow_14_92_1114_10_136_1_3 {g : mm_G} {l : Launch}  (S0 : zz_S) (n : Nat) (hn : zz_end ≤ n) (G_S0 : zz_G S0)  (x5 : Int) (S : zz_S) (G_S : zz_G S) (F_S : zz_fr [] [1114] (fun _ _ => False) S0 S) (i3_0 : 0 ≤ x5 ∧ x5 ≤ 10) (i3_1 : ∀ u : Nat, (u : Int) < x5 → S 1114 u = S0 1119 (136 + u)) (R : Nat) (hR : (10 - x5).toNat = R) (k3 : ∀ (x5 : Int) (S : zz_S), zz_G S → zz_fr [] [1114] (fun _ _ => False) S0 S → (0 ≤ x5 ∧ x5 ≤ 10) → (∀ u : Nat, (u : Int) < x5 → S 1114 u = S0 1119 (136 + u)) → (10 - x5).toNat < R → zz_E g l zy_keepRow_14_92 zr_keepRow_14_92_1114_10_136_1 (zz_QV n (zp_keepRow_14_92_1114_10_136_1  S0)) S n 3 [some (.ref 1079), some (.ref 1114), some (zi 10), some (zi 136), some (zi 1), some (zi x5)] [] 0 0) : zz_E g l zy_keepRow_14_92 zr_keepRow_14_92_1114_10_136_1 (zz_QV n (zp_keepRow_14_92_1114_10_136_1  S0)) S n 3 [some (.ref 1079), some (.ref 1114), some (zi 10), some (zi 136), some (zi 1), some (zi x5)] [] 0 0 := by
  refine zz_iload (x := x5) rfl zd_14_92_3 ?_
  refine zz_iload_n (x := 10) rfl zd_14_92_5 ?_
  refine zz_icmp_ge (by omega) (by omega) zd_14_92_6 (fun c1 => ?_) (fun c1 => ?_)
  · exact zz_vret zd_14_92_49 rfl (Nat.zero_le _) (Nat.zero_le _) ⟨_, rfl, G_S, F_S, fun u hu => i3_1 u (by omega)⟩
  · refine zz_iload (x := 1) rfl zd_14_92_9 ?_
    refine zz_if_eq (by omega) zd_14_92_11 (fun c2 => ?_) (fun c2 => ?_)
    · exfalso; omega
    · refine zz_aload_n (x := 1114) rfl zd_14_92_14 ?_
      refine zz_iload (x := x5) rfl zd_14_92_15 ?_
      refine zz_aload_n (x := 1079) rfl zd_14_92_17 ?_
      refine zz_getr (kd := 0) (z := 1119) zd_14_92_18 zf_Md_139 zT_1079 rfl (zz_ltn hn rfl) (zz_G.eq G_S 1079 67 1119 rfl rfl) (by decide) 1119 rfl ?_
      refine zz_iload_n (x := 136) rfl zd_14_92_21 ?_
      refine zz_iload (x := x5) rfl zd_14_92_22 ?_
      refine zz_iadd zd_14_92_24 ?_
      have g3 := zz_G.r G_S0 1119 ((136 + x5).toNat) (0) (if (136 + x5).toNat < 12 then 63 else if (136 + x5).toNat < 24 then 63 else if (136 + x5).toNat < 36 then 63 else if (136 + x5).toNat < 37 then 0 else if (136 + x5).toNat < 48 then 10000000 else if (136 + x5).toNat < 59 then 2 else if (136 + x5).toNat < 70 then 10 else if (136 + x5).toNat < 81 then 10 else if (136 + x5).toNat < 92 then 3 else if (136 + x5).toNat < 103 then 3 else if (136 + x5).toNat < 114 then 3 else if (136 + x5).toNat < 125 then 1 else if (136 + x5).toNat < 136 then 31 else 4096) rfl rfl
      refine zz_iald (z := S0 1119 ((136 + x5).toNat)) zd_14_92_25 zT_1119 rfl (zz_ltn hn rfl) (by decide) (by omega) (zz_rc F_S (zz_nc1 rfl) rfl (fun h => h) rfl) ?_
      refine zz_iast zd_14_92_26 zT_1114 rfl (zz_ltn hn rfl) (by decide) (by omega) (fun S4 qS4 => ?_)
      have G_S4 := zz_G.put G_S qS4 0 4096 rfl (by omega)
      have F_S4 := zz_fr.putc F_S qS4 rfl
      refine zz_goto zd_14_92_27 ?_
      refine zz_iinc [some (.ref 1079), some (.ref 1114), some (zi 10), some (zi 136), some (zi 1), some (zi (x5 + 1))] zd_14_92_43 rfl rfl ?_
      refine zz_goto zd_14_92_46 ?_
      refine zz_less (ls1 := [some (.ref 1079), some (.ref 1114), some (zi 10), some (zi 136), some (zi 1), some (zi (x5 + 1))]) ⟨rfl, ⟨rfl, ⟨rfl, ⟨rfl, ⟨rfl, ⟨rfl, trivial⟩⟩⟩⟩⟩⟩ ?_
      exact k3 (x5 + 1) S4 G_S4 F_S4 (by omega) (fun u hu => (Decidable.em ((u : Int) = x5)).elim (fun h => by rw [show u = x5.toNat by omega, zz_rs qS4, show (136 + x5).toNat = 136 + x5.toNat by omega]) (fun h => by rw [zz_ro (b := 1114) (j := u) qS4 (fun h9 => by omega) rfl]; exact i3_1 u (by omega))) (by omega)
theorem zi_keepRow_14_92_1114_10_136_1 {g : mm_G} {l : Launch}  (S0 : zz_S) (n : Nat) (hn : zz_end ≤ n) (G_S0 : zz_G S0)  : ∀ N : Nat, (∀ (x5 : Int) (S : zz_S), zz_G S → zz_fr [] [1114] (fun _ _ => False) S0 S → (0 ≤ x5 ∧ x5 ≤ 10) → (∀ u : Nat, (u : Int) < x5 → S 1114 u = S0 1119 (136 + u)) → (10 - x5).toNat < N → zz_E g l zy_keepRow_14_92 zr_keepRow_14_92_1114_10_136_1 (zz_QV n (zp_keepRow_14_92_1114_10_136_1  S0)) S n 3 [some (.ref 1079), some (.ref 1114), some (zi 10), some (zi 136), some (zi 1), some (zi x5)] [] 0 0) := by
  intro N
  induction N with
  | zero => exact fun x5 S _ _ _ _ h => absurd h (Nat.not_lt_zero _)
  | succ N ih =>
    exact fun x5 S a b j0 j1 hR => zb_keepRow_14_92_1114_10_136_1_3  S0 n hn G_S0  x5 S a b j0 j1 _ rfl (fun x5 S a b j0 j1 h => ih x5 S a b j0 j1 (Nat.lt_of_lt_of_le h (Nat.le_of_lt_succ hR)))
theorem zc_keepRow_14_92_1114_10_136_1 {g : mm_G} {l : Launch}  (S0 : zz_S) (n : Nat) (hn : zz_end ≤ n) (G_S0 : zz_G S0)  : mm_Met g l zy_keepRow_14_92 zr_keepRow_14_92_1114_10_136_1 [.ref 1079, .ref 1114, zi 10, zi 136, zi 1] (zz_M S0 n) n (zz_QV n (zp_keepRow_14_92_1114_10_136_1  S0)) := by
  refine zz_enter (by decide) (Nat.le_of_ble_eq_true rfl) (zz_less (ls1 := [some (.ref 1079), some (.ref 1114), some (zi 10), some (zi 136), some (zi 1)]) ⟨rfl, ⟨rfl, ⟨rfl, ⟨rfl, ⟨rfl, trivial⟩⟩⟩⟩⟩ ?_)
  have F_S0 : zz_fr [] [1114] (fun _ _ => False) S0 S0 := zz_fr.refl
  have k3 : ∀ (x5 : Int) (S : zz_S), zz_G S → zz_fr [] [1114] (fun _ _ => False) S0 S → (0 ≤ x5 ∧ x5 ≤ 10) → (∀ u : Nat, (u : Int) < x5 → S 1114 u = S0 1119 (136 + u)) → zz_E g l zy_keepRow_14_92 zr_keepRow_14_92_1114_10_136_1 (zz_QV n (zp_keepRow_14_92_1114_10_136_1  S0)) S n 3 [some (.ref 1079), some (.ref 1114), some (zi 10), some (zi 136), some (zi 1), some (zi x5)] [] 0 0 := fun x5 S a b j0 j1 => (zi_keepRow_14_92_1114_10_136_1 (g := g) (l := l)  S0 n hn G_S0  _) x5 S a b j0 j1 (Nat.lt_succ_self _)
  refine zz_iconst zd_14_92_0 ?_
  refine zz_istore [some (.ref 1079), some (.ref 1114), some (zi 10), some (zi 136), some (zi 1), some (zi 0)] zd_14_92_1 (by decide) rfl ?_
  refine zz_less (ls1 := [some (.ref 1079), some (.ref 1114), some (zi 10), some (zi 136), some (zi 1), some (zi 0)]) ⟨rfl, ⟨rfl, ⟨rfl, ⟨rfl, ⟨rfl, ⟨rfl, trivial⟩⟩⟩⟩⟩⟩ ?_
  exact k3 0 S0 G_S0 F_S0 (by omega) (fun u h => absurd h (by omega))
-- TensorForgeModel keepNetwork (Z)V
abbrev zr_keepNetwork_14_91_1 : Room := { frames := 1, cells := 0, slots := 0, locals := 17 }
def zp_keepNetwork_14_91_1  (S0 : zz_S) : zz_S → Prop := fun S => zz_G S ∧ zz_fr [(1079, 36), (1079, 66)] [1102, 1103, 1104, 1105, 1106, 1107, 1108, 1109, 1110, 1111, 1112, 1113, 1114] (fun _ _ => False) S0 S ∧ (S 1079 36 = S0 1079 66) ∧ (∀ u : Nat, u < 11 → S 1102 u = S0 1119 (0 + u)) ∧ (∀ u : Nat, u < 11 → S 1103 u = S0 1119 (12 + u)) ∧ (∀ u : Nat, u < 11 → S 1104 u = S0 1119 (24 + u)) ∧ (∀ u : Nat, u < 12 → S 1105 u = S0 1119 (36 + u)) ∧ (∀ u : Nat, u < 10 → S 1106 u = S0 1119 (48 + u)) ∧ (∀ u : Nat, u < 10 → S 1107 u = S0 1119 (59 + u)) ∧ (∀ u : Nat, u < 10 → S 1108 u = S0 1119 (70 + u)) ∧ (∀ u : Nat, u < 10 → S 1109 u = S0 1119 (81 + u)) ∧ (∀ u : Nat, u < 10 → S 1110 u = S0 1119 (92 + u)) ∧ (∀ u : Nat, u < 10 → S 1111 u = S0 1119 (103 + u)) ∧ (∀ u : Nat, u < 10 → S 1112 u = S0 1119 (114 + u)) ∧ (∀ u : Nat, u < 10 → S 1113 u = S0 1119 (125 + u)) ∧ (∀ u : Nat, u < 10 → S 1114 u = S0 1119 (136 + u))
theorem zc_keepNetwork_14_91_1 {g : mm_G} {l : Launch}  (S0 : zz_S) (n : Nat) (hn : zz_end ≤ n) (G_S0 : zz_G S0)  : mm_Met g l zy_keepNetwork_14_91 zr_keepNetwork_14_91_1 [.ref 1079, zi 1] (zz_M S0 n) n (zz_QV n (zp_keepNetwork_14_91_1  S0)) := by
  refine zz_enter (by decide) (Nat.le_of_ble_eq_true rfl) (zz_less (ls1 := [some (.ref 1079), some (zi 1)]) ⟨rfl, ⟨rfl, trivial⟩⟩ ?_)
  have F_S0 : zz_fr [(1079, 36), (1079, 66)] [1102, 1103, 1104, 1105, 1106, 1107, 1108, 1109, 1110, 1111, 1112, 1113, 1114] (fun _ _ => False) S0 S0 := zz_fr.refl
  refine zz_aload_n (x := 1079) rfl zd_14_91_0 ?_
  refine zz_iload_n (x := 1) rfl zd_14_91_1 ?_
  refine zz_if_eq (by omega) zd_14_91_2 (fun c1 => ?_) (fun c1 => ?_)
  · exfalso; omega
  · refine zz_aload_n (x := 1079) rfl zd_14_91_5 ?_
    have g2 := zz_G.r G_S0 1079 66 0 11 rfl rfl
    refine zz_geti (z := S0 1079 66) zd_14_91_6 zf_Md_515 zT_1079 rfl (zz_ltn hn rfl) rfl ?_
    refine zz_goto zd_14_91_9 ?_
    refine zz_puti zd_14_91_16 zf_Md_515 zT_1079 rfl (zz_ltn hn rfl) (fun S3 qS3 => ?_)
    have G_S3 := zz_G.put G_S0 qS3 0 11 rfl (by omega)
    have F_S3 := zz_fr.puts F_S0 qS3 rfl
    refine zz_aload_n (x := 1079) rfl zd_14_91_19 ?_
    refine zz_aload_n (x := 1079) rfl zd_14_91_20 ?_
    refine zz_geti (z := S0 1079 66) zd_14_91_21 zf_Md_515 zT_1079 rfl (zz_ltn hn rfl) (zz_rs qS3) ?_
    refine zz_puti zd_14_91_24 zf_Md_85 zT_1079 rfl (zz_ltn hn rfl) (fun S4 qS4 => ?_)
    have G_S4 := zz_G.put G_S3 qS4 0 11 rfl (by omega)
    have F_S4 := zz_fr.puts F_S3 qS4 rfl
    refine zz_aload_n (x := 1079) rfl zd_14_91_27 ?_
    refine zz_aload_n (x := 1079) rfl zd_14_91_28 ?_
    refine zz_getr (kd := 0) (z := 1102) zd_14_91_29 zf_Md_88 zT_1079 rfl (zz_ltn hn rfl) (zz_G.eq G_S4 1079 37 1102 rfl rfl) (by decide) 1102 rfl ?_
    refine zz_bipush (by decide) zd_14_91_32 ?_
    refine zz_iconst zd_14_91_34 ?_
    refine zz_iload_n (x := 1) rfl zd_14_91_35 ?_
    refine zz_callVV [.ref 1102, zi 11, zi 0, zi 1] zd_14_91_36 zk_Md_518 zT_1079 (zz_ltn hn rfl) rfl rfl ⟨Nat.le_of_ble_eq_true rfl, Nat.le_of_ble_eq_true rfl⟩ ⟨rfl, rfl⟩ (Nat.zero_le _) (Nat.zero_le _) (zc_keepRow_14_92_1102_11_0_1  S4 n hn G_S4 ) (fun S5 hP => ?_)
    obtain ⟨G_S5, fS5, o7⟩ := hP
    have F_S5 := zz_fr.trans F_S4 fS5 rfl zz_nv
    refine zz_aload_n (x := 1079) rfl zd_14_91_39 ?_
    refine zz_aload_n (x := 1079) rfl zd_14_91_40 ?_
    refine zz_getr (kd := 0) (z := 1103) zd_14_91_41 zf_Md_91 zT_1079 rfl (zz_ltn hn rfl) (zz_G.eq G_S5 1079 38 1103 rfl rfl) (by decide) 1103 rfl ?_
    refine zz_bipush (by decide) zd_14_91_44 ?_
    refine zz_bipush (by decide) zd_14_91_46 ?_
    refine zz_iload_n (x := 1) rfl zd_14_91_48 ?_
    refine zz_callVV [.ref 1103, zi 11, zi 12, zi 1] zd_14_91_49 zk_Md_518 zT_1079 (zz_ltn hn rfl) rfl rfl ⟨Nat.le_of_ble_eq_true rfl, Nat.le_of_ble_eq_true rfl⟩ ⟨rfl, rfl⟩ (Nat.zero_le _) (Nat.zero_le _) (zc_keepRow_14_92_1103_11_12_1  S5 n hn G_S5 ) (fun S8 hP => ?_)
    obtain ⟨G_S8, fS8, o10⟩ := hP
    have F_S8 := zz_fr.trans F_S5 fS8 rfl zz_nv
    refine zz_aload_n (x := 1079) rfl zd_14_91_52 ?_
    refine zz_aload_n (x := 1079) rfl zd_14_91_53 ?_
    refine zz_getr (kd := 0) (z := 1104) zd_14_91_54 zf_Md_94 zT_1079 rfl (zz_ltn hn rfl) (zz_G.eq G_S8 1079 39 1104 rfl rfl) (by decide) 1104 rfl ?_
    refine zz_bipush (by decide) zd_14_91_57 ?_
    refine zz_bipush (by decide) zd_14_91_59 ?_
    refine zz_iload_n (x := 1) rfl zd_14_91_61 ?_
    refine zz_callVV [.ref 1104, zi 11, zi 24, zi 1] zd_14_91_62 zk_Md_518 zT_1079 (zz_ltn hn rfl) rfl rfl ⟨Nat.le_of_ble_eq_true rfl, Nat.le_of_ble_eq_true rfl⟩ ⟨rfl, rfl⟩ (Nat.zero_le _) (Nat.zero_le _) (zc_keepRow_14_92_1104_11_24_1  S8 n hn G_S8 ) (fun S11 hP => ?_)
    obtain ⟨G_S11, fS11, o13⟩ := hP
    have F_S11 := zz_fr.trans F_S8 fS11 rfl zz_nv
    refine zz_aload_n (x := 1079) rfl zd_14_91_65 ?_
    refine zz_aload_n (x := 1079) rfl zd_14_91_66 ?_
    refine zz_getr (kd := 0) (z := 1105) zd_14_91_67 zf_Md_97 zT_1079 rfl (zz_ltn hn rfl) (zz_G.eq G_S11 1079 40 1105 rfl rfl) (by decide) 1105 rfl ?_
    refine zz_bipush (by decide) zd_14_91_70 ?_
    refine zz_bipush (by decide) zd_14_91_72 ?_
    refine zz_iload_n (x := 1) rfl zd_14_91_74 ?_
    refine zz_callVV [.ref 1105, zi 12, zi 36, zi 1] zd_14_91_75 zk_Md_518 zT_1079 (zz_ltn hn rfl) rfl rfl ⟨Nat.le_of_ble_eq_true rfl, Nat.le_of_ble_eq_true rfl⟩ ⟨rfl, rfl⟩ (Nat.zero_le _) (Nat.zero_le _) (zc_keepRow_14_92_1105_12_36_1  S11 n hn G_S11 ) (fun S14 hP => ?_)
    obtain ⟨G_S14, fS14, o16⟩ := hP
    have F_S14 := zz_fr.trans F_S11 fS14 rfl zz_nv
    refine zz_aload_n (x := 1079) rfl zd_14_91_78 ?_
    refine zz_aload_n (x := 1079) rfl zd_14_91_79 ?_
    refine zz_getr (kd := 0) (z := 1106) zd_14_91_80 zf_Md_100 zT_1079 rfl (zz_ltn hn rfl) (zz_G.eq G_S14 1079 41 1106 rfl rfl) (by decide) 1106 rfl ?_
    refine zz_bipush (by decide) zd_14_91_83 ?_
    refine zz_bipush (by decide) zd_14_91_85 ?_
    refine zz_iload_n (x := 1) rfl zd_14_91_87 ?_
    refine zz_callVV [.ref 1106, zi 10, zi 48, zi 1] zd_14_91_88 zk_Md_518 zT_1079 (zz_ltn hn rfl) rfl rfl ⟨Nat.le_of_ble_eq_true rfl, Nat.le_of_ble_eq_true rfl⟩ ⟨rfl, rfl⟩ (Nat.zero_le _) (Nat.zero_le _) (zc_keepRow_14_92_1106_10_48_1  S14 n hn G_S14 ) (fun S17 hP => ?_)
    obtain ⟨G_S17, fS17, o19⟩ := hP
    have F_S17 := zz_fr.trans F_S14 fS17 rfl zz_nv
    refine zz_aload_n (x := 1079) rfl zd_14_91_91 ?_
    refine zz_aload_n (x := 1079) rfl zd_14_91_92 ?_
    refine zz_getr (kd := 0) (z := 1107) zd_14_91_93 zf_Md_103 zT_1079 rfl (zz_ltn hn rfl) (zz_G.eq G_S17 1079 42 1107 rfl rfl) (by decide) 1107 rfl ?_
    refine zz_bipush (by decide) zd_14_91_96 ?_
    refine zz_bipush (by decide) zd_14_91_98 ?_
    refine zz_iload_n (x := 1) rfl zd_14_91_100 ?_
    refine zz_callVV [.ref 1107, zi 10, zi 59, zi 1] zd_14_91_101 zk_Md_518 zT_1079 (zz_ltn hn rfl) rfl rfl ⟨Nat.le_of_ble_eq_true rfl, Nat.le_of_ble_eq_true rfl⟩ ⟨rfl, rfl⟩ (Nat.zero_le _) (Nat.zero_le _) (zc_keepRow_14_92_1107_10_59_1  S17 n hn G_S17 ) (fun S20 hP => ?_)
    obtain ⟨G_S20, fS20, o22⟩ := hP
    have F_S20 := zz_fr.trans F_S17 fS20 rfl zz_nv
    refine zz_aload_n (x := 1079) rfl zd_14_91_104 ?_
    refine zz_aload_n (x := 1079) rfl zd_14_91_105 ?_
    refine zz_getr (kd := 0) (z := 1108) zd_14_91_106 zf_Md_106 zT_1079 rfl (zz_ltn hn rfl) (zz_G.eq G_S20 1079 43 1108 rfl rfl) (by decide) 1108 rfl ?_
    refine zz_bipush (by decide) zd_14_91_109 ?_
    refine zz_bipush (by decide) zd_14_91_111 ?_
    refine zz_iload_n (x := 1) rfl zd_14_91_113 ?_
    refine zz_callVV [.ref 1108, zi 10, zi 70, zi 1] zd_14_91_114 zk_Md_518 zT_1079 (zz_ltn hn rfl) rfl rfl ⟨Nat.le_of_ble_eq_true rfl, Nat.le_of_ble_eq_true rfl⟩ ⟨rfl, rfl⟩ (Nat.zero_le _) (Nat.zero_le _) (zc_keepRow_14_92_1108_10_70_1  S20 n hn G_S20 ) (fun S23 hP => ?_)
    obtain ⟨G_S23, fS23, o25⟩ := hP
    have F_S23 := zz_fr.trans F_S20 fS23 rfl zz_nv
    refine zz_aload_n (x := 1079) rfl zd_14_91_117 ?_
    refine zz_aload_n (x := 1079) rfl zd_14_91_118 ?_
    refine zz_getr (kd := 0) (z := 1109) zd_14_91_119 zf_Md_109 zT_1079 rfl (zz_ltn hn rfl) (zz_G.eq G_S23 1079 44 1109 rfl rfl) (by decide) 1109 rfl ?_
    refine zz_bipush (by decide) zd_14_91_122 ?_
    refine zz_bipush (by decide) zd_14_91_124 ?_
    refine zz_iload_n (x := 1) rfl zd_14_91_126 ?_
    refine zz_callVV [.ref 1109, zi 10, zi 81, zi 1] zd_14_91_127 zk_Md_518 zT_1079 (zz_ltn hn rfl) rfl rfl ⟨Nat.le_of_ble_eq_true rfl, Nat.le_of_ble_eq_true rfl⟩ ⟨rfl, rfl⟩ (Nat.zero_le _) (Nat.zero_le _) (zc_keepRow_14_92_1109_10_81_1  S23 n hn G_S23 ) (fun S26 hP => ?_)
    obtain ⟨G_S26, fS26, o28⟩ := hP
    have F_S26 := zz_fr.trans F_S23 fS26 rfl zz_nv
    refine zz_aload_n (x := 1079) rfl zd_14_91_130 ?_
    refine zz_aload_n (x := 1079) rfl zd_14_91_131 ?_
    refine zz_getr (kd := 0) (z := 1110) zd_14_91_132 zf_Md_112 zT_1079 rfl (zz_ltn hn rfl) (zz_G.eq G_S26 1079 45 1110 rfl rfl) (by decide) 1110 rfl ?_
    refine zz_bipush (by decide) zd_14_91_135 ?_
    refine zz_bipush (by decide) zd_14_91_137 ?_
    refine zz_iload_n (x := 1) rfl zd_14_91_139 ?_
    refine zz_callVV [.ref 1110, zi 10, zi 92, zi 1] zd_14_91_140 zk_Md_518 zT_1079 (zz_ltn hn rfl) rfl rfl ⟨Nat.le_of_ble_eq_true rfl, Nat.le_of_ble_eq_true rfl⟩ ⟨rfl, rfl⟩ (Nat.zero_le _) (Nat.zero_le _) (zc_keepRow_14_92_1110_10_92_1  S26 n hn G_S26 ) (fun S29 hP => ?_)
    obtain ⟨G_S29, fS29, o31⟩ := hP
    have F_S29 := zz_fr.trans F_S26 fS29 rfl zz_nv
    refine zz_aload_n (x := 1079) rfl zd_14_91_143 ?_
    refine zz_aload_n (x := 1079) rfl zd_14_91_144 ?_
    refine zz_getr (kd := 0) (z := 1111) zd_14_91_145 zf_Md_115 zT_1079 rfl (zz_ltn hn rfl) (zz_G.eq G_S29 1079 46 1111 rfl rfl) (by decide) 1111 rfl ?_
    refine zz_bipush (by decide) zd_14_91_148 ?_
    refine zz_bipush (by decide) zd_14_91_150 ?_
    refine zz_iload_n (x := 1) rfl zd_14_91_152 ?_
    refine zz_callVV [.ref 1111, zi 10, zi 103, zi 1] zd_14_91_153 zk_Md_518 zT_1079 (zz_ltn hn rfl) rfl rfl ⟨Nat.le_of_ble_eq_true rfl, Nat.le_of_ble_eq_true rfl⟩ ⟨rfl, rfl⟩ (Nat.zero_le _) (Nat.zero_le _) (zc_keepRow_14_92_1111_10_103_1  S29 n hn G_S29 ) (fun S32 hP => ?_)
    obtain ⟨G_S32, fS32, o34⟩ := hP
    have F_S32 := zz_fr.trans F_S29 fS32 rfl zz_nv
    refine zz_aload_n (x := 1079) rfl zd_14_91_156 ?_
    refine zz_aload_n (x := 1079) rfl zd_14_91_157 ?_
    refine zz_getr (kd := 0) (z := 1112) zd_14_91_158 zf_Md_118 zT_1079 rfl (zz_ltn hn rfl) (zz_G.eq G_S32 1079 47 1112 rfl rfl) (by decide) 1112 rfl ?_
    refine zz_bipush (by decide) zd_14_91_161 ?_
    refine zz_bipush (by decide) zd_14_91_163 ?_
    refine zz_iload_n (x := 1) rfl zd_14_91_165 ?_
    refine zz_callVV [.ref 1112, zi 10, zi 114, zi 1] zd_14_91_166 zk_Md_518 zT_1079 (zz_ltn hn rfl) rfl rfl ⟨Nat.le_of_ble_eq_true rfl, Nat.le_of_ble_eq_true rfl⟩ ⟨rfl, rfl⟩ (Nat.zero_le _) (Nat.zero_le _) (zc_keepRow_14_92_1112_10_114_1  S32 n hn G_S32 ) (fun S35 hP => ?_)
    obtain ⟨G_S35, fS35, o37⟩ := hP
    have F_S35 := zz_fr.trans F_S32 fS35 rfl zz_nv
    refine zz_aload_n (x := 1079) rfl zd_14_91_169 ?_
    refine zz_aload_n (x := 1079) rfl zd_14_91_170 ?_
    refine zz_getr (kd := 0) (z := 1113) zd_14_91_171 zf_Md_121 zT_1079 rfl (zz_ltn hn rfl) (zz_G.eq G_S35 1079 48 1113 rfl rfl) (by decide) 1113 rfl ?_
    refine zz_bipush (by decide) zd_14_91_174 ?_
    refine zz_bipush (by decide) zd_14_91_176 ?_
    refine zz_iload_n (x := 1) rfl zd_14_91_178 ?_
    refine zz_callVV [.ref 1113, zi 10, zi 125, zi 1] zd_14_91_179 zk_Md_518 zT_1079 (zz_ltn hn rfl) rfl rfl ⟨Nat.le_of_ble_eq_true rfl, Nat.le_of_ble_eq_true rfl⟩ ⟨rfl, rfl⟩ (Nat.zero_le _) (Nat.zero_le _) (zc_keepRow_14_92_1113_10_125_1  S35 n hn G_S35 ) (fun S38 hP => ?_)
    obtain ⟨G_S38, fS38, o40⟩ := hP
    have F_S38 := zz_fr.trans F_S35 fS38 rfl zz_nv
    refine zz_aload_n (x := 1079) rfl zd_14_91_182 ?_
    refine zz_aload_n (x := 1079) rfl zd_14_91_183 ?_
    refine zz_getr (kd := 0) (z := 1114) zd_14_91_184 zf_Md_124 zT_1079 rfl (zz_ltn hn rfl) (zz_G.eq G_S38 1079 49 1114 rfl rfl) (by decide) 1114 rfl ?_
    refine zz_bipush (by decide) zd_14_91_187 ?_
    refine zz_sipush (by decide) zd_14_91_189 ?_
    refine zz_iload_n (x := 1) rfl zd_14_91_192 ?_
    refine zz_callVV [.ref 1114, zi 10, zi 136, zi 1] zd_14_91_193 zk_Md_518 zT_1079 (zz_ltn hn rfl) rfl rfl ⟨Nat.le_of_ble_eq_true rfl, Nat.le_of_ble_eq_true rfl⟩ ⟨rfl, rfl⟩ (Nat.zero_le _) (Nat.zero_le _) (zc_keepRow_14_92_1114_10_136_1  S38 n hn G_S38 ) (fun S41 hP => ?_)
    obtain ⟨G_S41, fS41, o43⟩ := hP
    have F_S41 := zz_fr.trans F_S38 fS41 rfl zz_nv
    have e44 : S41 1079 36 = S0 1079 66 := (zz_rc fS41 rfl rfl (fun h => h) (zz_rc fS38 rfl rfl (fun h => h) (zz_rc fS35 rfl rfl (fun h => h) (zz_rc fS32 rfl rfl (fun h => h) (zz_rc fS29 rfl rfl (fun h => h) (zz_rc fS26 rfl rfl (fun h => h) (zz_rc fS23 rfl rfl (fun h => h) (zz_rc fS20 rfl rfl (fun h => h) (zz_rc fS17 rfl rfl (fun h => h) (zz_rc fS14 rfl rfl (fun h => h) (zz_rc fS11 rfl rfl (fun h => h) (zz_rc fS8 rfl rfl (fun h => h) (zz_rc fS5 rfl rfl (fun h => h) (zz_rs qS4))))))))))))))
    exact zz_vret zd_14_91_196 rfl (Nat.zero_le _) (Nat.zero_le _) ⟨_, rfl, G_S41, F_S41, by omega, fun u hu => ((((zz_rc fS41 (zz_nc1 rfl) rfl (fun h => h) (zz_rc fS38 (zz_nc1 rfl) rfl (fun h => h) (zz_rc fS35 (zz_nc1 rfl) rfl (fun h => h) (zz_rc fS32 (zz_nc1 rfl) rfl (fun h => h) (zz_rc fS29 (zz_nc1 rfl) rfl (fun h => h) (zz_rc fS26 (zz_nc1 rfl) rfl (fun h => h) (zz_rc fS23 (zz_nc1 rfl) rfl (fun h => h) (zz_rc fS20 (zz_nc1 rfl) rfl (fun h => h) (zz_rc fS17 (zz_nc1 rfl) rfl (fun h => h) (zz_rc fS14 (zz_nc1 rfl) rfl (fun h => h) (zz_rc fS11 (zz_nc1 rfl) rfl (fun h => h) (zz_rc fS8 (zz_nc1 rfl) rfl (fun h => h) rfl)))))))))))) : S41 1102 u = S5 1102 u).trans (o7 u hu))).trans ((zz_ro qS4 (fun h => absurd h.1 (by decide)) (zz_ro qS3 (fun h => absurd h.1 (by decide)) rfl)) : S4 1119 (0 + u) = S0 1119 (0 + u)), fun u hu => ((((zz_rc fS41 (zz_nc1 rfl) rfl (fun h => h) (zz_rc fS38 (zz_nc1 rfl) rfl (fun h => h) (zz_rc fS35 (zz_nc1 rfl) rfl (fun h => h) (zz_rc fS32 (zz_nc1 rfl) rfl (fun h => h) (zz_rc fS29 (zz_nc1 rfl) rfl (fun h => h) (zz_rc fS26 (zz_nc1 rfl) rfl (fun h => h) (zz_rc fS23 (zz_nc1 rfl) rfl (fun h => h) (zz_rc fS20 (zz_nc1 rfl) rfl (fun h => h) (zz_rc fS17 (zz_nc1 rfl) rfl (fun h => h) (zz_rc fS14 (zz_nc1 rfl) rfl (fun h => h) (zz_rc fS11 (zz_nc1 rfl) rfl (fun h => h) rfl))))))))))) : S41 1103 u = S8 1103 u).trans (o10 u hu))).trans ((zz_rc fS5 (zz_nc1 rfl) rfl (fun h => h) (zz_ro qS4 (fun h => absurd h.1 (by decide)) (zz_ro qS3 (fun h => absurd h.1 (by decide)) rfl))) : S5 1119 (12 + u) = S0 1119 (12 + u)), fun u hu => ((((zz_rc fS41 (zz_nc1 rfl) rfl (fun h => h) (zz_rc fS38 (zz_nc1 rfl) rfl (fun h => h) (zz_rc fS35 (zz_nc1 rfl) rfl (fun h => h) (zz_rc fS32 (zz_nc1 rfl) rfl (fun h => h) (zz_rc fS29 (zz_nc1 rfl) rfl (fun h => h) (zz_rc fS26 (zz_nc1 rfl) rfl (fun h => h) (zz_rc fS23 (zz_nc1 rfl) rfl (fun h => h) (zz_rc fS20 (zz_nc1 rfl) rfl (fun h => h) (zz_rc fS17 (zz_nc1 rfl) rfl (fun h => h) (zz_rc fS14 (zz_nc1 rfl) rfl (fun h => h) rfl)))))))))) : S41 1104 u = S11 1104 u).trans (o13 u hu))).trans ((zz_rc fS8 (zz_nc1 rfl) rfl (fun h => h) (zz_rc fS5 (zz_nc1 rfl) rfl (fun h => h) (zz_ro qS4 (fun h => absurd h.1 (by decide)) (zz_ro qS3 (fun h => absurd h.1 (by decide)) rfl)))) : S8 1119 (24 + u) = S0 1119 (24 + u)), fun u hu => ((((zz_rc fS41 (zz_nc1 rfl) rfl (fun h => h) (zz_rc fS38 (zz_nc1 rfl) rfl (fun h => h) (zz_rc fS35 (zz_nc1 rfl) rfl (fun h => h) (zz_rc fS32 (zz_nc1 rfl) rfl (fun h => h) (zz_rc fS29 (zz_nc1 rfl) rfl (fun h => h) (zz_rc fS26 (zz_nc1 rfl) rfl (fun h => h) (zz_rc fS23 (zz_nc1 rfl) rfl (fun h => h) (zz_rc fS20 (zz_nc1 rfl) rfl (fun h => h) (zz_rc fS17 (zz_nc1 rfl) rfl (fun h => h) rfl))))))))) : S41 1105 u = S14 1105 u).trans (o16 u hu))).trans ((zz_rc fS11 (zz_nc1 rfl) rfl (fun h => h) (zz_rc fS8 (zz_nc1 rfl) rfl (fun h => h) (zz_rc fS5 (zz_nc1 rfl) rfl (fun h => h) (zz_ro qS4 (fun h => absurd h.1 (by decide)) (zz_ro qS3 (fun h => absurd h.1 (by decide)) rfl))))) : S11 1119 (36 + u) = S0 1119 (36 + u)), fun u hu => ((((zz_rc fS41 (zz_nc1 rfl) rfl (fun h => h) (zz_rc fS38 (zz_nc1 rfl) rfl (fun h => h) (zz_rc fS35 (zz_nc1 rfl) rfl (fun h => h) (zz_rc fS32 (zz_nc1 rfl) rfl (fun h => h) (zz_rc fS29 (zz_nc1 rfl) rfl (fun h => h) (zz_rc fS26 (zz_nc1 rfl) rfl (fun h => h) (zz_rc fS23 (zz_nc1 rfl) rfl (fun h => h) (zz_rc fS20 (zz_nc1 rfl) rfl (fun h => h) rfl)))))))) : S41 1106 u = S17 1106 u).trans (o19 u hu))).trans ((zz_rc fS14 (zz_nc1 rfl) rfl (fun h => h) (zz_rc fS11 (zz_nc1 rfl) rfl (fun h => h) (zz_rc fS8 (zz_nc1 rfl) rfl (fun h => h) (zz_rc fS5 (zz_nc1 rfl) rfl (fun h => h) (zz_ro qS4 (fun h => absurd h.1 (by decide)) (zz_ro qS3 (fun h => absurd h.1 (by decide)) rfl)))))) : S14 1119 (48 + u) = S0 1119 (48 + u)), fun u hu => ((((zz_rc fS41 (zz_nc1 rfl) rfl (fun h => h) (zz_rc fS38 (zz_nc1 rfl) rfl (fun h => h) (zz_rc fS35 (zz_nc1 rfl) rfl (fun h => h) (zz_rc fS32 (zz_nc1 rfl) rfl (fun h => h) (zz_rc fS29 (zz_nc1 rfl) rfl (fun h => h) (zz_rc fS26 (zz_nc1 rfl) rfl (fun h => h) (zz_rc fS23 (zz_nc1 rfl) rfl (fun h => h) rfl))))))) : S41 1107 u = S20 1107 u).trans (o22 u hu))).trans ((zz_rc fS17 (zz_nc1 rfl) rfl (fun h => h) (zz_rc fS14 (zz_nc1 rfl) rfl (fun h => h) (zz_rc fS11 (zz_nc1 rfl) rfl (fun h => h) (zz_rc fS8 (zz_nc1 rfl) rfl (fun h => h) (zz_rc fS5 (zz_nc1 rfl) rfl (fun h => h) (zz_ro qS4 (fun h => absurd h.1 (by decide)) (zz_ro qS3 (fun h => absurd h.1 (by decide)) rfl))))))) : S17 1119 (59 + u) = S0 1119 (59 + u)), fun u hu => ((((zz_rc fS41 (zz_nc1 rfl) rfl (fun h => h) (zz_rc fS38 (zz_nc1 rfl) rfl (fun h => h) (zz_rc fS35 (zz_nc1 rfl) rfl (fun h => h) (zz_rc fS32 (zz_nc1 rfl) rfl (fun h => h) (zz_rc fS29 (zz_nc1 rfl) rfl (fun h => h) (zz_rc fS26 (zz_nc1 rfl) rfl (fun h => h) rfl)))))) : S41 1108 u = S23 1108 u).trans (o25 u hu))).trans ((zz_rc fS20 (zz_nc1 rfl) rfl (fun h => h) (zz_rc fS17 (zz_nc1 rfl) rfl (fun h => h) (zz_rc fS14 (zz_nc1 rfl) rfl (fun h => h) (zz_rc fS11 (zz_nc1 rfl) rfl (fun h => h) (zz_rc fS8 (zz_nc1 rfl) rfl (fun h => h) (zz_rc fS5 (zz_nc1 rfl) rfl (fun h => h) (zz_ro qS4 (fun h => absurd h.1 (by decide)) (zz_ro qS3 (fun h => absurd h.1 (by decide)) rfl)))))))) : S20 1119 (70 + u) = S0 1119 (70 + u)), fun u hu => ((((zz_rc fS41 (zz_nc1 rfl) rfl (fun h => h) (zz_rc fS38 (zz_nc1 rfl) rfl (fun h => h) (zz_rc fS35 (zz_nc1 rfl) rfl (fun h => h) (zz_rc fS32 (zz_nc1 rfl) rfl (fun h => h) (zz_rc fS29 (zz_nc1 rfl) rfl (fun h => h) rfl))))) : S41 1109 u = S26 1109 u).trans (o28 u hu))).trans ((zz_rc fS23 (zz_nc1 rfl) rfl (fun h => h) (zz_rc fS20 (zz_nc1 rfl) rfl (fun h => h) (zz_rc fS17 (zz_nc1 rfl) rfl (fun h => h) (zz_rc fS14 (zz_nc1 rfl) rfl (fun h => h) (zz_rc fS11 (zz_nc1 rfl) rfl (fun h => h) (zz_rc fS8 (zz_nc1 rfl) rfl (fun h => h) (zz_rc fS5 (zz_nc1 rfl) rfl (fun h => h) (zz_ro qS4 (fun h => absurd h.1 (by decide)) (zz_ro qS3 (fun h => absurd h.1 (by decide)) rfl))))))))) : S23 1119 (81 + u) = S0 1119 (81 + u)), fun u hu => ((((zz_rc fS41 (zz_nc1 rfl) rfl (fun h => h) (zz_rc fS38 (zz_nc1 rfl) rfl (fun h => h) (zz_rc fS35 (zz_nc1 rfl) rfl (fun h => h) (zz_rc fS32 (zz_nc1 rfl) rfl (fun h => h) rfl)))) : S41 1110 u = S29 1110 u).trans (o31 u hu))).trans ((zz_rc fS26 (zz_nc1 rfl) rfl (fun h => h) (zz_rc fS23 (zz_nc1 rfl) rfl (fun h => h) (zz_rc fS20 (zz_nc1 rfl) rfl (fun h => h) (zz_rc fS17 (zz_nc1 rfl) rfl (fun h => h) (zz_rc fS14 (zz_nc1 rfl) rfl (fun h => h) (zz_rc fS11 (zz_nc1 rfl) rfl (fun h => h) (zz_rc fS8 (zz_nc1 rfl) rfl (fun h => h) (zz_rc fS5 (zz_nc1 rfl) rfl (fun h => h) (zz_ro qS4 (fun h => absurd h.1 (by decide)) (zz_ro qS3 (fun h => absurd h.1 (by decide)) rfl)))))))))) : S26 1119 (92 + u) = S0 1119 (92 + u)), fun u hu => ((((zz_rc fS41 (zz_nc1 rfl) rfl (fun h => h) (zz_rc fS38 (zz_nc1 rfl) rfl (fun h => h) (zz_rc fS35 (zz_nc1 rfl) rfl (fun h => h) rfl))) : S41 1111 u = S32 1111 u).trans (o34 u hu))).trans ((zz_rc fS29 (zz_nc1 rfl) rfl (fun h => h) (zz_rc fS26 (zz_nc1 rfl) rfl (fun h => h) (zz_rc fS23 (zz_nc1 rfl) rfl (fun h => h) (zz_rc fS20 (zz_nc1 rfl) rfl (fun h => h) (zz_rc fS17 (zz_nc1 rfl) rfl (fun h => h) (zz_rc fS14 (zz_nc1 rfl) rfl (fun h => h) (zz_rc fS11 (zz_nc1 rfl) rfl (fun h => h) (zz_rc fS8 (zz_nc1 rfl) rfl (fun h => h) (zz_rc fS5 (zz_nc1 rfl) rfl (fun h => h) (zz_ro qS4 (fun h => absurd h.1 (by decide)) (zz_ro qS3 (fun h => absurd h.1 (by decide)) rfl))))))))))) : S29 1119 (103 + u) = S0 1119 (103 + u)), fun u hu => ((((zz_rc fS41 (zz_nc1 rfl) rfl (fun h => h) (zz_rc fS38 (zz_nc1 rfl) rfl (fun h => h) rfl)) : S41 1112 u = S35 1112 u).trans (o37 u hu))).trans ((zz_rc fS32 (zz_nc1 rfl) rfl (fun h => h) (zz_rc fS29 (zz_nc1 rfl) rfl (fun h => h) (zz_rc fS26 (zz_nc1 rfl) rfl (fun h => h) (zz_rc fS23 (zz_nc1 rfl) rfl (fun h => h) (zz_rc fS20 (zz_nc1 rfl) rfl (fun h => h) (zz_rc fS17 (zz_nc1 rfl) rfl (fun h => h) (zz_rc fS14 (zz_nc1 rfl) rfl (fun h => h) (zz_rc fS11 (zz_nc1 rfl) rfl (fun h => h) (zz_rc fS8 (zz_nc1 rfl) rfl (fun h => h) (zz_rc fS5 (zz_nc1 rfl) rfl (fun h => h) (zz_ro qS4 (fun h => absurd h.1 (by decide)) (zz_ro qS3 (fun h => absurd h.1 (by decide)) rfl)))))))))))) : S32 1119 (114 + u) = S0 1119 (114 + u)), fun u hu => ((((zz_rc fS41 (zz_nc1 rfl) rfl (fun h => h) rfl) : S41 1113 u = S38 1113 u).trans (o40 u hu))).trans ((zz_rc fS35 (zz_nc1 rfl) rfl (fun h => h) (zz_rc fS32 (zz_nc1 rfl) rfl (fun h => h) (zz_rc fS29 (zz_nc1 rfl) rfl (fun h => h) (zz_rc fS26 (zz_nc1 rfl) rfl (fun h => h) (zz_rc fS23 (zz_nc1 rfl) rfl (fun h => h) (zz_rc fS20 (zz_nc1 rfl) rfl (fun h => h) (zz_rc fS17 (zz_nc1 rfl) rfl (fun h => h) (zz_rc fS14 (zz_nc1 rfl) rfl (fun h => h) (zz_rc fS11 (zz_nc1 rfl) rfl (fun h => h) (zz_rc fS8 (zz_nc1 rfl) rfl (fun h => h) (zz_rc fS5 (zz_nc1 rfl) rfl (fun h => h) (zz_ro qS4 (fun h => absurd h.1 (by decide)) (zz_ro qS3 (fun h => absurd h.1 (by decide)) rfl))))))))))))) : S35 1119 (125 + u) = S0 1119 (125 + u)), fun u hu => (o43 u hu).trans ((zz_rc fS38 (zz_nc1 rfl) rfl (fun h => h) (zz_rc fS35 (zz_nc1 rfl) rfl (fun h => h) (zz_rc fS32 (zz_nc1 rfl) rfl (fun h => h) (zz_rc fS29 (zz_nc1 rfl) rfl (fun h => h) (zz_rc fS26 (zz_nc1 rfl) rfl (fun h => h) (zz_rc fS23 (zz_nc1 rfl) rfl (fun h => h) (zz_rc fS20 (zz_nc1 rfl) rfl (fun h => h) (zz_rc fS17 (zz_nc1 rfl) rfl (fun h => h) (zz_rc fS14 (zz_nc1 rfl) rfl (fun h => h) (zz_rc fS11 (zz_nc1 rfl) rfl (fun h => h) (zz_rc fS8 (zz_nc1 rfl) rfl (fun h => h) (zz_rc fS5 (zz_nc1 rfl) rfl (fun h => h) (zz_ro qS4 (fun h => absurd h.1 (by decide)) (zz_ro qS3 (fun h => absurd h.1 (by decide)) rfl)))))))))))))) : S38 1119 (136 + u) = S0 1119 (136 + u))⟩
theorem zk_Md_601 : mm_Vl "TensorForgeModel" 601 11 0 zy_readInput_14_103 := ⟨zyw_readInput_14_103, (R_Md, F_Md, 69), rfl, mm_tb_1 2252 (by decide +kernel) rfl, mm_tb_1 2254 (by decide +kernel) rfl, mm_tb_s 151 (by decide +kernel) rfl⟩
theorem zk_Md_598 : mm_Vl "TensorForgeModel" 598 11 0 zy_readLayer_14_104 := ⟨zyw_readLayer_14_104, (R_Md, F_Md, 69), rfl, mm_tb_1 2200 (by decide +kernel) rfl, mm_tb_1 2202 (by decide +kernel) rfl, mm_tb_s 141 (by decide +kernel) rfl⟩
theorem zg_14_105_170 : zq_at zy_network_14_105.2.1 170 21 ∧ zq_at zy_network_14_105.2.1 171 4 ∧ zq_at zy_network_14_105.2.1 172 153 ∧ zq_at zy_network_14_105.2.1 173 0 ∧ zq_at zy_network_14_105.2.1 174 7 ∧ zq_at zy_network_14_105.2.1 179 28 ∧ zq_at zy_network_14_105.2.1 180 4 ∧ zq_at zy_network_14_105.2.1 181 100 ∧ zq_at zy_network_14_105.2.1 182 172 ∧ zq_at zy_network_14_105.2.1 159 27 ∧ zq_at zy_network_14_105.2.1 160 153 ∧ zq_at zy_network_14_105.2.1 161 0 ∧ zq_at zy_network_14_105.2.1 162 5 ∧ zq_at zy_network_14_105.2.1 175 28 ∧ zq_at zy_network_14_105.2.1 176 167 ∧ zq_at zy_network_14_105.2.1 177 0 ∧ zq_at zy_network_14_105.2.1 178 6 ∧ zq_at zy_network_14_105.2.1 163 2 ∧ zq_at zy_network_14_105.2.1 164 172 ∧ zq_at zy_network_14_105.2.1 27 21 ∧ zq_at zy_network_14_105.2.1 28 4 ∧ zq_at zy_network_14_105.2.1 29 153 ∧ zq_at zy_network_14_105.2.1 30 0 ∧ zq_at zy_network_14_105.2.1 31 120 := by decide +kernel
theorem zd_14_105_170 : zz_D zy_network_14_105 170 (.iload 4) 2 172 := ⟨zq_21 zg_14_105_170.1 zg_14_105_170.2.1, rfl⟩
theorem zd_14_105_172 : zz_B zy_network_14_105 172 (Instr.ifCond .eq) 179 175 := ⟨7, zq_153 zg_14_105_170.2.2.1 zg_14_105_170.2.2.2.1 zg_14_105_170.2.2.2.2.1 (by decide), rfl, rfl⟩
theorem zd_14_105_179 : zz_D zy_network_14_105 179 (.iload_n 2) 1 180 := ⟨zq_28 zg_14_105_170.2.2.2.2.2.1, rfl⟩
theorem zd_14_105_180 : zz_D zy_network_14_105 180 (.iconst 1) 1 181 := ⟨zq_4 zg_14_105_170.2.2.2.2.2.2.1, rfl⟩
theorem zd_14_105_181 : zz_D zy_network_14_105 181 (.isub) 1 182 := ⟨zq_100 zg_14_105_170.2.2.2.2.2.2.2.1, rfl⟩
theorem zd_14_105_182 : zz_D zy_network_14_105 182 (.ireturn) 1 183 := ⟨zq_172 zg_14_105_170.2.2.2.2.2.2.2.2.1, rfl⟩
theorem zd_14_105_159 : zz_D zy_network_14_105 159 (.iload_n 1) 1 160 := ⟨zq_27 zg_14_105_170.2.2.2.2.2.2.2.2.2.1, rfl⟩
theorem zd_14_105_160 : zz_B zy_network_14_105 160 (Instr.ifCond .eq) 165 163 := ⟨5, zq_153 zg_14_105_170.2.2.2.2.2.2.2.2.2.2.1 zg_14_105_170.2.2.2.2.2.2.2.2.2.2.2.1 zg_14_105_170.2.2.2.2.2.2.2.2.2.2.2.2.1 (by decide), rfl, rfl⟩
theorem zd_14_105_175 : zz_D zy_network_14_105 175 (.iload_n 2) 1 176 := ⟨zq_28 zg_14_105_170.2.2.2.2.2.2.2.2.2.2.2.2.2.1, rfl⟩
theorem zd_14_105_176 : zz_B zy_network_14_105 176 Instr.goto 182 179 := ⟨6, zq_167 zg_14_105_170.2.2.2.2.2.2.2.2.2.2.2.2.2.2.1 zg_14_105_170.2.2.2.2.2.2.2.2.2.2.2.2.2.2.2.1 zg_14_105_170.2.2.2.2.2.2.2.2.2.2.2.2.2.2.2.2.1 (by decide), rfl, rfl⟩
theorem zd_14_105_163 : zz_D zy_network_14_105 163 (.iconst (-1)) 1 164 := ⟨zq_2 zg_14_105_170.2.2.2.2.2.2.2.2.2.2.2.2.2.2.2.2.2.1, rfl⟩
theorem zd_14_105_164 : zz_D zy_network_14_105 164 (.ireturn) 1 165 := ⟨zq_172 zg_14_105_170.2.2.2.2.2.2.2.2.2.2.2.2.2.2.2.2.2.2.1, rfl⟩
theorem zd_14_105_27 : zz_D zy_network_14_105 27 (.iload 4) 2 29 := ⟨zq_21 zg_14_105_170.2.2.2.2.2.2.2.2.2.2.2.2.2.2.2.2.2.2.2.1 zg_14_105_170.2.2.2.2.2.2.2.2.2.2.2.2.2.2.2.2.2.2.2.2.1, rfl⟩
theorem zd_14_105_29 : zz_B zy_network_14_105 29 (Instr.ifCond .eq) 149 32 := ⟨120, zq_153 zg_14_105_170.2.2.2.2.2.2.2.2.2.2.2.2.2.2.2.2.2.2.2.2.2.1 zg_14_105_170.2.2.2.2.2.2.2.2.2.2.2.2.2.2.2.2.2.2.2.2.2.2.1 zg_14_105_170.2.2.2.2.2.2.2.2.2.2.2.2.2.2.2.2.2.2.2.2.2.2.2 (by decide), rfl, rfl⟩
theorem zg_14_105_32 : zq_at zy_network_14_105.2.1 32 29 ∧ zq_at zy_network_14_105.2.1 33 54 ∧ zq_at zy_network_14_105.2.1 34 5 ∧ zq_at zy_network_14_105.2.1 35 21 ∧ zq_at zy_network_14_105.2.1 36 5 ∧ zq_at zy_network_14_105.2.1 37 42 ∧ zq_at zy_network_14_105.2.1 38 180 ∧ zq_at zy_network_14_105.2.1 39 1 ∧ zq_at zy_network_14_105.2.1 40 75 ∧ zq_at zy_network_14_105.2.1 41 162 ∧ zq_at zy_network_14_105.2.1 42 0 ∧ zq_at zy_network_14_105.2.1 43 21 ∧ zq_at zy_network_14_105.2.1 62 42 ∧ zq_at zy_network_14_105.2.1 63 29 ∧ zq_at zy_network_14_105.2.1 64 181 ∧ zq_at zy_network_14_105.2.1 65 1 ∧ zq_at zy_network_14_105.2.1 66 81 ∧ zq_at zy_network_14_105.2.1 44 42 ∧ zq_at zy_network_14_105.2.1 45 180 ∧ zq_at zy_network_14_105.2.1 46 0 ∧ zq_at zy_network_14_105.2.1 47 76 ∧ zq_at zy_network_14_105.2.1 48 21 ∧ zq_at zy_network_14_105.2.1 49 5 ∧ zq_at zy_network_14_105.2.1 50 46 := by decide +kernel
theorem zd_14_105_32 : zz_D zy_network_14_105 32 (.iload_n 3) 1 33 := ⟨zq_29 zg_14_105_32.1, rfl⟩
theorem zd_14_105_33 : zz_D zy_network_14_105 33 (.istore 5) 2 35 := ⟨zq_54 zg_14_105_32.2.1 zg_14_105_32.2.2.1, rfl⟩
theorem zd_14_105_35 : zz_D zy_network_14_105 35 (.iload 5) 2 37 := ⟨zq_21 zg_14_105_32.2.2.2.1 zg_14_105_32.2.2.2.2.1, rfl⟩
theorem zd_14_105_37 : zz_D zy_network_14_105 37 (.aload_n 0) 1 38 := ⟨zq_42 zg_14_105_32.2.2.2.2.2.1, rfl⟩
theorem zd_14_105_38 : zz_D zy_network_14_105 38 (.getfield 331) 3 41 := ⟨zq_180 zg_14_105_32.2.2.2.2.2.2.1 zg_14_105_32.2.2.2.2.2.2.2.1 zg_14_105_32.2.2.2.2.2.2.2.2.1 rfl, rfl⟩
theorem zd_14_105_41 : zz_B zy_network_14_105 41 (Instr.if_icmp .ge) 62 44 := ⟨21, zq_162 zg_14_105_32.2.2.2.2.2.2.2.2.2.1 zg_14_105_32.2.2.2.2.2.2.2.2.2.2.1 zg_14_105_32.2.2.2.2.2.2.2.2.2.2.2.1 (by decide), rfl, rfl⟩
theorem zd_14_105_62 : zz_D zy_network_14_105 62 (.aload_n 0) 1 63 := ⟨zq_42 zg_14_105_32.2.2.2.2.2.2.2.2.2.2.2.2.1, rfl⟩
theorem zd_14_105_63 : zz_D zy_network_14_105 63 (.iload_n 3) 1 64 := ⟨zq_29 zg_14_105_32.2.2.2.2.2.2.2.2.2.2.2.2.2.1, rfl⟩
theorem zd_14_105_64 : zz_D zy_network_14_105 64 (.putfield 337) 3 67 := ⟨zq_181 zg_14_105_32.2.2.2.2.2.2.2.2.2.2.2.2.2.2.1 zg_14_105_32.2.2.2.2.2.2.2.2.2.2.2.2.2.2.2.1 zg_14_105_32.2.2.2.2.2.2.2.2.2.2.2.2.2.2.2.2.1 rfl, rfl⟩
theorem zd_14_105_44 : zz_D zy_network_14_105 44 (.aload_n 0) 1 45 := ⟨zq_42 zg_14_105_32.2.2.2.2.2.2.2.2.2.2.2.2.2.2.2.2.2.1, rfl⟩
theorem zd_14_105_45 : zz_D zy_network_14_105 45 (.getfield 76) 3 48 := ⟨zq_180 zg_14_105_32.2.2.2.2.2.2.2.2.2.2.2.2.2.2.2.2.2.2.1 zg_14_105_32.2.2.2.2.2.2.2.2.2.2.2.2.2.2.2.2.2.2.2.1 zg_14_105_32.2.2.2.2.2.2.2.2.2.2.2.2.2.2.2.2.2.2.2.2.1 rfl, rfl⟩
theorem zd_14_105_48 : zz_D zy_network_14_105 48 (.iload 5) 2 50 := ⟨zq_21 zg_14_105_32.2.2.2.2.2.2.2.2.2.2.2.2.2.2.2.2.2.2.2.2.2.1 zg_14_105_32.2.2.2.2.2.2.2.2.2.2.2.2.2.2.2.2.2.2.2.2.2.2.1, rfl⟩
theorem zd_14_105_50 : zz_D zy_network_14_105 50 (.iaload) 1 51 := ⟨zq_46 zg_14_105_32.2.2.2.2.2.2.2.2.2.2.2.2.2.2.2.2.2.2.2.2.2.2.2, rfl⟩
theorem zg_14_105_51 : zq_at zy_network_14_105.2.1 51 16 ∧ zq_at zy_network_14_105.2.1 52 10 ∧ zq_at zy_network_14_105.2.1 53 159 ∧ zq_at zy_network_14_105.2.1 54 0 ∧ zq_at zy_network_14_105.2.1 55 9 ∧ zq_at zy_network_14_105.2.1 56 132 ∧ zq_at zy_network_14_105.2.1 57 5 ∧ zq_at zy_network_14_105.2.1 58 1 ∧ zq_at zy_network_14_105.2.1 59 167 ∧ zq_at zy_network_14_105.2.1 60 255 ∧ zq_at zy_network_14_105.2.1 61 232 ∧ zq_at zy_network_14_105.2.1 67 42 ∧ zq_at zy_network_14_105.2.1 68 180 ∧ zq_at zy_network_14_105.2.1 69 1 ∧ zq_at zy_network_14_105.2.1 70 81 ∧ zq_at zy_network_14_105.2.1 71 21 ∧ zq_at zy_network_14_105.2.1 72 5 ∧ zq_at zy_network_14_105.2.1 73 162 ∧ zq_at zy_network_14_105.2.1 74 0 ∧ zq_at zy_network_14_105.2.1 75 30 ∧ zq_at zy_network_14_105.2.1 103 42 ∧ zq_at zy_network_14_105.2.1 104 29 := by decide +kernel
theorem zd_14_105_51 : zz_D zy_network_14_105 51 (.bipush 10) 2 53 := ⟨zq_16 zg_14_105_51.1 zg_14_105_51.2.1 (by decide), rfl⟩
theorem zd_14_105_53 : zz_B zy_network_14_105 53 (Instr.if_icmp .eq) 62 56 := ⟨9, zq_159 zg_14_105_51.2.2.1 zg_14_105_51.2.2.2.1 zg_14_105_51.2.2.2.2.1 (by decide), rfl, rfl⟩
theorem zd_14_105_56 : zz_D zy_network_14_105 56 (.iinc 5 1) 3 59 := ⟨zq_132 zg_14_105_51.2.2.2.2.2.1 zg_14_105_51.2.2.2.2.2.2.1 zg_14_105_51.2.2.2.2.2.2.2.1 (by decide), rfl⟩
theorem zd_14_105_59 : zz_B zy_network_14_105 59 Instr.goto 35 62 := ⟨(-24), zq_167 zg_14_105_51.2.2.2.2.2.2.2.2.1 zg_14_105_51.2.2.2.2.2.2.2.2.2.1 zg_14_105_51.2.2.2.2.2.2.2.2.2.2.1 (by decide), rfl, rfl⟩
theorem zd_14_105_67 : zz_D zy_network_14_105 67 (.aload_n 0) 1 68 := ⟨zq_42 zg_14_105_51.2.2.2.2.2.2.2.2.2.2.2.1, rfl⟩
theorem zd_14_105_68 : zz_D zy_network_14_105 68 (.getfield 337) 3 71 := ⟨zq_180 zg_14_105_51.2.2.2.2.2.2.2.2.2.2.2.2.1 zg_14_105_51.2.2.2.2.2.2.2.2.2.2.2.2.2.1 zg_14_105_51.2.2.2.2.2.2.2.2.2.2.2.2.2.2.1 rfl, rfl⟩
theorem zd_14_105_71 : zz_D zy_network_14_105 71 (.iload 5) 2 73 := ⟨zq_21 zg_14_105_51.2.2.2.2.2.2.2.2.2.2.2.2.2.2.2.1 zg_14_105_51.2.2.2.2.2.2.2.2.2.2.2.2.2.2.2.2.1, rfl⟩
theorem zd_14_105_73 : zz_B zy_network_14_105 73 (Instr.if_icmp .ge) 103 76 := ⟨30, zq_162 zg_14_105_51.2.2.2.2.2.2.2.2.2.2.2.2.2.2.2.2.2.1 zg_14_105_51.2.2.2.2.2.2.2.2.2.2.2.2.2.2.2.2.2.2.1 zg_14_105_51.2.2.2.2.2.2.2.2.2.2.2.2.2.2.2.2.2.2.2.1 (by decide), rfl, rfl⟩
theorem zd_14_105_103 : zz_D zy_network_14_105 103 (.aload_n 0) 1 104 := ⟨zq_42 zg_14_105_51.2.2.2.2.2.2.2.2.2.2.2.2.2.2.2.2.2.2.2.2.1, rfl⟩
theorem zd_14_105_104 : zz_D zy_network_14_105 104 (.iload_n 3) 1 105 := ⟨zq_29 zg_14_105_51.2.2.2.2.2.2.2.2.2.2.2.2.2.2.2.2.2.2.2.2.2, rfl⟩
theorem zg_14_105_105 : zq_at zy_network_14_105.2.1 105 181 ∧ zq_at zy_network_14_105.2.1 106 1 ∧ zq_at zy_network_14_105.2.1 107 78 ∧ zq_at zy_network_14_105.2.1 108 42 ∧ zq_at zy_network_14_105.2.1 109 182 ∧ zq_at zy_network_14_105.2.1 110 2 ∧ zq_at zy_network_14_105.2.1 111 14 ∧ zq_at zy_network_14_105.2.1 112 42 ∧ zq_at zy_network_14_105.2.1 113 180 ∧ zq_at zy_network_14_105.2.1 114 1 ∧ zq_at zy_network_14_105.2.1 115 91 ∧ zq_at zy_network_14_105.2.1 116 153 ∧ zq_at zy_network_14_105.2.1 117 0 ∧ zq_at zy_network_14_105.2.1 118 22 ∧ zq_at zy_network_14_105.2.1 138 21 ∧ zq_at zy_network_14_105.2.1 139 5 ∧ zq_at zy_network_14_105.2.1 140 4 ∧ zq_at zy_network_14_105.2.1 141 96 ∧ zq_at zy_network_14_105.2.1 142 62 ∧ zq_at zy_network_14_105.2.1 143 132 ∧ zq_at zy_network_14_105.2.1 144 2 ∧ zq_at zy_network_14_105.2.1 145 1 := by decide +kernel
theorem zd_14_105_105 : zz_D zy_network_14_105 105 (.putfield 334) 3 108 := ⟨zq_181 zg_14_105_105.1 zg_14_105_105.2.1 zg_14_105_105.2.2.1 rfl, rfl⟩
theorem zd_14_105_108 : zz_D zy_network_14_105 108 (.aload_n 0) 1 109 := ⟨zq_42 zg_14_105_105.2.2.2.1, rfl⟩
theorem zd_14_105_109 : zz_D zy_network_14_105 109 (.invokevirtual 526) 3 112 := ⟨zq_182 zg_14_105_105.2.2.2.2.1 zg_14_105_105.2.2.2.2.2.1 zg_14_105_105.2.2.2.2.2.2.1 rfl, rfl⟩
theorem zd_14_105_112 : zz_D zy_network_14_105 112 (.aload_n 0) 1 113 := ⟨zq_42 zg_14_105_105.2.2.2.2.2.2.2.1, rfl⟩
theorem zd_14_105_113 : zz_D zy_network_14_105 113 (.getfield 347) 3 116 := ⟨zq_180 zg_14_105_105.2.2.2.2.2.2.2.2.1 zg_14_105_105.2.2.2.2.2.2.2.2.2.1 zg_14_105_105.2.2.2.2.2.2.2.2.2.2.1 rfl, rfl⟩
theorem zd_14_105_116 : zz_B zy_network_14_105 116 (Instr.ifCond .eq) 138 119 := ⟨22, zq_153 zg_14_105_105.2.2.2.2.2.2.2.2.2.2.2.1 zg_14_105_105.2.2.2.2.2.2.2.2.2.2.2.2.1 zg_14_105_105.2.2.2.2.2.2.2.2.2.2.2.2.2.1 (by decide), rfl, rfl⟩
theorem zd_14_105_138 : zz_D zy_network_14_105 138 (.iload 5) 2 140 := ⟨zq_21 zg_14_105_105.2.2.2.2.2.2.2.2.2.2.2.2.2.2.1 zg_14_105_105.2.2.2.2.2.2.2.2.2.2.2.2.2.2.2.1, rfl⟩
theorem zd_14_105_140 : zz_D zy_network_14_105 140 (.iconst 1) 1 141 := ⟨zq_4 zg_14_105_105.2.2.2.2.2.2.2.2.2.2.2.2.2.2.2.2.1, rfl⟩
theorem zd_14_105_141 : zz_D zy_network_14_105 141 (.iadd) 1 142 := ⟨zq_96 zg_14_105_105.2.2.2.2.2.2.2.2.2.2.2.2.2.2.2.2.2.1, rfl⟩
theorem zd_14_105_142 : zz_D zy_network_14_105 142 (.istore_n 3) 1 143 := ⟨zq_62 zg_14_105_105.2.2.2.2.2.2.2.2.2.2.2.2.2.2.2.2.2.2.1, rfl⟩
theorem zd_14_105_143 : zz_D zy_network_14_105 143 (.iinc 2 1) 3 146 := ⟨zq_132 zg_14_105_105.2.2.2.2.2.2.2.2.2.2.2.2.2.2.2.2.2.2.2.1 zg_14_105_105.2.2.2.2.2.2.2.2.2.2.2.2.2.2.2.2.2.2.2.2.1 zg_14_105_105.2.2.2.2.2.2.2.2.2.2.2.2.2.2.2.2.2.2.2.2.2 (by decide), rfl⟩
theorem zg_14_105_146 : zq_at zy_network_14_105.2.1 146 167 ∧ zq_at zy_network_14_105.2.1 147 255 ∧ zq_at zy_network_14_105.2.1 148 129 ∧ zq_at zy_network_14_105.2.1 119 27 ∧ zq_at zy_network_14_105.2.1 120 153 ∧ zq_at zy_network_14_105.2.1 121 0 ∧ zq_at zy_network_14_105.2.1 122 10 ∧ zq_at zy_network_14_105.2.1 130 42 ∧ zq_at zy_network_14_105.2.1 131 182 ∧ zq_at zy_network_14_105.2.1 132 2 ∧ zq_at zy_network_14_105.2.1 133 89 ∧ zq_at zy_network_14_105.2.1 134 54 ∧ zq_at zy_network_14_105.2.1 135 4 ∧ zq_at zy_network_14_105.2.1 136 4 ∧ zq_at zy_network_14_105.2.1 137 60 ∧ zq_at zy_network_14_105.2.1 123 42 ∧ zq_at zy_network_14_105.2.1 124 182 ∧ zq_at zy_network_14_105.2.1 125 2 ∧ zq_at zy_network_14_105.2.1 126 86 ∧ zq_at zy_network_14_105.2.1 127 167 ∧ zq_at zy_network_14_105.2.1 128 0 ∧ zq_at zy_network_14_105.2.1 129 7 ∧ zq_at zy_network_14_105.2.1 76 42 := by decide +kernel
theorem zd_14_105_146 : zz_B zy_network_14_105 146 Instr.goto 19 149 := ⟨(-127), zq_167 zg_14_105_146.1 zg_14_105_146.2.1 zg_14_105_146.2.2.1 (by decide), rfl, rfl⟩
theorem zd_14_105_119 : zz_D zy_network_14_105 119 (.iload_n 1) 1 120 := ⟨zq_27 zg_14_105_146.2.2.2.1, rfl⟩
theorem zd_14_105_120 : zz_B zy_network_14_105 120 (Instr.ifCond .eq) 130 123 := ⟨10, zq_153 zg_14_105_146.2.2.2.2.1 zg_14_105_146.2.2.2.2.2.1 zg_14_105_146.2.2.2.2.2.2.1 (by decide), rfl, rfl⟩
theorem zd_14_105_130 : zz_D zy_network_14_105 130 (.aload_n 0) 1 131 := ⟨zq_42 zg_14_105_146.2.2.2.2.2.2.2.1, rfl⟩
theorem zd_14_105_131 : zz_D zy_network_14_105 131 (.invokevirtual 601) 3 134 := ⟨zq_182 zg_14_105_146.2.2.2.2.2.2.2.2.1 zg_14_105_146.2.2.2.2.2.2.2.2.2.1 zg_14_105_146.2.2.2.2.2.2.2.2.2.2.1 rfl, rfl⟩
theorem zd_14_105_134 : zz_D zy_network_14_105 134 (.istore 4) 2 136 := ⟨zq_54 zg_14_105_146.2.2.2.2.2.2.2.2.2.2.2.1 zg_14_105_146.2.2.2.2.2.2.2.2.2.2.2.2.1, rfl⟩
theorem zd_14_105_136 : zz_D zy_network_14_105 136 (.iconst 1) 1 137 := ⟨zq_4 zg_14_105_146.2.2.2.2.2.2.2.2.2.2.2.2.2.1, rfl⟩
theorem zd_14_105_137 : zz_D zy_network_14_105 137 (.istore_n 1) 1 138 := ⟨zq_60 zg_14_105_146.2.2.2.2.2.2.2.2.2.2.2.2.2.2.1, rfl⟩
theorem zd_14_105_123 : zz_D zy_network_14_105 123 (.aload_n 0) 1 124 := ⟨zq_42 zg_14_105_146.2.2.2.2.2.2.2.2.2.2.2.2.2.2.2.1, rfl⟩
theorem zd_14_105_124 : zz_D zy_network_14_105 124 (.invokevirtual 598) 3 127 := ⟨zq_182 zg_14_105_146.2.2.2.2.2.2.2.2.2.2.2.2.2.2.2.2.1 zg_14_105_146.2.2.2.2.2.2.2.2.2.2.2.2.2.2.2.2.2.1 zg_14_105_146.2.2.2.2.2.2.2.2.2.2.2.2.2.2.2.2.2.2.1 rfl, rfl⟩
theorem zd_14_105_127 : zz_B zy_network_14_105 127 Instr.goto 134 130 := ⟨7, zq_167 zg_14_105_146.2.2.2.2.2.2.2.2.2.2.2.2.2.2.2.2.2.2.2.1 zg_14_105_146.2.2.2.2.2.2.2.2.2.2.2.2.2.2.2.2.2.2.2.2.1 zg_14_105_146.2.2.2.2.2.2.2.2.2.2.2.2.2.2.2.2.2.2.2.2.2.1 (by decide), rfl, rfl⟩
theorem zd_14_105_76 : zz_D zy_network_14_105 76 (.aload_n 0) 1 77 := ⟨zq_42 zg_14_105_146.2.2.2.2.2.2.2.2.2.2.2.2.2.2.2.2.2.2.2.2.2.2, rfl⟩
theorem zg_14_105_77 : zq_at zy_network_14_105.2.1 77 180 ∧ zq_at zy_network_14_105.2.1 78 0 ∧ zq_at zy_network_14_105.2.1 79 76 ∧ zq_at zy_network_14_105.2.1 80 42 ∧ zq_at zy_network_14_105.2.1 81 180 ∧ zq_at zy_network_14_105.2.1 82 1 ∧ zq_at zy_network_14_105.2.1 83 81 ∧ zq_at zy_network_14_105.2.1 84 46 ∧ zq_at zy_network_14_105.2.1 85 16 ∧ zq_at zy_network_14_105.2.1 86 35 ∧ zq_at zy_network_14_105.2.1 87 159 ∧ zq_at zy_network_14_105.2.1 88 0 ∧ zq_at zy_network_14_105.2.1 89 16 ∧ zq_at zy_network_14_105.2.1 90 42 ∧ zq_at zy_network_14_105.2.1 91 89 ∧ zq_at zy_network_14_105.2.1 92 180 ∧ zq_at zy_network_14_105.2.1 93 1 ∧ zq_at zy_network_14_105.2.1 94 81 ∧ zq_at zy_network_14_105.2.1 95 4 ∧ zq_at zy_network_14_105.2.1 96 96 ∧ zq_at zy_network_14_105.2.1 97 181 ∧ zq_at zy_network_14_105.2.1 98 1 ∧ zq_at zy_network_14_105.2.1 99 81 := by decide +kernel
theorem zd_14_105_77 : zz_D zy_network_14_105 77 (.getfield 76) 3 80 := ⟨zq_180 zg_14_105_77.1 zg_14_105_77.2.1 zg_14_105_77.2.2.1 rfl, rfl⟩
theorem zd_14_105_80 : zz_D zy_network_14_105 80 (.aload_n 0) 1 81 := ⟨zq_42 zg_14_105_77.2.2.2.1, rfl⟩
theorem zd_14_105_81 : zz_D zy_network_14_105 81 (.getfield 337) 3 84 := ⟨zq_180 zg_14_105_77.2.2.2.2.1 zg_14_105_77.2.2.2.2.2.1 zg_14_105_77.2.2.2.2.2.2.1 rfl, rfl⟩
theorem zd_14_105_84 : zz_D zy_network_14_105 84 (.iaload) 1 85 := ⟨zq_46 zg_14_105_77.2.2.2.2.2.2.2.1, rfl⟩
theorem zd_14_105_85 : zz_D zy_network_14_105 85 (.bipush 35) 2 87 := ⟨zq_16 zg_14_105_77.2.2.2.2.2.2.2.2.1 zg_14_105_77.2.2.2.2.2.2.2.2.2.1 (by decide), rfl⟩
theorem zd_14_105_87 : zz_B zy_network_14_105 87 (Instr.if_icmp .eq) 103 90 := ⟨16, zq_159 zg_14_105_77.2.2.2.2.2.2.2.2.2.2.1 zg_14_105_77.2.2.2.2.2.2.2.2.2.2.2.1 zg_14_105_77.2.2.2.2.2.2.2.2.2.2.2.2.1 (by decide), rfl, rfl⟩
theorem zd_14_105_90 : zz_D zy_network_14_105 90 (.aload_n 0) 1 91 := ⟨zq_42 zg_14_105_77.2.2.2.2.2.2.2.2.2.2.2.2.2.1, rfl⟩
theorem zd_14_105_91 : zz_D zy_network_14_105 91 (.dup) 1 92 := ⟨zq_89 zg_14_105_77.2.2.2.2.2.2.2.2.2.2.2.2.2.2.1, rfl⟩
theorem zd_14_105_92 : zz_D zy_network_14_105 92 (.getfield 337) 3 95 := ⟨zq_180 zg_14_105_77.2.2.2.2.2.2.2.2.2.2.2.2.2.2.2.1 zg_14_105_77.2.2.2.2.2.2.2.2.2.2.2.2.2.2.2.2.1 zg_14_105_77.2.2.2.2.2.2.2.2.2.2.2.2.2.2.2.2.2.1 rfl, rfl⟩
theorem zd_14_105_95 : zz_D zy_network_14_105 95 (.iconst 1) 1 96 := ⟨zq_4 zg_14_105_77.2.2.2.2.2.2.2.2.2.2.2.2.2.2.2.2.2.2.1, rfl⟩
theorem zd_14_105_96 : zz_D zy_network_14_105 96 (.iadd) 1 97 := ⟨zq_96 zg_14_105_77.2.2.2.2.2.2.2.2.2.2.2.2.2.2.2.2.2.2.2.1, rfl⟩
theorem zd_14_105_97 : zz_D zy_network_14_105 97 (.putfield 337) 3 100 := ⟨zq_181 zg_14_105_77.2.2.2.2.2.2.2.2.2.2.2.2.2.2.2.2.2.2.2.2.1 zg_14_105_77.2.2.2.2.2.2.2.2.2.2.2.2.2.2.2.2.2.2.2.2.2.1 zg_14_105_77.2.2.2.2.2.2.2.2.2.2.2.2.2.2.2.2.2.2.2.2.2.2 rfl, rfl⟩
theorem zg_14_105_100 : zq_at zy_network_14_105.2.1 100 167 ∧ zq_at zy_network_14_105.2.1 101 255 ∧ zq_at zy_network_14_105.2.1 102 223 := by decide +kernel
theorem zd_14_105_100 : zz_B zy_network_14_105 100 Instr.goto 67 103 := ⟨(-33), zq_167 zg_14_105_100.1 zg_14_105_100.2.1 zg_14_105_100.2.2 (by decide), rfl, rfl⟩

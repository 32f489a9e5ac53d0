-- TensorForgeModel keepRow ([IIIZ)V
abbrev zr_keepRow_14_92_1102_11_0_1 : Room := { frames := 0, cells := 0, slots := 0, locals := 0 }
def zp_keepRow_14_92_1102_11_0_1  (S0 : zz_S) : zz_S → Prop := fun S => zz_G S ∧ zz_fr [] [1102] (fun _ _ => False) S0 S ∧ (∀ u : Nat, u < 11 → S 1102 u = S0 1119 (0 + u))
theorem zb_keepRow_14_92_1102_11_0_1_3 {g : mm_G} {l : Launch}  (S0 : zz_S) (n : Nat) (hn : zz_end ≤ n) (G_S0 : zz_G S0)  (x5 : Int) (S : zz_S) (G_S : zz_G S) (F_S : zz_fr [] [1102] (fun _ _ => False) S0 S) (i3_0 : 0 ≤ x5 ∧ x5 ≤ 11) (i3_1 : ∀ u : Nat, (u : Int) < x5 → S 1102 u = S0 1119 (0 + u)) (R : Nat) (hR : (11 - x5).toNat = R) (k3 : ∀ (x5 : Int) (S : zz_S), zz_G S → zz_fr [] [1102] (fun _ _ => False) S0 S → (0 ≤ x5 ∧ x5 ≤ 11) → (∀ u : Nat, (u : Int) < x5 → S 1102 u = S0 1119 (0 + u)) → (11 - x5).toNat < R → zz_E g l zy_keepRow_14_92 zr_keepRow_14_92_1102_11_0_1 (zz_QV n (zp_keepRow_14_92_1102_11_0_1  S0)) S n 3 [some (.ref 1079), some (.ref 1102), some (zi 11), some (zi 0), some (zi 1), some (zi x5)] [] 0 0) : zz_E g l zy_keepRow_14_92 zr_keepRow_14_92_1102_11_0_1 (zz_QV n (zp_keepRow_14_92_1102_11_0_1  S0)) S n 3 [some (.ref 1079), some (.ref 1102), some (zi 11), some (zi 0), some (zi 1), some (zi x5)] [] 0 0 := by
  refine zz_iload (x := x5) rfl zd_14_92_3 ?_
  refine zz_iload_n (x := 11) rfl zd_14_92_5 ?_
  refine zz_icmp_ge (by omega) (by omega) zd_14_92_6 (fun c1 => ?_) (fun c1 => ?_)
  · exact zz_vret zd_14_92_49 rfl (Nat.zero_le _) (Nat.zero_le _) ⟨_, rfl, G_S, F_S, fun u hu => i3_1 u (by omega)⟩
  · refine zz_iload (x := 1) rfl zd_14_92_9 ?_
    refine zz_if_eq (by omega) zd_14_92_11 (fun c2 => ?_) (fun c2 => ?_)
    · exfalso; omega
    · refine zz_aload_n (x := 1102) rfl zd_14_92_14 ?_
      refine zz_iload (x := x5) rfl zd_14_92_15 ?_
      refine zz_aload_n (x := 1079) rfl zd_14_92_17 ?_
      refine zz_getr (kd := 0) (z := 1119) zd_14_92_18 zf_Md_139 zT_1079 rfl (zz_ltn hn rfl) (zz_G.eq G_S 1079 67 1119 rfl rfl) (by decide) 1119 rfl ?_
      refine zz_iload_n (x := 0) rfl zd_14_92_21 ?_
      refine zz_iload (x := x5) rfl zd_14_92_22 ?_
      refine zz_iadd zd_14_92_24 ?_
      have g3 := zz_G.r G_S0 1119 ((0 + x5).toNat) (0) (if (0 + x5).toNat < 12 then 63 else if (0 + x5).toNat < 24 then 63 else if (0 + x5).toNat < 36 then 63 else if (0 + x5).toNat < 37 then 0 else if (0 + x5).toNat < 48 then 10000000 else if (0 + x5).toNat < 59 then 2 else if (0 + x5).toNat < 70 then 10 else if (0 + x5).toNat < 81 then 10 else if (0 + x5).toNat < 92 then 3 else if (0 + x5).toNat < 103 then 3 else if (0 + x5).toNat < 114 then 3 else if (0 + x5).toNat < 125 then 1 else if (0 + x5).toNat < 136 then 31 else 4096) rfl rfl
      refine zz_iald (z := S0 1119 ((0 + x5).toNat)) zd_14_92_25 zT_1119 rfl (zz_ltn hn rfl) (by decide) (by omega) (zz_rc F_S (zz_nc1 rfl) rfl (fun h => h) rfl) ?_
      refine zz_iast zd_14_92_26 zT_1102 rfl (zz_ltn hn rfl) (by decide) (by omega) (fun S4 qS4 => ?_)
      have G_S4 := zz_G.put G_S qS4 0 63 rfl (by omega)
      have F_S4 := zz_fr.putc F_S qS4 rfl
      refine zz_goto zd_14_92_27 ?_
      refine zz_iinc [some (.ref 1079), some (.ref 1102), some (zi 11), some (zi 0), some (zi 1), some (zi (x5 + 1))] zd_14_92_43 rfl rfl ?_
      refine zz_goto zd_14_92_46 ?_
      refine zz_less (ls1 := [some (.ref 1079), some (.ref 1102), some (zi 11), some (zi 0), some (zi 1), some (zi (x5 + 1))]) ⟨rfl, ⟨rfl, ⟨rfl, ⟨rfl, ⟨rfl, ⟨rfl, trivial⟩⟩⟩⟩⟩⟩ ?_
      exact k3 (x5 + 1) S4 G_S4 F_S4 (by omega) (fun u hu => (Decidable.em ((u : Int) = x5)).elim (fun h => by rw [show u = x5.toNat by omega, zz_rs qS4, show (0 + x5).toNat = 0 + x5.toNat by omega]) (fun h => by rw [zz_ro (b := 1102) (j := u) qS4 (fun h9 => by omega) rfl]; exact i3_1 u (by omega))) (by omega)
theorem zi_keepRow_14_92_1102_11_0_1 {g : mm_G} {l : Launch}  (S0 : zz_S) (n : Nat) (hn : zz_end ≤ n) (G_S0 : zz_G S0)  : ∀ N : Nat, (∀ (x5 : Int) (S : zz_S), zz_G S → zz_fr [] [1102] (fun _ _ => False) S0 S → (0 ≤ x5 ∧ x5 ≤ 11) → (∀ u : Nat, (u : Int) < x5 → S 1102 u = S0 1119 (0 + u)) → (11 - x5).toNat < N → zz_E g l zy_keepRow_14_92 zr_keepRow_14_92_1102_11_0_1 (zz_QV n (zp_keepRow_14_92_1102_11_0_1  S0)) S n 3 [some (.ref 1079), some (.ref 1102), some (zi 11), some (zi 0), some (zi 1), some (zi x5)] [] 0 0) := by
  intro N
  induction N with
  | zero => exact fun x5 S _ _ _ _ h => absurd h (Nat.not_lt_zero _)
  | succ N ih =>
    exact fun x5 S a b j0 j1 hR => zb_keepRow_14_92_1102_11_0_1_3  S0 n hn G_S0  x5 S a b j0 j1 _ rfl (fun x5 S a b j0 j1 h => ih x5 S a b j0 j1 (Nat.lt_of_lt_of_le h (Nat.le_of_lt_succ hR)))
theorem zc_keepRow_14_92_1102_11_0_1 {g : mm_G} {l : Launch}  (S0 : zz_S) (n : Nat) (hn : zz_end ≤ n) (G_S0 : zz_G S0)  : mm_Met g l zy_keepRow_14_92 zr_keepRow_14_92_1102_11_0_1 [.ref 1079, .ref 1102, zi 11, zi 0, zi 1] (zz_M S0 n) n (zz_QV n (zp_keepRow_14_92_1102_11_0_1  S0)) := by
  refine zz_enter (by decide) (Nat.le_of_ble_eq_true rfl) (zz_less (ls1 := [some (.ref 1079), some (.ref 1102), some (zi 11), some (zi 0), some (zi 1)]) ⟨rfl, ⟨rfl, ⟨rfl, ⟨rfl, ⟨rfl, trivial⟩⟩⟩⟩⟩ ?_)
  have F_S0 : zz_fr [] [1102] (fun _ _ => False) S0 S0 := zz_fr.refl
  have k3 : ∀ (x5 : Int) (S : zz_S), zz_G S → zz_fr [] [1102] (fun _ _ => False) S0 S → (0 ≤ x5 ∧ x5 ≤ 11) → (∀ u : Nat, (u : Int) < x5 → S 1102 u = S0 1119 (0 + u)) → zz_E g l zy_keepRow_14_92 zr_keepRow_14_92_1102_11_0_1 (zz_QV n (zp_keepRow_14_92_1102_11_0_1  S0)) S n 3 [some (.ref 1079), some (.ref 1102), some (zi 11), some (zi 0), some (zi 1), some (zi x5)] [] 0 0 := fun x5 S a b j0 j1 => (zi_keepRow_14_92_1102_11_0_1 (g := g) (l := l)  S0 n hn G_S0  _) x5 S a b j0 j1 (Nat.lt_succ_self _)
  refine zz_iconst zd_14_92_0 ?_
  refine zz_istore [some (.ref 1079), some (.ref 1102), some (zi 11), some (zi 0), some (zi 1), some (zi 0)] zd_14_92_1 (by decide) rfl ?_
  refine zz_less (ls1 := [some (.ref 1079), some (.ref 1102), some (zi 11), some (zi 0), some (zi 1), some (zi 0)]) ⟨rfl, ⟨rfl, ⟨rfl, ⟨rfl, ⟨rfl, ⟨rfl, trivial⟩⟩⟩⟩⟩⟩ ?_
  exact k3 0 S0 G_S0 F_S0 (by omega) (fun u h => absurd h (by omega))
-- TensorForgeModel keepRow ([IIIZ)V
abbrev zr_keepRow_14_92_1103_11_12_1 : Room := { frames := 0, cells := 0, slots := 0, locals := 0 }
def zp_keepRow_14_92_1103_11_12_1  (S0 : zz_S) : zz_S → Prop := fun S => zz_G S ∧ zz_fr [] [1103] (fun _ _ => False) S0 S ∧ (∀ u : Nat, u < 11 → S 1103 u = S0 1119 (12 + u))
theorem zb_keepRow_14_92_1103_11_12_1_3 {g : mm_G} {l : Launch}  (S0 : zz_S) (n : Nat) (hn : zz_end ≤ n) (G_S0 : zz_G S0)  (x5 : Int) (S : zz_S) (G_S : zz_G S) (F_S : zz_fr [] [1103] (fun _ _ => False) S0 S) (i3_0 : 0 ≤ x5 ∧ x5 ≤ 11) (i3_1 : ∀ u : Nat, (u : Int) < x5 → S 1103 u = S0 1119 (12 + u)) (R : Nat) (hR : (11 - x5).toNat = R) (k3 : ∀ (x5 : Int) (S : zz_S), zz_G S → zz_fr [] [1103] (fun _ _ => False) S0 S → (0 ≤ x5 ∧ x5 ≤ 11) → (∀ u : Nat, (u : Int) < x5 → S 1103 u = S0 1119 (12 + u)) → (11 - x5).toNat < R → zz_E g l zy_keepRow_14_92 zr_keepRow_14_92_1103_11_12_1 (zz_QV n (zp_keepRow_14_92_1103_11_12_1  S0)) S n 3 [some (.ref 1079), some (.ref 1103), some (zi 11), some (zi 12), some (zi 1), some (zi x5)] [] 0 0) : zz_E g l zy_keepRow_14_92 zr_keepRow_14_92_1103_11_12_1 (zz_QV n (zp_keepRow_14_92_1103_11_12_1  S0)) S n 3 [some (.ref 1079), some (.ref 1103), some (zi 11), some (zi 12), some (zi 1), some (zi x5)] [] 0 0 := by
  refine zz_iload (x := x5) rfl zd_14_92_3 ?_
  refine zz_iload_n (x := 11) rfl zd_14_92_5 ?_
  refine zz_icmp_ge (by omega) (by omega) zd_14_92_6 (fun c1 => ?_) (fun c1 => ?_)
  · exact zz_vret zd_14_92_49 rfl (Nat.zero_le _) (Nat.zero_le _) ⟨_, rfl, G_S, F_S, fun u hu => i3_1 u (by omega)⟩
  · refine zz_iload (x := 1) rfl zd_14_92_9 ?_
    refine zz_if_eq (by omega) zd_14_92_11 (fun c2 => ?_) (fun c2 => ?_)
    · exfalso; omega
    · refine zz_aload_n (x := 1103) rfl zd_14_92_14 ?_
      refine zz_iload (x := x5) rfl zd_14_92_15 ?_
      refine zz_aload_n (x := 1079) rfl zd_14_92_17 ?_
      refine zz_getr (kd := 0) (z := 1119) zd_14_92_18 zf_Md_139 zT_1079 rfl (zz_ltn hn rfl) (zz_G.eq G_S 1079 67 1119 rfl rfl) (by decide) 1119 rfl ?_
      refine zz_iload_n (x := 12) rfl zd_14_92_21 ?_
      refine zz_iload (x := x5) rfl zd_14_92_22 ?_
      refine zz_iadd zd_14_92_24 ?_
      have g3 := zz_G.r G_S0 1119 ((12 + x5).toNat) (0) (if (12 + x5).toNat < 12 then 63 else if (12 + x5).toNat < 24 then 63 else if (12 + x5).toNat < 36 then 63 else if (12 + x5).toNat < 37 then 0 else if (12 + x5).toNat < 48 then 10000000 else if (12 + x5).toNat < 59 then 2 else if (12 + x5).toNat < 70 then 10 else if (12 + x5).toNat < 81 then 10 else if (12 + x5).toNat < 92 then 3 else if (12 + x5).toNat < 103 then 3 else if (12 + x5).toNat < 114 then 3 else if (12 + x5).toNat < 125 then 1 else if (12 + x5).toNat < 136 then 31 else 4096) rfl rfl
      refine zz_iald (z := S0 1119 ((12 + x5).toNat)) zd_14_92_25 zT_1119 rfl (zz_ltn hn rfl) (by decide) (by omega) (zz_rc F_S (zz_nc1 rfl) rfl (fun h => h) rfl) ?_
      refine zz_iast zd_14_92_26 zT_1103 rfl (zz_ltn hn rfl) (by decide) (by omega) (fun S4 qS4 => ?_)
      have G_S4 := zz_G.put G_S qS4 0 63 rfl (by omega)
      have F_S4 := zz_fr.putc F_S qS4 rfl
      refine zz_goto zd_14_92_27 ?_
      refine zz_iinc [some (.ref 1079), some (.ref 1103), some (zi 11), some (zi 12), some (zi 1), some (zi (x5 + 1))] zd_14_92_43 rfl rfl ?_
      refine zz_goto zd_14_92_46 ?_
      refine zz_less (ls1 := [some (.ref 1079), some (.ref 1103), some (zi 11), some (zi 12), some (zi 1), some (zi (x5 + 1))]) ⟨rfl, ⟨rfl, ⟨rfl, ⟨rfl, ⟨rfl, ⟨rfl, trivial⟩⟩⟩⟩⟩⟩ ?_
      exact k3 (x5 + 1) S4 G_S4 F_S4 (by omega) (fun u hu => (Decidable.em ((u : Int) = x5)).elim (fun h => by rw [show u = x5.toNat by omega, zz_rs qS4, show (12 + x5).toNat = 12 + x5.toNat by omega]) (fun h => by rw [zz_ro (b := 1103) (j := u) qS4 (fun h9 => by omega) rfl]; exact i3_1 u (by omega))) (by omega)
theorem zi_keepRow_14_92_1103_11_12_1 {g : mm_G} {l : Launch}  (S0 : zz_S) (n : Nat) (hn : zz_end ≤ n) (G_S0 : zz_G S0)  : ∀ N : Nat, (∀ (x5 : Int) (S : zz_S), zz_G S → zz_fr [] [1103] (fun _ _ => False) S0 S → (0 ≤ x5 ∧ x5 ≤ 11) → (∀ u : Nat, (u : Int) < x5 → S 1103 u = S0 1119 (12 + u)) → (11 - x5).toNat < N → zz_E g l zy_keepRow_14_92 zr_keepRow_14_92_1103_11_12_1 (zz_QV n (zp_keepRow_14_92_1103_11_12_1  S0)) S n 3 [some (.ref 1079), some (.ref 1103), some (zi 11), some (zi 12), some (zi 1), some (zi x5)] [] 0 0) := by
  intro N
  induction N with
  | zero => exact fun x5 S _ _ _ _ h => absurd h (Nat.not_lt_zero _)
  | succ N ih =>
    exact fun x5 S a b j0 j1 hR => zb_keepRow_14_92_1103_11_12_1_3  S0 n hn G_S0  x5 S a b j0 j1 _ rfl (fun x5 S a b j0 j1 h => ih x5 S a b j0 j1 (Nat.lt_of_lt_of_le h (Nat.le_of_lt_succ hR)))
theorem zc_keepRow_14_92_1103_11_12_1 {g : mm_G} {l : Launch}  (S0 : zz_S) (n : Nat) (hn : zz_end ≤ n) (G_S0 : zz_G S0)  : mm_Met g l zy_keepRow_14_92 zr_keepRow_14_92_1103_11_12_1 [.ref 1079, .ref 1103, zi 11, zi 12, zi 1] (zz_M S0 n) n (zz_QV n (zp_keepRow_14_92_1103_11_12_1  S0)) := by
  refine zz_enter (by decide) (Nat.le_of_ble_eq_true rfl) (zz_less (ls1 := [some (.ref 1079), some (.ref 1103), some (zi 11), some (zi 12), some (zi 1)]) ⟨rfl, ⟨rfl, ⟨rfl, ⟨rfl, ⟨rfl, trivial⟩⟩⟩⟩⟩ ?_)
  have F_S0 : zz_fr [] [1103] (fun _ _ => False) S0 S0 := zz_fr.refl
  have k3 : ∀ (x5 : Int) (S : zz_S), zz_G S → zz_fr [] [1103] (fun _ _ => False) S0 S → (0 ≤ x5 ∧ x5 ≤ 11) → (∀ u : Nat, (u : Int) < x5 → S 1103 u = S0 1119 (12 + u)) → zz_E g l zy_keepRow_14_92 zr_keepRow_14_92_1103_11_12_1 (zz_QV n (zp_keepRow_14_92_1103_11_12_1  S0)) S n 3 [some (.ref 1079), some (.ref 1103), some (zi 11), some (zi 12), some (zi 1), some (zi x5)] [] 0 0 := fun x5 S a b j0 j1 => (zi_keepRow_14_92_1103_11_12_1 (g := g) (l := l)  S0 n hn G_S0  _) x5 S a b j0 j1 (Nat.lt_succ_self _)
  refine zz_iconst zd_14_92_0 ?_
  refine zz_istore [some (.ref 1079), some (.ref 1103), some (zi 11), some (zi 12), some (zi 1), some (zi 0)] zd_14_92_1 (by decide) rfl ?_
  refine zz_less (ls1 := [some (.ref 1079), some (.ref 1103), some (zi 11), some (zi 12), some (zi 1), some (zi 0)]) ⟨rfl, ⟨rfl, ⟨rfl, ⟨rfl, ⟨rfl, ⟨rfl, trivial⟩⟩⟩⟩⟩⟩ ?_
  exact k3 0 S0 G_S0 F_S0 (by omega) (fun u h => absurd h (by omega))
-- TensorForgeModel keepRow ([IIIZ)V
abbrev zr_keepRow_14_92_1104_11_24_1 : Room := { frames := 0, cells := 0, slots := 0, locals := 0 }
def zp_keepRow_14_92_1104_11_24_1  (S0 : zz_S) : zz_S → Prop := fun S => zz_G S ∧ zz_fr [] [1104] (fun _ _ => False) S0 S ∧ (∀ u : Nat, u < 11 → S 1104 u = S0 1119 (24 + u))
theorem zb_keepRow_14_92_1104_11_24_1_3 {g : mm_G} {l : Launch}  (S0 : zz_S) (n : Nat) (hn : zz_end ≤ n) (G_S0 : zz_G S0)  (x5 : Int) (S : zz_S) (G_S : zz_G S) (F_S : zz_fr [] [1104] (fun _ _ => False) S0 S) (i3_0 : 0 ≤ x5 ∧ x5 ≤ 11) (i3_1 : ∀ u : Nat, (u : Int) < x5 → S 1104 u = S0 1119 (24 + u)) (R : Nat) (hR : (11 - x5).toNat = R) (k3 : ∀ (x5 : Int) (S : zz_S), zz_G S → zz_fr [] [1104] (fun _ _ => False) S0 S → (0 ≤ x5 ∧ x5 ≤ 11) → (∀ u : Nat, (u : Int) < x5 → S 1104 u = S0 1119 (24 + u)) → (11 - x5).toNat < R → zz_E g l zy_keepRow_14_92 zr_keepRow_14_92_1104_11_24_1 (zz_QV n (zp_keepRow_14_92_1104_11_24_1  S0)) S n 3 [some (.ref 1079), some (.ref 1104), some (zi 11), some (zi 24), some (zi 1), some (zi x5)] [] 0 0) : zz_E g l zy_keepRow_14_92 zr_keepRow_14_92_1104_11_24_1 (zz_QV n (zp_keepRow_14_92_1104_11_24_1  S0)) S n 3 [some (.ref 1079), some (.ref 1104), some (zi 11), some (zi 24), some (zi 1), some (zi x5)] [] 0 0 := by
  refine zz_iload (x := x5) rfl zd_14_92_3 ?_
  refine zz_iload_n (x := 11) rfl zd_14_92_5 ?_
  refine zz_icmp_ge (by omega) (by omega) zd_14_92_6 (fun c1 => ?_) (fun c1 => ?_)
  · exact zz_vret zd_14_92_49 rfl (Nat.zero_le _) (Nat.zero_le _) ⟨_, rfl, G_S, F_S, fun u hu => i3_1 u (by omega)⟩
  · refine zz_iload (x := 1) rfl zd_14_92_9 ?_
    refine zz_if_eq (by omega) zd_14_92_11 (fun c2 => ?_) (fun c2 => ?_)
    · exfalso; omega
    · refine zz_aload_n (x := 1104) rfl zd_14_92_14 ?_
      refine zz_iload (x := x5) rfl zd_14_92_15 ?_
      refine zz_aload_n (x := 1079) rfl zd_14_92_17 ?_
      refine zz_getr (kd := 0) (z := 1119) zd_14_92_18 zf_Md_139 zT_1079 rfl (zz_ltn hn rfl) (zz_G.eq G_S 1079 67 1119 rfl rfl) (by decide) 1119 rfl ?_
      refine zz_iload_n (x := 24) rfl zd_14_92_21 ?_
      refine zz_iload (x := x5) rfl zd_14_92_22 ?_
      refine zz_iadd zd_14_92_24 ?_
      have g3 := zz_G.r G_S0 1119 ((24 + x5).toNat) (0) (if (24 + x5).toNat < 12 then 63 else if (24 + x5).toNat < 24 then 63 else if (24 + x5).toNat < 36 then 63 else if (24 + x5).toNat < 37 then 0 else if (24 + x5).toNat < 48 then 10000000 else if (24 + x5).toNat < 59 then 2 else if (24 + x5).toNat < 70 then 10 else if (24 + x5).toNat < 81 then 10 else if (24 + x5).toNat < 92 then 3 else if (24 + x5).toNat < 103 then 3 else if (24 + x5).toNat < 114 then 3 else if (24 + x5).toNat < 125 then 1 else if (24 + x5).toNat < 136 then 31 else 4096) rfl rfl
      refine zz_iald (z := S0 1119 ((24 + x5).toNat)) zd_14_92_25 zT_1119 rfl (zz_ltn hn rfl) (by decide) (by omega) (zz_rc F_S (zz_nc1 rfl) rfl (fun h => h) rfl) ?_
      refine zz_iast zd_14_92_26 zT_1104 rfl (zz_ltn hn rfl) (by decide) (by omega) (fun S4 qS4 => ?_)
      have G_S4 := zz_G.put G_S qS4 0 63 rfl (by omega)
      have F_S4 := zz_fr.putc F_S qS4 rfl
      refine zz_goto zd_14_92_27 ?_
      refine zz_iinc [some (.ref 1079), some (.ref 1104), some (zi 11), some (zi 24), some (zi 1), some (zi (x5 + 1))] zd_14_92_43 rfl rfl ?_
      refine zz_goto zd_14_92_46 ?_
      refine zz_less (ls1 := [some (.ref 1079), some (.ref 1104), some (zi 11), some (zi 24), some (zi 1), some (zi (x5 + 1))]) ⟨rfl, ⟨rfl, ⟨rfl, ⟨rfl, ⟨rfl, ⟨rfl, trivial⟩⟩⟩⟩⟩⟩ ?_
      exact k3 (x5 + 1) S4 G_S4 F_S4 (by omega) (fun u hu => (Decidable.em ((u : Int) = x5)).elim (fun h => by rw [show u = x5.toNat by omega, zz_rs qS4, show (24 + x5).toNat = 24 + x5.toNat by omega]) (fun h => by rw [zz_ro (b := 1104) (j := u) qS4 (fun h9 => by omega) rfl]; exact i3_1 u (by omega))) (by omega)
theorem zi_keepRow_14_92_1104_11_24_1 {g : mm_G} {l : Launch}  (S0 : zz_S) (n : Nat) (hn : zz_end ≤ n) (G_S0 : zz_G S0)  : ∀ N : Nat, (∀ (x5 : Int) (S : zz_S), zz_G S → zz_fr [] [1104] (fun _ _ => False) S0 S → (0 ≤ x5 ∧ x5 ≤ 11) → (∀ u : Nat, (u : Int) < x5 → S 1104 u = S0 1119 (24 + u)) → (11 - x5).toNat < N → zz_E g l zy_keepRow_14_92 zr_keepRow_14_92_1104_11_24_1 (zz_QV n (zp_keepRow_14_92_1104_11_24_1  S0)) S n 3 [some (.ref 1079), some (.ref 1104), some (zi 11), some (zi 24), some (zi 1), some (zi x5)] [] 0 0) := by
  intro N
  induction N with
  | zero => exact fun x5 S _ _ _ _ h => absurd h (Nat.not_lt_zero _)
  | succ N ih =>
    exact fun x5 S a b j0 j1 hR => zb_keepRow_14_92_1104_11_24_1_3  S0 n hn G_S0  x5 S a b j0 j1 _ rfl (fun x5 S a b j0 j1 h => ih x5 S a b j0 j1 (Nat.lt_of_lt_of_le h (Nat.le_of_lt_succ hR)))
theorem zc_keepRow_14_92_1104_11_24_1 {g : mm_G} {l : Launch}  (S0 : zz_S) (n : Nat) (hn : zz_end ≤ n) (G_S0 : zz_G S0)  : mm_Met g l zy_keepRow_14_92 zr_keepRow_14_92_1104_11_24_1 [.ref 1079, .ref 1104, zi 11, zi 24, zi 1] (zz_M S0 n) n (zz_QV n (zp_keepRow_14_92_1104_11_24_1  S0)) := by
  refine zz_enter (by decide) (Nat.le_of_ble_eq_true rfl) (zz_less (ls1 := [some (.ref 1079), some (.ref 1104), some (zi 11), some (zi 24), some (zi 1)]) ⟨rfl, ⟨rfl, ⟨rfl, ⟨rfl, ⟨rfl, trivial⟩⟩⟩⟩⟩ ?_)
  have F_S0 : zz_fr [] [1104] (fun _ _ => False) S0 S0 := zz_fr.refl
  have k3 : ∀ (x5 : Int) (S : zz_S), zz_G S → zz_fr [] [1104] (fun _ _ => False) S0 S → (0 ≤ x5 ∧ x5 ≤ 11) → (∀ u : Nat, (u : Int) < x5 → S 1104 u = S0 1119 (24 + u)) → zz_E g l zy_keepRow_14_92 zr_keepRow_14_92_1104_11_24_1 (zz_QV n (zp_keepRow_14_92_1104_11_24_1  S0)) S n 3 [some (.ref 1079), some (.ref 1104), some (zi 11), some (zi 24), some (zi 1), some (zi x5)] [] 0 0 := fun x5 S a b j0 j1 => (zi_keepRow_14_92_1104_11_24_1 (g := g) (l := l)  S0 n hn G_S0  _) x5 S a b j0 j1 (Nat.lt_succ_self _)
  refine zz_iconst zd_14_92_0 ?_
  refine zz_istore [some (.ref 1079), some (.ref 1104), some (zi 11), some (zi 24), some (zi 1), some (zi 0)] zd_14_92_1 (by decide) rfl ?_
  refine zz_less (ls1 := [some (.ref 1079), some (.ref 1104), some (zi 11), some (zi 24), some (zi 1), some (zi 0)]) ⟨rfl, ⟨rfl, ⟨rfl, ⟨rfl, ⟨rfl, ⟨rfl, trivial⟩⟩⟩⟩⟩⟩ ?_
  exact k3 0 S0 G_S0 F_S0 (by omega) (fun u h => absurd h (by omega))
-- TensorForgeModel keepRow ([IIIZ)V
abbrev zr_keepRow_14_92_1105_12_36_1 : Room := { frames := 0, cells := 0, slots := 0, locals := 0 }
def zp_keepRow_14_92_1105_12_36_1  (S0 : zz_S) : zz_S → Prop := fun S => zz_G S ∧ zz_fr [] [1105] (fun _ _ => False) S0 S ∧ (∀ u : Nat, u < 12 → S 1105 u = S0 1119 (36 + u))
theorem zb_keepRow_14_92_1105_12_36_1_3 {g : mm_G} {l : Launch}  (S0 : zz_S) (n : Nat) (hn : zz_end ≤ n) (G_S0 : zz_G S0)  (x5 : Int) (S : zz_S) (G_S : zz_G S) (F_S : zz_fr [] [1105] (fun _ _ => False) S0 S) (i3_0 : 0 ≤ x5 ∧ x5 ≤ 12) (i3_1 : ∀ u : Nat, (u : Int) < x5 → S 1105 u = S0 1119 (36 + u)) (R : Nat) (hR : (12 - x5).toNat = R) (k3 : ∀ (x5 : Int) (S : zz_S), zz_G S → zz_fr [] [1105] (fun _ _ => False) S0 S → (0 ≤ x5 ∧ x5 ≤ 12) → (∀ u : Nat, (u : Int) < x5 → S 1105 u = S0 1119 (36 + u)) → (12 - x5).toNat < R → zz_E g l zy_keepRow_14_92 zr_keepRow_14_92_1105_12_36_1 (zz_QV n (zp_keepRow_14_92_1105_12_36_1  S0)) S n 3 [some (.ref 1079), some (.ref 1105), some (zi 12), some (zi 36), some (zi 1), some (zi x5)] [] 0 0) : zz_E g l zy_keepRow_14_92 zr_keepRow_14_92_1105_12_36_1 (zz_QV n (zp_keepRow_14_92_1105_12_36_1  S0)) S n 3 [some (.ref 1079), some (.ref 1105), some (zi 12), some (zi 36), some (zi 1), some (zi x5)] [] 0 0 := by
  refine zz_iload (x := x5) rfl zd_14_92_3 ?_
  refine zz_iload_n (x := 12) rfl zd_14_92_5 ?_
  refine zz_icmp_ge (by omega) (by omega) zd_14_92_6 (fun c1 => ?_) (fun c1 => ?_)
  · exact zz_vret zd_14_92_49 rfl (Nat.zero_le _) (Nat.zero_le _) ⟨_, rfl, G_S, F_S, fun u hu => i3_1 u (by omega)⟩
  · refine zz_iload (x := 1) rfl zd_14_92_9 ?_
    refine zz_if_eq (by omega) zd_14_92_11 (fun c2 => ?_) (fun c2 => ?_)
    · exfalso; omega
    · refine zz_aload_n (x := 1105) rfl zd_14_92_14 ?_
      refine zz_iload (x := x5) rfl zd_14_92_15 ?_
      refine zz_aload_n (x := 1079) rfl zd_14_92_17 ?_
      refine zz_getr (kd := 0) (z := 1119) zd_14_92_18 zf_Md_139 zT_1079 rfl (zz_ltn hn rfl) (zz_G.eq G_S 1079 67 1119 rfl rfl) (by decide) 1119 rfl ?_
      refine zz_iload_n (x := 36) rfl zd_14_92_21 ?_
      refine zz_iload (x := x5) rfl zd_14_92_22 ?_
      refine zz_iadd zd_14_92_24 ?_
      have g3 := zz_G.r G_S0 1119 ((36 + x5).toNat) (0) (if (36 + x5).toNat < 12 then 63 else if (36 + x5).toNat < 24 then 63 else if (36 + x5).toNat < 36 then 63 else if (36 + x5).toNat < 37 then 0 else if (36 + x5).toNat < 48 then 10000000 else if (36 + x5).toNat < 59 then 2 else if (36 + x5).toNat < 70 then 10 else if (36 + x5).toNat < 81 then 10 else if (36 + x5).toNat < 92 then 3 else if (36 + x5).toNat < 103 then 3 else if (36 + x5).toNat < 114 then 3 else if (36 + x5).toNat < 125 then 1 else if (36 + x5).toNat < 136 then 31 else 4096) rfl rfl
      refine zz_iald (z := S0 1119 ((36 + x5).toNat)) zd_14_92_25 zT_1119 rfl (zz_ltn hn rfl) (by decide) (by omega) (zz_rc F_S (zz_nc1 rfl) rfl (fun h => h) rfl) ?_
      refine zz_iast zd_14_92_26 zT_1105 rfl (zz_ltn hn rfl) (by decide) (by omega) (fun S4 qS4 => ?_)
      have G_S4 := zz_G.put G_S qS4 (0) (if x5.toNat = 0 then 0 else 10000000) rfl (by omega)
      have F_S4 := zz_fr.putc F_S qS4 rfl
      refine zz_goto zd_14_92_27 ?_
      refine zz_iinc [some (.ref 1079), some (.ref 1105), some (zi 12), some (zi 36), some (zi 1), some (zi (x5 + 1))] zd_14_92_43 rfl rfl ?_
      refine zz_goto zd_14_92_46 ?_
      refine zz_less (ls1 := [some (.ref 1079), some (.ref 1105), some (zi 12), some (zi 36), some (zi 1), some (zi (x5 + 1))]) ⟨rfl, ⟨rfl, ⟨rfl, ⟨rfl, ⟨rfl, ⟨rfl, trivial⟩⟩⟩⟩⟩⟩ ?_
      exact k3 (x5 + 1) S4 G_S4 F_S4 (by omega) (fun u hu => (Decidable.em ((u : Int) = x5)).elim (fun h => by rw [show u = x5.toNat by omega, zz_rs qS4, show (36 + x5).toNat = 36 + x5.toNat by omega]) (fun h => by rw [zz_ro (b := 1105) (j := u) qS4 (fun h9 => by omega) rfl]; exact i3_1 u (by omega))) (by omega)
theorem zi_keepRow_14_92_1105_12_36_1 {g : mm_G} {l : Launch}  (S0 : zz_S) (n : Nat) (hn : zz_end ≤ n) (G_S0 : zz_G S0)  : ∀ N : Nat, (∀ (x5 : Int) (S : zz_S), zz_G S → zz_fr [] [1105] (fun _ _ => False) S0 S → (0 ≤ x5 ∧ x5 ≤ 12) → (∀ u : Nat, (u : Int) < x5 → S 1105 u = S0 1119 (36 + u)) → (12 - x5).toNat < N → zz_E g l zy_keepRow_14_92 zr_keepRow_14_92_1105_12_36_1 (zz_QV n (zp_keepRow_14_92_1105_12_36_1  S0)) S n 3 [some (.ref 1079), some (.ref 1105), some (zi 12), some (zi 36), some (zi 1), some (zi x5)] [] 0 0) := by
  intro N
  induction N with
  | zero => exact fun x5 S _ _ _ _ h => absurd h (Nat.not_lt_zero _)
  | succ N ih =>
    exact fun x5 S a b j0 j1 hR => zb_keepRow_14_92_1105_12_36_1_3  S0 n hn G_S0  x5 S a b j0 j1 _ rfl (fun x5 S a b j0 j1 h => ih x5 S a b j0 j1 (Nat.lt_of_lt_of_le h (Nat.le_of_lt_succ hR)))
theorem zc_keepRow_14_92_1105_12_36_1 {g : mm_G} {l : Launch}  (S0 : zz_S) (n : Nat) (hn : zz_end ≤ n) (G_S0 : zz_G S0)  : mm_Met g l zy_keepRow_14_92 zr_keepRow_14_92_1105_12_36_1 [.ref 1079, .ref 1105, zi 12, zi 36, zi 1] (zz_M S0 n) n (zz_QV n (zp_keepRow_14_92_1105_12_36_1  S0)) := by
  refine zz_enter (by decide) (Nat.le_of_ble_eq_true rfl) (zz_less (ls1 := [some (.ref 1079), some (.ref 1105), some (zi 12), some (zi 36), some (zi 1)]) ⟨rfl, ⟨rfl, ⟨rfl, ⟨rfl, ⟨rfl, trivial⟩⟩⟩⟩⟩ ?_)
  have F_S0 : zz_fr [] [1105] (fun _ _ => False) S0 S0 := zz_fr.refl
  have k3 : ∀ (x5 : Int) (S : zz_S), zz_G S → zz_fr [] [1105] (fun _ _ => False) S0 S → (0 ≤ x5 ∧ x5 ≤ 12) → (∀ u : Nat, (u : Int) < x5 → S 1105 u = S0 1119 (36 + u)) → zz_E g l zy_keepRow_14_92 zr_keepRow_14_92_1105_12_36_1 (zz_QV n (zp_keepRow_14_92_1105_12_36_1  S0)) S n 3 [some (.ref 1079), some (.ref 1105), some (zi 12), some (zi 36), some (zi 1), some (zi x5)] [] 0 0 := fun x5 S a b j0 j1 => (zi_keepRow_14_92_1105_12_36_1 (g := g) (l := l)  S0 n hn G_S0  _) x5 S a b j0 j1 (Nat.lt_succ_self _)
  refine zz_iconst zd_14_92_0 ?_
  refine zz_istore [some (.ref 1079), some (.ref 1105), some (zi 12), some (zi 36), some (zi 1), some (zi 0)] zd_14_92_1 (by decide) rfl ?_
  refine zz_less (ls1 := [some (.ref 1079), some (.ref 1105), some (zi 12), some (zi 36), some (zi 1), some (zi 0)]) ⟨rfl, ⟨rfl, ⟨rfl, ⟨rfl, ⟨rfl, ⟨rfl, trivial⟩⟩⟩⟩⟩⟩ ?_
  exact k3 0 S0 G_S0 F_S0 (by omega) (fun u h => absurd h (by omega))
-- TensorForgeModel keepRow ([IIIZ)V
abbrev zr_keepRow_14_92_1106_10_48_1 : Room := { frames := 0, cells := 0, slots := 0, locals := 0 }
def zp_keepRow_14_92_1106_10_48_1  (S0 : zz_S) : zz_S → Prop := fun S => zz_G S ∧ zz_fr [] [1106] (fun _ _ => False) S0 S ∧ (∀ u : Nat, u < 10 → S 1106 u = S0 1119 (48 + u))
theorem zb_keepRow_14_92_1106_10_48_1_3 {g : mm_G} {l : Launch}  (S0 : zz_S) (n : Nat) (hn : zz_end ≤ n) (G_S0 : zz_G S0)  (x5 : Int) (S : zz_S) (G_S : zz_G S) (F_S : zz_fr [] [1106] (fun _ _ => False) S0 S) (i3_0 : 0 ≤ x5 ∧ x5 ≤ 10) (i3_1 : ∀ u : Nat, (u : Int) < x5 → S 1106 u = S0 1119 (48 + u)) (R : Nat) (hR : (10 - x5).toNat = R) (k3 : ∀ (x5 : Int) (S : zz_S), zz_G S → zz_fr [] [1106] (fun _ _ => False) S0 S → (0 ≤ x5 ∧ x5 ≤ 10) → (∀ u : Nat, (u : Int) < x5 → S 1106 u = S0 1119 (48 + u)) → (10 - x5).toNat < R → zz_E g l zy_keepRow_14_92 zr_keepRow_14_92_1106_10_48_1 (zz_QV n (zp_keepRow_14_92_1106_10_48_1  S0)) S n 3 [some (.ref 1079), some (.ref 1106), some (zi 10), some (zi 48), some (zi 1), some (zi x5)] [] 0 0) : zz_E g l zy_keepRow_14_92 zr_keepRow_14_92_1106_10_48_1 (zz_QV n (zp_keepRow_14_92_1106_10_48_1  S0)) S n 3 [some (.ref 1079), some (.ref 1106), some (zi 10), some (zi 48), some (zi 1), some (zi x5)] [] 0 0 := by
  refine zz_iload (x := x5) rfl zd_14_92_3 ?_
  refine zz_iload_n (x := 10) rfl zd_14_92_5 ?_
  refine zz_icmp_ge (by omega) (by omega) zd_14_92_6 (fun c1 => ?_) (fun c1 => ?_)
  · exact zz_vret zd_14_92_49 rfl (Nat.zero_le _) (Nat.zero_le _) ⟨_, rfl, G_S, F_S, fun u hu => i3_1 u (by omega)⟩
  · refine zz_iload (x := 1) rfl zd_14_92_9 ?_
    refine zz_if_eq (by omega) zd_14_92_11 (fun c2 => ?_) (fun c2 => ?_)
    · exfalso; omega
    · refine zz_aload_n (x := 1106) rfl zd_14_92_14 ?_
      refine zz_iload (x := x5) rfl zd_14_92_15 ?_
      refine zz_aload_n (x := 1079) rfl zd_14_92_17 ?_
      refine zz_getr (kd := 0) (z := 1119) zd_14_92_18 zf_Md_139 zT_1079 rfl (zz_ltn hn rfl) (zz_G.eq G_S 1079 67 1119 rfl rfl) (by decide) 1119 rfl ?_
      refine zz_iload_n (x := 48) rfl zd_14_92_21 ?_
      refine zz_iload (x := x5) rfl zd_14_92_22 ?_
      refine zz_iadd zd_14_92_24 ?_
      have g3 := zz_G.r G_S0 1119 ((48 + x5).toNat) (0) (if (48 + x5).toNat < 12 then 63 else if (48 + x5).toNat < 24 then 63 else if (48 + x5).toNat < 36 then 63 else if (48 + x5).toNat < 37 then 0 else if (48 + x5).toNat < 48 then 10000000 else if (48 + x5).toNat < 59 then 2 else if (48 + x5).toNat < 70 then 10 else if (48 + x5).toNat < 81 then 10 else if (48 + x5).toNat < 92 then 3 else if (48 + x5).toNat < 103 then 3 else if (48 + x5).toNat < 114 then 3 else if (48 + x5).toNat < 125 then 1 else if (48 + x5).toNat < 136 then 31 else 4096) rfl rfl
      refine zz_iald (z := S0 1119 ((48 + x5).toNat)) zd_14_92_25 zT_1119 rfl (zz_ltn hn rfl) (by decide) (by omega) (zz_rc F_S (zz_nc1 rfl) rfl (fun h => h) rfl) ?_
      refine zz_iast zd_14_92_26 zT_1106 rfl (zz_ltn hn rfl) (by decide) (by omega) (fun S4 qS4 => ?_)
      have G_S4 := zz_G.put G_S qS4 0 2 rfl (by omega)
      have F_S4 := zz_fr.putc F_S qS4 rfl
      refine zz_goto zd_14_92_27 ?_
      refine zz_iinc [some (.ref 1079), some (.ref 1106), some (zi 10), some (zi 48), some (zi 1), some (zi (x5 + 1))] zd_14_92_43 rfl rfl ?_
      refine zz_goto zd_14_92_46 ?_
      refine zz_less (ls1 := [some (.ref 1079), some (.ref 1106), some (zi 10), some (zi 48), some (zi 1), some (zi (x5 + 1))]) ⟨rfl, ⟨rfl, ⟨rfl, ⟨rfl, ⟨rfl, ⟨rfl, trivial⟩⟩⟩⟩⟩⟩ ?_
      exact k3 (x5 + 1) S4 G_S4 F_S4 (by omega) (fun u hu => (Decidable.em ((u : Int) = x5)).elim (fun h => by rw [show u = x5.toNat by omega, zz_rs qS4, show (48 + x5).toNat = 48 + x5.toNat by omega]) (fun h => by rw [zz_ro (b := 1106) (j := u) qS4 (fun h9 => by omega) rfl]; exact i3_1 u (by omega))) (by omega)
theorem zi_keepRow_14_92_1106_10_48_1 {g : mm_G} {l : Launch}  (S0 : zz_S) (n : Nat) (hn : zz_end ≤ n) (G_S0 : zz_G S0)  : ∀ N : Nat, (∀ (x5 : Int) (S : zz_S), zz_G S → zz_fr [] [1106] (fun _ _ => False) S0 S → (0 ≤ x5 ∧ x5 ≤ 10) → (∀ u : Nat, (u : Int) < x5 → S 1106 u = S0 1119 (48 + u)) → (10 - x5).toNat < N → zz_E g l zy_keepRow_14_92 zr_keepRow_14_92_1106_10_48_1 (zz_QV n (zp_keepRow_14_92_1106_10_48_1  S0)) S n 3 [some (.ref 1079), some (.ref 1106), some (zi 10), some (zi 48), some (zi 1), some (zi x5)] [] 0 0) := by
  intro N
  induction N with
  | zero => exact fun x5 S _ _ _ _ h => absurd h (Nat.not_lt_zero _)
  | succ N ih =>
    exact fun x5 S a b j0 j1 hR => zb_keepRow_14_92_1106_10_48_1_3  S0 n hn G_S0  x5 S a b j0 j1 _ rfl (fun x5 S a b j0 j1 h => ih x5 S a b j0 j1 (Nat.lt_of_lt_of_le h (Nat.le_of_lt_succ hR)))
theorem zc_keepRow_14_92_1106_10_48_1 {g : mm_G} {l : Launch}  (S0 : zz_S) (n : Nat) (hn : zz_end ≤ n) (G_S0 : zz_G S0)  : mm_Met g l zy_keepRow_14_92 zr_keepRow_14_92_1106_10_48_1 [.ref 1079, .ref 1106, zi 10, zi 48, zi 1] (zz_M S0 n) n (zz_QV n (zp_keepRow_14_92_1106_10_48_1  S0)) := by
  refine zz_enter (by decide) (Nat.le_of_ble_eq_true rfl) (zz_less (ls1 := [some (.ref 1079), some (.ref 1106), some (zi 10), some (zi 48), some (zi 1)]) ⟨rfl, ⟨rfl, ⟨rfl, ⟨rfl, ⟨rfl, trivial⟩⟩⟩⟩⟩ ?_)
  have F_S0 : zz_fr [] [1106] (fun _ _ => False) S0 S0 := zz_fr.refl
  have k3 : ∀ (x5 : Int) (S : zz_S), zz_G S → zz_fr [] [1106] (fun _ _ => False) S0 S → (0 ≤ x5 ∧ x5 ≤ 10) → (∀ u : Nat, (u : Int) < x5 → S 1106 u = S0 1119 (48 + u)) → zz_E g l zy_keepRow_14_92 zr_keepRow_14_92_1106_10_48_1 (zz_QV n (zp_keepRow_14_92_1106_10_48_1  S0)) S n 3 [some (.ref 1079), some (.ref 1106), some (zi 10), some (zi 48), some (zi 1), some (zi x5)] [] 0 0 := fun x5 S a b j0 j1 => (zi_keepRow_14_92_1106_10_48_1 (g := g) (l := l)  S0 n hn G_S0  _) x5 S a b j0 j1 (Nat.lt_succ_self _)
  refine zz_iconst zd_14_92_0 ?_
  refine zz_istore [some (.ref 1079), some (.ref 1106), some (zi 10), some (zi 48), some (zi 1), some (zi 0)] zd_14_92_1 (by decide) rfl ?_
  refine zz_less (ls1 := [some (.ref 1079), some (.ref 1106), some (zi 10), some (zi 48), some (zi 1), some (zi 0)]) ⟨rfl, ⟨rfl, ⟨rfl, ⟨rfl, ⟨rfl, ⟨rfl, trivial⟩⟩⟩⟩⟩⟩ ?_
  exact k3 0 S0 G_S0 F_S0 (by omega) (fun u h => absurd h (by omega))
-- TensorForgeModel keepRow ([IIIZ)V
abbrev zr_keepRow_14_92_1107_10_59_1 : Room := { frames := 0, cells := 0, slots := 0, locals := 0 }
def zp_keepRow_14_92_1107_10_59_1  (S0 : zz_S) : zz_S → Prop := fun S => zz_G S ∧ zz_fr [] [1107] (fun _ _ => False) S0 S ∧ (∀ u : Nat, u < 10 → S 1107 u = S0 1119 (59 + u))
theorem zb_keepRow_14_92_1107_10_59_1_3 {g : mm_G} {l : Launch}  (S0 : zz_S) (n : Nat) (hn : zz_end ≤ n) (G_S0 : zz_G S0)  (x5 : Int) (S : zz_S) (G_S : zz_G S) (F_S : zz_fr [] [1107] (fun _ _ => False) S0 S) (i3_0 : 0 ≤ x5 ∧ x5 ≤ 10) (i3_1 : ∀ u : Nat, (u : Int) < x5 → S 1107 u = S0 1119 (59 + u)) (R : Nat) (hR : (10 - x5).toNat = R) (k3 : ∀ (x5 : Int) (S : zz_S), zz_G S → zz_fr [] [1107] (fun _ _ => False) S0 S → (0 ≤ x5 ∧ x5 ≤ 10) → (∀ u : Nat, (u : Int) < x5 → S 1107 u = S0 1119 (59 + u)) → (10 - x5).toNat < R → zz_E g l zy_keepRow_14_92 zr_keepRow_14_92_1107_10_59_1 (zz_QV n (zp_keepRow_14_92_1107_10_59_1  S0)) S n 3 [some (.ref 1079), some (.ref 1107), some (zi 10), some (zi 59), some (zi 1), some (zi x5)] [] 0 0) : zz_E g l zy_keepRow_14_92 zr_keepRow_14_92_1107_10_59_1 (zz_QV n (zp_keepRow_14_92_1107_10_59_1  S0)) S n 3 [some (.ref 1079), some (.ref 1107), some (zi 10), some (zi 59), some (zi 1), some (zi x5)] [] 0 0 := by
  refine zz_iload (x := x5) rfl zd_14_92_3 ?_
  refine zz_iload_n (x := 10) rfl zd_14_92_5 ?_
  refine zz_icmp_ge (by omega) (by omega) zd_14_92_6 (fun c1 => ?_) (fun c1 => ?_)
  · exact zz_vret zd_14_92_49 rfl (Nat.zero_le _) (Nat.zero_le _) ⟨_, rfl, G_S, F_S, fun u hu => i3_1 u (by omega)⟩
  · refine zz_iload (x := 1) rfl zd_14_92_9 ?_
    refine zz_if_eq (by omega) zd_14_92_11 (fun c2 => ?_) (fun c2 => ?_)
    · exfalso; omega
    · refine zz_aload_n (x := 1107) rfl zd_14_92_14 ?_
      refine zz_iload (x := x5) rfl zd_14_92_15 ?_
      refine zz_aload_n (x := 1079) rfl zd_14_92_17 ?_
      refine zz_getr (kd := 0) (z := 1119) zd_14_92_18 zf_Md_139 zT_1079 rfl (zz_ltn hn rfl) (zz_G.eq G_S 1079 67 1119 rfl rfl) (by decide) 1119 rfl ?_
      refine zz_iload_n (x := 59) rfl zd_14_92_21 ?_
      refine zz_iload (x := x5) rfl zd_14_92_22 ?_
      refine zz_iadd zd_14_92_24 ?_
      have g3 := zz_G.r G_S0 1119 ((59 + x5).toNat) (0) (if (59 + x5).toNat < 12 then 63 else if (59 + x5).toNat < 24 then 63 else if (59 + x5).toNat < 36 then 63 else if (59 + x5).toNat < 37 then 0 else if (59 + x5).toNat < 48 then 10000000 else if (59 + x5).toNat < 59 then 2 else if (59 + x5).toNat < 70 then 10 else if (59 + x5).toNat < 81 then 10 else if (59 + x5).toNat < 92 then 3 else if (59 + x5).toNat < 103 then 3 else if (59 + x5).toNat < 114 then 3 else if (59 + x5).toNat < 125 then 1 else if (59 + x5).toNat < 136 then 31 else 4096) rfl rfl
      refine zz_iald (z := S0 1119 ((59 + x5).toNat)) zd_14_92_25 zT_1119 rfl (zz_ltn hn rfl) (by decide) (by omega) (zz_rc F_S (zz_nc1 rfl) rfl (fun h => h) rfl) ?_
      refine zz_iast zd_14_92_26 zT_1107 rfl (zz_ltn hn rfl) (by decide) (by omega) (fun S4 qS4 => ?_)
      have G_S4 := zz_G.put G_S qS4 0 10 rfl (by omega)
      have F_S4 := zz_fr.putc F_S qS4 rfl
      refine zz_goto zd_14_92_27 ?_
      refine zz_iinc [some (.ref 1079), some (.ref 1107), some (zi 10), some (zi 59), some (zi 1), some (zi (x5 + 1))] zd_14_92_43 rfl rfl ?_
      refine zz_goto zd_14_92_46 ?_
      refine zz_less (ls1 := [some (.ref 1079), some (.ref 1107), some (zi 10), some (zi 59), some (zi 1), some (zi (x5 + 1))]) ⟨rfl, ⟨rfl, ⟨rfl, ⟨rfl, ⟨rfl, ⟨rfl, trivial⟩⟩⟩⟩⟩⟩ ?_
      exact k3 (x5 + 1) S4 G_S4 F_S4 (by omega) (fun u hu => (Decidable.em ((u : Int) = x5)).elim (fun h => by rw [show u = x5.toNat by omega, zz_rs qS4, show (59 + x5).toNat = 59 + x5.toNat by omega]) (fun h => by rw [zz_ro (b := 1107) (j := u) qS4 (fun h9 => by omega) rfl]; exact i3_1 u (by omega))) (by omega)
theorem zi_keepRow_14_92_1107_10_59_1 {g : mm_G} {l : Launch}  (S0 : zz_S) (n : Nat) (hn : zz_end ≤ n) (G_S0 : zz_G S0)  : ∀ N : Nat, (∀ (x5 : Int) (S : zz_S), zz_G S → zz_fr [] [1107] (fun _ _ => False) S0 S → (0 ≤ x5 ∧ x5 ≤ 10) → (∀ u : Nat, (u : Int) < x5 → S 1107 u = S0 1119 (59 + u)) → (10 - x5).toNat < N → zz_E g l zy_keepRow_14_92 zr_keepRow_14_92_1107_10_59_1 (zz_QV n (zp_keepRow_14_92_1107_10_59_1  S0)) S n 3 [some (.ref 1079), some (.ref 1107), some (zi 10), some (zi 59), some (zi 1), some (zi x5)] [] 0 0) := by
  intro N
  induction N with
  | zero => exact fun x5 S _ _ _ _ h => absurd h (Nat.not_lt_zero _)
  | succ N ih =>
    exact fun x5 S a b j0 j1 hR => zb_keepRow_14_92_1107_10_59_1_3  S0 n hn G_S0  x5 S a b j0 j1 _ rfl (fun x5 S a b j0 j1 h => ih x5 S a b j0 j1 (Nat.lt_of_lt_of_le h (Nat.le_of_lt_succ hR)))
theorem zc_keepRow_14_92_1107_10_59_1 {g : mm_G} {l : Launch}  (S0 : zz_S) (n : Nat) (hn : zz_end ≤ n) (G_S0 : zz_G S0)  : mm_Met g l zy_keepRow_14_92 zr_keepRow_14_92_1107_10_59_1 [.ref 1079, .ref 1107, zi 10, zi 59, zi 1] (zz_M S0 n) n (zz_QV n (zp_keepRow_14_92_1107_10_59_1  S0)) := by
  refine zz_enter (by decide) (Nat.le_of_ble_eq_true rfl) (zz_less (ls1 := [some (.ref 1079), some (.ref 1107), some (zi 10), some (zi 59), some (zi 1)]) ⟨rfl, ⟨rfl, ⟨rfl, ⟨rfl, ⟨rfl, trivial⟩⟩⟩⟩⟩ ?_)
  have F_S0 : zz_fr [] [1107] (fun _ _ => False) S0 S0 := zz_fr.refl
  have k3 : ∀ (x5 : Int) (S : zz_S), zz_G S → zz_fr [] [1107] (fun _ _ => False) S0 S → (0 ≤ x5 ∧ x5 ≤ 10) → (∀ u : Nat, (u : Int) < x5 → S 1107 u = S0 1119 (59 + u)) → zz_E g l zy_keepRow_14_92 zr_keepRow_14_92_1107_10_59_1 (zz_QV n (zp_keepRow_14_92_1107_10_59_1  S0)) S n 3 [some (.ref 1079), some (.ref 1107), some (zi 10), some (zi 59), some (zi 1), some (zi x5)] [] 0 0 := fun x5 S a b j0 j1 => (zi_keepRow_14_92_1107_10_59_1 (g := g) (l := l)  S0 n hn G_S0  _) x5 S a b j0 j1 (Nat.lt_succ_self _)
  refine zz_iconst zd_14_92_0 ?_
  refine zz_istore [some (.ref 1079), some (.ref 1107), some (zi 10), some (zi 59), some (zi 1), some (zi 0)] zd_14_92_1 (by decide) rfl ?_
  refine zz_less (ls1 := [some (.ref 1079), some (.ref 1107), some (zi 10), some (zi 59), some (zi 1), some (zi 0)]) ⟨rfl, ⟨rfl, ⟨rfl, ⟨rfl, ⟨rfl, ⟨rfl, trivial⟩⟩⟩⟩⟩⟩ ?_
  exact k3 0 S0 G_S0 F_S0 (by omega) (fun u h => absurd h (by omega))
-- TensorForgeModel keepRow ([IIIZ)V
abbrev zr_keepRow_14_92_1108_10_70_1 : Room := { frames := 0, cells := 0, slots := 0, locals := 0 }
def zp_keepRow_14_92_1108_10_70_1  (S0 : zz_S) : zz_S → Prop := fun S => zz_G S ∧ zz_fr [] [1108] (fun _ _ => False) S0 S ∧ (∀ u : Nat, u < 10 → S 1108 u = S0 1119 (70 + u))
theorem zb_keepRow_14_92_1108_10_70_1_3 {g : mm_G} {l : Launch}  (S0 : zz_S) (n : Nat) (hn : zz_end ≤ n) (G_S0 : zz_G S0)  (x5 : Int) (S : zz_S) (G_S : zz_G S) (F_S : zz_fr [] [1108] (fun _ _ => False) S0 S) (i3_0 : 0 ≤ x5 ∧ x5 ≤ 10) (i3_1 : ∀ u : Nat, (u : Int) < x5 → S 1108 u = S0 1119 (70 + u)) (R : Nat) (hR : (10 - x5).toNat = R) (k3 : ∀ (x5 : Int) (S : zz_S), zz_G S → zz_fr [] [1108] (fun _ _ => False) S0 S → (0 ≤ x5 ∧ x5 ≤ 10) → (∀ u : Nat, (u : Int) < x5 → S 1108 u = S0 1119 (70 + u)) → (10 - x5).toNat < R → zz_E g l zy_keepRow_14_92 zr_keepRow_14_92_1108_10_70_1 (zz_QV n (zp_keepRow_14_92_1108_10_70_1  S0)) S n 3 [some (.ref 1079), some (.ref 1108), some (zi 10), some (zi 70), some (zi 1), some (zi x5)] [] 0 0) : zz_E g l zy_keepRow_14_92 zr_keepRow_14_92_1108_10_70_1 (zz_QV n (zp_keepRow_14_92_1108_10_70_1  S0)) S n 3 [some (.ref 1079), some (.ref 1108), some (zi 10), some (zi 70), some (zi 1), some (zi x5)] [] 0 0 := by
  refine zz_iload (x := x5) rfl zd_14_92_3 ?_
  refine zz_iload_n (x := 10) rfl zd_14_92_5 ?_
  refine zz_icmp_ge (by omega) (by omega) zd_14_92_6 (fun c1 => ?_) (fun c1 => ?_)
  · exact zz_vret zd_14_92_49 rfl (Nat.zero_le _) (Nat.zero_le _) ⟨_, rfl, G_S, F_S, fun u hu => i3_1 u (by omega)⟩
  · refine zz_iload (x := 1) rfl zd_14_92_9 ?_
    refine zz_if_eq (by omega) zd_14_92_11 (fun c2 => ?_) (fun c2 => ?_)
    · exfalso; omega
    · refine zz_aload_n (x := 1108) rfl zd_14_92_14 ?_
      refine zz_iload (x := x5) rfl zd_14_92_15 ?_
      refine zz_aload_n (x := 1079) rfl zd_14_92_17 ?_
      refine zz_getr (kd := 0) (z := 1119) zd_14_92_18 zf_Md_139 zT_1079 rfl (zz_ltn hn rfl) (zz_G.eq G_S 1079 67 1119 rfl rfl) (by decide) 1119 rfl ?_
      refine zz_iload_n (x := 70) rfl zd_14_92_21 ?_
      refine zz_iload (x := x5) rfl zd_14_92_22 ?_
      refine zz_iadd zd_14_92_24 ?_
      have g3 := zz_G.r G_S0 1119 ((70 + x5).toNat) (0) (if (70 + x5).toNat < 12 then 63 else if (70 + x5).toNat < 24 then 63 else if (70 + x5).toNat < 36 then 63 else if (70 + x5).toNat < 37 then 0 else if (70 + x5).toNat < 48 then 10000000 else if (70 + x5).toNat < 59 then 2 else if (70 + x5).toNat < 70 then 10 else if (70 + x5).toNat < 81 then 10 else if (70 + x5).toNat < 92 then 3 else if (70 + x5).toNat < 103 then 3 else if (70 + x5).toNat < 114 then 3 else if (70 + x5).toNat < 125 then 1 else if (70 + x5).toNat < 136 then 31 else 4096) rfl rfl
      refine zz_iald (z := S0 1119 ((70 + x5).toNat)) zd_14_92_25 zT_1119 rfl (zz_ltn hn rfl) (by decide) (by omega) (zz_rc F_S (zz_nc1 rfl) rfl (fun h => h) rfl) ?_
      refine zz_iast zd_14_92_26 zT_1108 rfl (zz_ltn hn rfl) (by decide) (by omega) (fun S4 qS4 => ?_)
      have G_S4 := zz_G.put G_S qS4 0 10 rfl (by omega)
      have F_S4 := zz_fr.putc F_S qS4 rfl
      refine zz_goto zd_14_92_27 ?_
      refine zz_iinc [some (.ref 1079), some (.ref 1108), some (zi 10), some (zi 70), some (zi 1), some (zi (x5 + 1))] zd_14_92_43 rfl rfl ?_
      refine zz_goto zd_14_92_46 ?_
      refine zz_less (ls1 := [some (.ref 1079), some (.ref 1108), some (zi 10), some (zi 70), some (zi 1), some (zi (x5 + 1))]) ⟨rfl, ⟨rfl, ⟨rfl, ⟨rfl, ⟨rfl, ⟨rfl, trivial⟩⟩⟩⟩⟩⟩ ?_
      exact k3 (x5 + 1) S4 G_S4 F_S4 (by omega) (fun u hu => (Decidable.em ((u : Int) = x5)).elim (fun h => by rw [show u = x5.toNat by omega, zz_rs qS4, show (70 + x5).toNat = 70 + x5.toNat by omega]) (fun h => by rw [zz_ro (b := 1108) (j := u) qS4 (fun h9 => by omega) rfl]; exact i3_1 u (by omega))) (by omega)
theorem zi_keepRow_14_92_1108_10_70_1 {g : mm_G} {l : Launch}  (S0 : zz_S) (n : Nat) (hn : zz_end ≤ n) (G_S0 : zz_G S0)  : ∀ N : Nat, (∀ (x5 : Int) (S : zz_S), zz_G S → zz_fr [] [1108] (fun _ _ => False) S0 S → (0 ≤ x5 ∧ x5 ≤ 10) → (∀ u : Nat, (u : Int) < x5 → S 1108 u = S0 1119 (70 + u)) → (10 - x5).toNat < N → zz_E g l zy_keepRow_14_92 zr_keepRow_14_92_1108_10_70_1 (zz_QV n (zp_keepRow_14_92_1108_10_70_1  S0)) S n 3 [some (.ref 1079), some (.ref 1108), some (zi 10), some (zi 70), some (zi 1), some (zi x5)] [] 0 0) := by
  intro N
  induction N with
  | zero => exact fun x5 S _ _ _ _ h => absurd h (Nat.not_lt_zero _)
  | succ N ih =>
    exact fun x5 S a b j0 j1 hR => zb_keepRow_14_92_1108_10_70_1_3  S0 n hn G_S0  x5 S a b j0 j1 _ rfl (fun x5 S a b j0 j1 h => ih x5 S a b j0 j1 (Nat.lt_of_lt_of_le h (Nat.le_of_lt_succ hR)))
theorem zc_keepRow_14_92_1108_10_70_1 {g : mm_G} {l : Launch}  (S0 : zz_S) (n : Nat) (hn : zz_end ≤ n) (G_S0 : zz_G S0)  : mm_Met g l zy_keepRow_14_92 zr_keepRow_14_92_1108_10_70_1 [.ref 1079, .ref 1108, zi 10, zi 70, zi 1] (zz_M S0 n) n (zz_QV n (zp_keepRow_14_92_1108_10_70_1  S0)) := by
  refine zz_enter (by decide) (Nat.le_of_ble_eq_true rfl) (zz_less (ls1 := [some (.ref 1079), some (.ref 1108), some (zi 10), some (zi 70), some (zi 1)]) ⟨rfl, ⟨rfl, ⟨rfl, ⟨rfl, ⟨rfl, trivial⟩⟩⟩⟩⟩ ?_)
  have F_S0 : zz_fr [] [1108] (fun _ _ => False) S0 S0 := zz_fr.refl
  have k3 : ∀ (x5 : Int) (S : zz_S), zz_G S → zz_fr [] [1108] (fun _ _ => False) S0 S → (0 ≤ x5 ∧ x5 ≤ 10) → (∀ u : Nat, (u : Int) < x5 → S 1108 u = S0 1119 (70 + u)) → zz_E g l zy_keepRow_14_92 zr_keepRow_14_92_1108_10_70_1 (zz_QV n (zp_keepRow_14_92_1108_10_70_1  S0)) S n 3 [some (.ref 1079), some (.ref 1108), some (zi 10), some (zi 70), some (zi 1), some (zi x5)] [] 0 0 := fun x5 S a b j0 j1 => (zi_keepRow_14_92_1108_10_70_1 (g := g) (l := l)  S0 n hn G_S0  _) x5 S a b j0 j1 (Nat.lt_succ_self _)
  refine zz_iconst zd_14_92_0 ?_
  refine zz_istore [some (.ref 1079), some (.ref 1108), some (zi 10), some (zi 70), some (zi 1), some (zi 0)] zd_14_92_1 (by decide) rfl ?_
  refine zz_less (ls1 := [some (.ref 1079), some (.ref 1108), some (zi 10), some (zi 70), some (zi 1), some (zi 0)]) ⟨rfl, ⟨rfl, ⟨rfl, ⟨rfl, ⟨rfl, ⟨rfl, trivial⟩⟩⟩⟩⟩⟩ ?_
  exact k3 0 S0 G_S0 F_S0 (by omega) (fun u h => absurd h (by omega))
-- TensorForgeModel keepRow ([IIIZ)V
abbrev zr_keepRow_14_92_1109_10_81_1 : Room := { frames := 0, cells := 0, slots := 0, locals := 0 }
def zp_keepRow_14_92_1109_10_81_1  (S0 : zz_S) : zz_S → Prop := fun S => zz_G S ∧ zz_fr [] [1109] (fun _ _ => False) S0 S ∧ (∀ u : Nat, u < 10 → S 1109 u = S0 1119 (81 + u))
theorem zb_keepRow_14_92_1109_10_81_1_3 {g : mm_G} {l : Launch}  (S0 : zz_S) (n : Nat) (hn : zz_end ≤ n) (G_S0 : zz_G S0)  (x5 : Int) (S : zz_S) (G_S : zz_G S) (F_S : zz_fr [] [1109] (fun _ _ => False) S0 S) (i3_0 : 0 ≤ x5 ∧ x5 ≤ 10) (i3_1 : ∀ u : Nat, (u : Int) < x5 → S 1109 u = S0 1119 (81 + u)) (R : Nat) (hR : (10 - x5).toNat = R) (k3 : ∀ (x5 : Int) (S : zz_S), zz_G S → zz_fr [] [1109] (fun _ _ => False) S0 S → (0 ≤ x5 ∧ x5 ≤ 10) → (∀ u : Nat, (u : Int) < x5 → S 1109 u = S0 1119 (81 + u)) → (10 - x5).toNat < R → zz_E g l zy_keepRow_14_92 zr_keepRow_14_92_1109_10_81_1 (zz_QV n (zp_keepRow_14_92_1109_10_81_1  S0)) S n 3 [some (.ref 1079), some (.ref 1109), some (zi 10), some (zi 81), some (zi 1), some (zi x5)] [] 0 0) : zz_E g l zy_keepRow_14_92 zr_keepRow_14_92_1109_10_81_1 (zz_QV n (zp_keepRow_14_92_1109_10_81_1  S0)) S n 3 [some (.ref 1079), some (.ref 1109), some (zi 10), some (zi 81), some (zi 1), some (zi x5)] [] 0 0 := by
  refine zz_iload (x := x5) rfl zd_14_92_3 ?_
  refine zz_iload_n (x := 10) rfl zd_14_92_5 ?_
  refine zz_icmp_ge (by omega) (by omega) zd_14_92_6 (fun c1 => ?_) (fun c1 => ?_)
  · exact zz_vret zd_14_92_49 rfl (Nat.zero_le _) (Nat.zero_le _) ⟨_, rfl, G_S, F_S, fun u hu => i3_1 u (by omega)⟩
  · refine zz_iload (x := 1) rfl zd_14_92_9 ?_
    refine zz_if_eq (by omega) zd_14_92_11 (fun c2 => ?_) (fun c2 => ?_)
    · exfalso; omega
    · refine zz_aload_n (x := 1109) rfl zd_14_92_14 ?_
      refine zz_iload (x := x5) rfl zd_14_92_15 ?_
      refine zz_aload_n (x := 1079) rfl zd_14_92_17 ?_
      refine zz_getr (kd := 0) (z := 1119) zd_14_92_18 zf_Md_139 zT_1079 rfl (zz_ltn hn rfl) (zz_G.eq G_S 1079 67 1119 rfl rfl) (by decide) 1119 rfl ?_
      refine zz_iload_n (x := 81) rfl zd_14_92_21 ?_
      refine zz_iload (x := x5) rfl zd_14_92_22 ?_
      refine zz_iadd zd_14_92_24 ?_
      have g3 := zz_G.r G_S0 1119 ((81 + x5).toNat) (0) (if (81 + x5).toNat < 12 then 63 else if (81 + x5).toNat < 24 then 63 else if (81 + x5).toNat < 36 then 63 else if (81 + x5).toNat < 37 then 0 else if (81 + x5).toNat < 48 then 10000000 else if (81 + x5).toNat < 59 then 2 else if (81 + x5).toNat < 70 then 10 else if (81 + x5).toNat < 81 then 10 else if (81 + x5).toNat < 92 then 3 else if (81 + x5).toNat < 103 then 3 else if (81 + x5).toNat < 114 then 3 else if (81 + x5).toNat < 125 then 1 else if (81 + x5).toNat < 136 then 31 else 4096) rfl rfl
      refine zz_iald (z := S0 1119 ((81 + x5).toNat)) zd_14_92_25 zT_1119 rfl (zz_ltn hn rfl) (by decide) (by omega) (zz_rc F_S (zz_nc1 rfl) rfl (fun h => h) rfl) ?_
      refine zz_iast zd_14_92_26 zT_1109 rfl (zz_ltn hn rfl) (by decide) (by omega) (fun S4 qS4 => ?_)
      have G_S4 := zz_G.put G_S qS4 0 3 rfl (by omega)
      have F_S4 := zz_fr.putc F_S qS4 rfl
      refine zz_goto zd_14_92_27 ?_
      refine zz_iinc [some (.ref 1079), some (.ref 1109), some (zi 10), some (zi 81), some (zi 1), some (zi (x5 + 1))] zd_14_92_43 rfl rfl ?_
      refine zz_goto zd_14_92_46 ?_
      refine zz_less (ls1 := [some (.ref 1079), some (.ref 1109), some (zi 10), some (zi 81), some (zi 1), some (zi (x5 + 1))]) ⟨rfl, ⟨rfl, ⟨rfl, ⟨rfl, ⟨rfl, ⟨rfl, trivial⟩⟩⟩⟩⟩⟩ ?_
      exact k3 (x5 + 1) S4 G_S4 F_S4 (by omega) (fun u hu => (Decidable.em ((u : Int) = x5)).elim (fun h => by rw [show u = x5.toNat by omega, zz_rs qS4, show (81 + x5).toNat = 81 + x5.toNat by omega]) (fun h => by rw [zz_ro (b := 1109) (j := u) qS4 (fun h9 => by omega) rfl]; exact i3_1 u (by omega))) (by omega)
theorem zi_keepRow_14_92_1109_10_81_1 {g : mm_G} {l : Launch}  (S0 : zz_S) (n : Nat) (hn : zz_end ≤ n) (G_S0 : zz_G S0)  : ∀ N : Nat, (∀ (x5 : Int) (S : zz_S), zz_G S → zz_fr [] [1109] (fun _ _ => False) S0 S → (0 ≤ x5 ∧ x5 ≤ 10) → (∀ u : Nat, (u : Int) < x5 → S 1109 u = S0 1119 (81 + u)) → (10 - x5).toNat < N → zz_E g l zy_keepRow_14_92 zr_keepRow_14_92_1109_10_81_1 (zz_QV n (zp_keepRow_14_92_1109_10_81_1  S0)) S n 3 [some (.ref 1079), some (.ref 1109), some (zi 10), some (zi 81), some (zi 1), some (zi x5)] [] 0 0) := by
  intro N
  induction N with
  | zero => exact fun x5 S _ _ _ _ h => absurd h (Nat.not_lt_zero _)
  | succ N ih =>
    exact fun x5 S a b j0 j1 hR => zb_keepRow_14_92_1109_10_81_1_3  S0 n hn G_S0  x5 S a b j0 j1 _ rfl (fun x5 S a b j0 j1 h => ih x5 S a b j0 j1 (Nat.lt_of_lt_of_le h (Nat.le_of_lt_succ hR)))
theorem zc_keepRow_14_92_1109_10_81_1 {g : mm_G} {l : Launch}  (S0 : zz_S) (n : Nat) (hn : zz_end ≤ n) (G_S0 : zz_G S0)  : mm_Met g l zy_keepRow_14_92 zr_keepRow_14_92_1109_10_81_1 [.ref 1079, .ref 1109, zi 10, zi 81, zi 1] (zz_M S0 n) n (zz_QV n (zp_keepRow_14_92_1109_10_81_1  S0)) := by
  refine zz_enter (by decide) (Nat.le_of_ble_eq_true rfl) (zz_less (ls1 := [some (.ref 1079), some (.ref 1109), some (zi 10), some (zi 81), some (zi 1)]) ⟨rfl, ⟨rfl, ⟨rfl, ⟨rfl, ⟨rfl, trivial⟩⟩⟩⟩⟩ ?_)
  have F_S0 : zz_fr [] [1109] (fun _ _ => False) S0 S0 := zz_fr.refl
  have k3 : ∀ (x5 : Int) (S : zz_S), zz_G S → zz_fr [] [1109] (fun _ _ => False) S0 S → (0 ≤ x5 ∧ x5 ≤ 10) → (∀ u : Nat, (u : Int) < x5 → S 1109 u = S0 1119 (81 + u)) → zz_E g l zy_keepRow_14_92 zr_keepRow_14_92_1109_10_81_1 (zz_QV n (zp_keepRow_14_92_1109_10_81_1  S0)) S n 3 [some (.ref 1079), some (.ref 1109), some (zi 10), some (zi 81), some (zi 1), some (zi x5)] [] 0 0 := fun x5 S a b j0 j1 => (zi_keepRow_14_92_1109_10_81_1 (g := g) (l := l)  S0 n hn G_S0  _) x5 S a b j0 j1 (Nat.lt_succ_self _)
  refine zz_iconst zd_14_92_0 ?_
  refine zz_istore [some (.ref 1079), some (.ref 1109), some (zi 10), some (zi 81), some (zi 1), some (zi 0)] zd_14_92_1 (by decide) rfl ?_
  refine zz_less (ls1 := [some (.ref 1079), some (.ref 1109), some (zi 10), some (zi 81), some (zi 1), some (zi 0)]) ⟨rfl, ⟨rfl, ⟨rfl, ⟨rfl, ⟨rfl, ⟨rfl, trivial⟩⟩⟩⟩⟩⟩ ?_
  exact k3 0 S0 G_S0 F_S0 (by omega) (fun u h => absurd h (by omega))

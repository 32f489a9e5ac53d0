-- TensorForgeModel keepRow ([IIIZ)V
abbrev zr_keepRow_14_92_1102_11_0_0 : Room := { frames := 0, cells := 0, slots := 0, locals := 0 }
def zp_keepRow_14_92_1102_11_0_0  (S0 : zz_S) : zz_S → Prop := fun S => zz_G S ∧ zz_fr [] [1119] (fun _ _ => False) S0 S ∧ (∀ u : Nat, u < 11 → S 1119 (0 + u) = S0 1102 u) ∧ (∀ i : Nat, i < 0 ∨ 11 ≤ i → S 1119 i = S0 1119 i)
theorem zb_keepRow_14_92_1102_11_0_0_3 {g : mm_G} {l : Launch}  (S0 : zz_S) (n : Nat) (hn : zz_end ≤ n) (G_S0 : zz_G S0)  (x5 : Int) (S : zz_S) (G_S : zz_G S) (F_S : zz_fr [] [1119] (fun _ _ => False) S0 S) (i3_0 : 0 ≤ x5 ∧ x5 ≤ 11) (i3_1 : ∀ u : Nat, (u : Int) < x5 → S 1119 (0 + u) = S0 1102 u) (i3_2 : ∀ i : Nat, i < 0 ∨ 11 ≤ i → S 1119 i = S0 1119 i) (R : Nat) (hR : (11 - x5).toNat = R) (k3 : ∀ (x5 : Int) (S : zz_S), zz_G S → zz_fr [] [1119] (fun _ _ => False) S0 S → (0 ≤ x5 ∧ x5 ≤ 11) → (∀ u : Nat, (u : Int) < x5 → S 1119 (0 + u) = S0 1102 u) → (∀ i : Nat, i < 0 ∨ 11 ≤ i → S 1119 i = S0 1119 i) → (11 - x5).toNat < R → zz_E g l zy_keepRow_14_92 zr_keepRow_14_92_1102_11_0_0 (zz_QV n (zp_keepRow_14_92_1102_11_0_0  S0)) S n 3 [some (.ref 1079), some (.ref 1102), some (zi 11), some (zi 0), some (zi 0), some (zi x5)] [] 0 0) : zz_E g l zy_keepRow_14_92 zr_keepRow_14_92_1102_11_0_0 (zz_QV n (zp_keepRow_14_92_1102_11_0_0  S0)) S n 3 [some (.ref 1079), some (.ref 1102), some (zi 11), some (zi 0), some (zi 0), some (zi x5)] [] 0 0 := by
  refine zz_iload (x := x5) rfl zd_14_92_3 ?_
  refine zz_iload_n (x := 11) rfl zd_14_92_5 ?_
  refine zz_icmp_ge (by omega) (by omega) zd_14_92_6 (fun c1 => ?_) (fun c1 => ?_)
  · exact zz_vret zd_14_92_49 rfl (Nat.zero_le _) (Nat.zero_le _) ⟨_, rfl, G_S, F_S, fun u hu => i3_1 u (by omega), i3_2⟩
  · refine zz_iload (x := 0) rfl zd_14_92_9 ?_
    refine zz_if_eq (by omega) zd_14_92_11 (fun c2 => ?_) (fun c2 => ?_)
    · refine zz_aload_n (x := 1079) rfl zd_14_92_30 ?_
      refine zz_getr (kd := 0) (z := 1119) zd_14_92_31 zf_Md_139 zT_1079 rfl (zz_ltn hn rfl) (zz_G.eq G_S 1079 67 1119 rfl rfl) (by decide) 1119 rfl ?_
      refine zz_iload_n (x := 0) rfl zd_14_92_34 ?_
      refine zz_iload (x := x5) rfl zd_14_92_35 ?_
      refine zz_iadd zd_14_92_37 ?_
      refine zz_aload_n (x := 1102) rfl zd_14_92_38 ?_
      refine zz_iload (x := x5) rfl zd_14_92_39 ?_
      have g3 := zz_G.r G_S0 1102 x5.toNat 0 63 rfl rfl
      refine zz_iald (z := S0 1102 x5.toNat) zd_14_92_41 zT_1102 rfl (zz_ltn hn rfl) (by decide) (by omega) (zz_rc F_S (zz_nc1 rfl) rfl (fun h => h) rfl) ?_
      refine zz_iast zd_14_92_42 zT_1119 rfl (zz_ltn hn rfl) (by decide) (by omega) (fun S4 qS4 => ?_)
      have G_S4 := zz_G.put G_S qS4 (0) (if (0 + x5).toNat < 12 then 63 else if (0 + x5).toNat < 24 then 63 else if (0 + x5).toNat < 36 then 63 else if (0 + x5).toNat < 37 then 0 else if (0 + x5).toNat < 48 then 10000000 else if (0 + x5).toNat < 59 then 2 else if (0 + x5).toNat < 70 then 10 else if (0 + x5).toNat < 81 then 10 else if (0 + x5).toNat < 92 then 3 else if (0 + x5).toNat < 103 then 3 else if (0 + x5).toNat < 114 then 3 else if (0 + x5).toNat < 125 then 1 else if (0 + x5).toNat < 136 then 31 else 4096) rfl (by omega)
      have F_S4 := zz_fr.putc F_S qS4 rfl
      refine zz_iinc [some (.ref 1079), some (.ref 1102), some (zi 11), some (zi 0), some (zi 0), some (zi (x5 + 1))] zd_14_92_43 rfl rfl ?_
      refine zz_goto zd_14_92_46 ?_
      refine zz_less (ls1 := [some (.ref 1079), some (.ref 1102), some (zi 11), some (zi 0), some (zi 0), some (zi (x5 + 1))]) ⟨rfl, ⟨rfl, ⟨rfl, ⟨rfl, ⟨rfl, ⟨rfl, trivial⟩⟩⟩⟩⟩⟩ ?_
      exact k3 (x5 + 1) S4 G_S4 F_S4 (by omega) (fun u hu => (Decidable.em ((u : Int) = x5)).elim (fun h => by rw [show 0 + u = (0 + x5).toNat by omega, zz_rs qS4, show x5.toNat = u by omega]) (fun h => by rw [zz_ro (b := 1119) (j := 0 + u) qS4 (fun h9 => by omega) rfl]; exact i3_1 u (by omega))) (fun i hi => by rw [zz_ro (b := 1119) (j := i) qS4 (fun h9 => by omega) rfl]; exact i3_2 i hi) (by omega)
    · exfalso; omega
theorem zi_keepRow_14_92_1102_11_0_0 {g : mm_G} {l : Launch}  (S0 : zz_S) (n : Nat) (hn : zz_end ≤ n) (G_S0 : zz_G S0)  : ∀ N : Nat, (∀ (x5 : Int) (S : zz_S), zz_G S → zz_fr [] [1119] (fun _ _ => False) S0 S → (0 ≤ x5 ∧ x5 ≤ 11) → (∀ u : Nat, (u : Int) < x5 → S 1119 (0 + u) = S0 1102 u) → (∀ i : Nat, i < 0 ∨ 11 ≤ i → S 1119 i = S0 1119 i) → (11 - x5).toNat < N → zz_E g l zy_keepRow_14_92 zr_keepRow_14_92_1102_11_0_0 (zz_QV n (zp_keepRow_14_92_1102_11_0_0  S0)) S n 3 [some (.ref 1079), some (.ref 1102), some (zi 11), some (zi 0), some (zi 0), some (zi x5)] [] 0 0) := by
  intro N
  induction N with
  | zero => exact fun x5 S _ _ _ _ _ h => absurd h (Nat.not_lt_zero _)
  | succ N ih =>
    exact fun x5 S a b j0 j1 j2 hR => zb_keepRow_14_92_1102_11_0_0_3  S0 n hn G_S0  x5 S a b j0 j1 j2 _ rfl (fun x5 S a b j0 j1 j2 h => ih x5 S a b j0 j1 j2 (Nat.lt_of_lt_of_le h (Nat.le_of_lt_succ hR)))
theorem zc_keepRow_14_92_1102_11_0_0 {g : mm_G} {l : Launch}  (S0 : zz_S) (n : Nat) (hn : zz_end ≤ n) (G_S0 : zz_G S0)  : mm_Met g l zy_keepRow_14_92 zr_keepRow_14_92_1102_11_0_0 [.ref 1079, .ref 1102, zi 11, zi 0, zi 0] (zz_M S0 n) n (zz_QV n (zp_keepRow_14_92_1102_11_0_0  S0)) := by
  refine zz_enter (by decide) (Nat.le_of_ble_eq_true rfl) (zz_less (ls1 := [some (.ref 1079), some (.ref 1102), some (zi 11), some (zi 0), some (zi 0)]) ⟨rfl, ⟨rfl, ⟨rfl, ⟨rfl, ⟨rfl, trivial⟩⟩⟩⟩⟩ ?_)
  have F_S0 : zz_fr [] [1119] (fun _ _ => False) S0 S0 := zz_fr.refl
  have k3 : ∀ (x5 : Int) (S : zz_S), zz_G S → zz_fr [] [1119] (fun _ _ => False) S0 S → (0 ≤ x5 ∧ x5 ≤ 11) → (∀ u : Nat, (u : Int) < x5 → S 1119 (0 + u) = S0 1102 u) → (∀ i : Nat, i < 0 ∨ 11 ≤ i → S 1119 i = S0 1119 i) → zz_E g l zy_keepRow_14_92 zr_keepRow_14_92_1102_11_0_0 (zz_QV n (zp_keepRow_14_92_1102_11_0_0  S0)) S n 3 [some (.ref 1079), some (.ref 1102), some (zi 11), some (zi 0), some (zi 0), some (zi x5)] [] 0 0 := fun x5 S a b j0 j1 j2 => (zi_keepRow_14_92_1102_11_0_0 (g := g) (l := l)  S0 n hn G_S0  _) x5 S a b j0 j1 j2 (Nat.lt_succ_self _)
  refine zz_iconst zd_14_92_0 ?_
  refine zz_istore [some (.ref 1079), some (.ref 1102), some (zi 11), some (zi 0), some (zi 0), some (zi 0)] zd_14_92_1 (by decide) rfl ?_
  refine zz_less (ls1 := [some (.ref 1079), some (.ref 1102), some (zi 11), some (zi 0), some (zi 0), some (zi 0)]) ⟨rfl, ⟨rfl, ⟨rfl, ⟨rfl, ⟨rfl, ⟨rfl, trivial⟩⟩⟩⟩⟩⟩ ?_
  exact k3 0 S0 G_S0 F_S0 (by omega) (fun u h => absurd h (by omega)) (fun _ _ => rfl)
theorem zk_Md_518 : mm_Vl "TensorForgeModel" 518 11 4 zy_keepRow_14_92 := ⟨zyw_keepRow_14_92, (R_Md, F_Md, 69), rfl, mm_tb_1 2192 (by decide +kernel) rfl, mm_tb_1 2194 (by decide +kernel) rfl, mm_tb_s 139 (by decide +kernel) rfl⟩
theorem zg_14_91_39 : zq_at zy_keepNetwork_14_91.2.1 39 42 ∧ zq_at zy_keepNetwork_14_91.2.1 40 42 ∧ zq_at zy_keepNetwork_14_91.2.1 41 180 ∧ zq_at zy_keepNetwork_14_91.2.1 42 0 ∧ zq_at zy_keepNetwork_14_91.2.1 43 91 ∧ zq_at zy_keepNetwork_14_91.2.1 44 16 ∧ zq_at zy_keepNetwork_14_91.2.1 45 11 ∧ zq_at zy_keepNetwork_14_91.2.1 46 16 ∧ zq_at zy_keepNetwork_14_91.2.1 47 12 ∧ zq_at zy_keepNetwork_14_91.2.1 48 27 ∧ zq_at zy_keepNetwork_14_91.2.1 49 182 ∧ zq_at zy_keepNetwork_14_91.2.1 50 2 ∧ zq_at zy_keepNetwork_14_91.2.1 51 6 := by decide +kernel
theorem zd_14_91_39 : zz_D zy_keepNetwork_14_91 39 (.aload_n 0) 1 40 := ⟨zq_42 zg_14_91_39.1, rfl⟩
theorem zd_14_91_40 : zz_D zy_keepNetwork_14_91 40 (.aload_n 0) 1 41 := ⟨zq_42 zg_14_91_39.2.1, rfl⟩
theorem zd_14_91_41 : zz_D zy_keepNetwork_14_91 41 (.getfield 91) 3 44 := ⟨zq_180 zg_14_91_39.2.2.1 zg_14_91_39.2.2.2.1 zg_14_91_39.2.2.2.2.1 rfl, rfl⟩
theorem zd_14_91_44 : zz_D zy_keepNetwork_14_91 44 (.bipush 11) 2 46 := ⟨zq_16 zg_14_91_39.2.2.2.2.2.1 zg_14_91_39.2.2.2.2.2.2.1 (by decide), rfl⟩
theorem zd_14_91_46 : zz_D zy_keepNetwork_14_91 46 (.bipush 12) 2 48 := ⟨zq_16 zg_14_91_39.2.2.2.2.2.2.2.1 zg_14_91_39.2.2.2.2.2.2.2.2.1 (by decide), rfl⟩
theorem zd_14_91_48 : zz_D zy_keepNetwork_14_91 48 (.iload_n 1) 1 49 := ⟨zq_27 zg_14_91_39.2.2.2.2.2.2.2.2.2.1, rfl⟩
theorem zd_14_91_49 : zz_D zy_keepNetwork_14_91 49 (.invokevirtual 518) 3 52 := ⟨zq_182 zg_14_91_39.2.2.2.2.2.2.2.2.2.2.1 zg_14_91_39.2.2.2.2.2.2.2.2.2.2.2.1 zg_14_91_39.2.2.2.2.2.2.2.2.2.2.2.2 rfl, rfl⟩
-- TensorForgeModel keepRow ([IIIZ)V
abbrev zr_keepRow_14_92_1103_11_12_0 : Room := { frames := 0, cells := 0, slots := 0, locals := 0 }
def zp_keepRow_14_92_1103_11_12_0  (S0 : zz_S) : zz_S → Prop := fun S => zz_G S ∧ zz_fr [] [1119] (fun _ _ => False) S0 S ∧ (∀ u : Nat, u < 11 → S 1119 (12 + u) = S0 1103 u) ∧ (∀ i : Nat, i < 12 ∨ 23 ≤ i → S 1119 i = S0 1119 i)
theorem zb_keepRow_14_92_1103_11_12_0_3 {g : mm_G} {l : Launch}  (S0 : zz_S) (n : Nat) (hn : zz_end ≤ n) (G_S0 : zz_G S0)  (x5 : Int) (S : zz_S) (G_S : zz_G S) (F_S : zz_fr [] [1119] (fun _ _ => False) S0 S) (i3_0 : 0 ≤ x5 ∧ x5 ≤ 11) (i3_1 : ∀ u : Nat, (u : Int) < x5 → S 1119 (12 + u) = S0 1103 u) (i3_2 : ∀ i : Nat, i < 12 ∨ 23 ≤ i → S 1119 i = S0 1119 i) (R : Nat) (hR : (11 - x5).toNat = R) (k3 : ∀ (x5 : Int) (S : zz_S), zz_G S → zz_fr [] [1119] (fun _ _ => False) S0 S → (0 ≤ x5 ∧ x5 ≤ 11) → (∀ u : Nat, (u : Int) < x5 → S 1119 (12 + u) = S0 1103 u) → (∀ i : Nat, i < 12 ∨ 23 ≤ i → S 1119 i = S0 1119 i) → (11 - x5).toNat < R → zz_E g l zy_keepRow_14_92 zr_keepRow_14_92_1103_11_12_0 (zz_QV n (zp_keepRow_14_92_1103_11_12_0  S0)) S n 3 [some (.ref 1079), some (.ref 1103), some (zi 11), some (zi 12), some (zi 0), some (zi x5)] [] 0 0) : zz_E g l zy_keepRow_14_92 zr_keepRow_14_92_1103_11_12_0 (zz_QV n (zp_keepRow_14_92_1103_11_12_0  S0)) S n 3 [some (.ref 1079), some (.ref 1103), some (zi 11), some (zi 12), some (zi 0), some (zi x5)] [] 0 0 := by
  refine zz_iload (x := x5) rfl zd_14_92_3 ?_
  refine zz_iload_n (x := 11) rfl zd_14_92_5 ?_
  refine zz_icmp_ge (by omega) (by omega) zd_14_92_6 (fun c1 => ?_) (fun c1 => ?_)
  · exact zz_vret zd_14_92_49 rfl (Nat.zero_le _) (Nat.zero_le _) ⟨_, rfl, G_S, F_S, fun u hu => i3_1 u (by omega), i3_2⟩
  · refine zz_iload (x := 0) rfl zd_14_92_9 ?_
    refine zz_if_eq (by omega) zd_14_92_11 (fun c2 => ?_) (fun c2 => ?_)
    · refine zz_aload_n (x := 1079) rfl zd_14_92_30 ?_
      refine zz_getr (kd := 0) (z := 1119) zd_14_92_31 zf_Md_139 zT_1079 rfl (zz_ltn hn rfl) (zz_G.eq G_S 1079 67 1119 rfl rfl) (by decide) 1119 rfl ?_
      refine zz_iload_n (x := 12) rfl zd_14_92_34 ?_
      refine zz_iload (x := x5) rfl zd_14_92_35 ?_
      refine zz_iadd zd_14_92_37 ?_
      refine zz_aload_n (x := 1103) rfl zd_14_92_38 ?_
      refine zz_iload (x := x5) rfl zd_14_92_39 ?_
      have g3 := zz_G.r G_S0 1103 x5.toNat 0 63 rfl rfl
      refine zz_iald (z := S0 1103 x5.toNat) zd_14_92_41 zT_1103 rfl (zz_ltn hn rfl) (by decide) (by omega) (zz_rc F_S (zz_nc1 rfl) rfl (fun h => h) rfl) ?_
      refine zz_iast zd_14_92_42 zT_1119 rfl (zz_ltn hn rfl) (by decide) (by omega) (fun S4 qS4 => ?_)
      have G_S4 := zz_G.put G_S qS4 (0) (if (12 + x5).toNat < 12 then 63 else if (12 + x5).toNat < 24 then 63 else if (12 + x5).toNat < 36 then 63 else if (12 + x5).toNat < 37 then 0 else if (12 + x5).toNat < 48 then 10000000 else if (12 + x5).toNat < 59 then 2 else if (12 + x5).toNat < 70 then 10 else if (12 + x5).toNat < 81 then 10 else if (12 + x5).toNat < 92 then 3 else if (12 + x5).toNat < 103 then 3 else if (12 + x5).toNat < 114 then 3 else if (12 + x5).toNat < 125 then 1 else if (12 + x5).toNat < 136 then 31 else 4096) rfl (by omega)
      have F_S4 := zz_fr.putc F_S qS4 rfl
      refine zz_iinc [some (.ref 1079), some (.ref 1103), some (zi 11), some (zi 12), some (zi 0), some (zi (x5 + 1))] zd_14_92_43 rfl rfl ?_
      refine zz_goto zd_14_92_46 ?_
      refine zz_less (ls1 := [some (.ref 1079), some (.ref 1103), some (zi 11), some (zi 12), some (zi 0), some (zi (x5 + 1))]) ⟨rfl, ⟨rfl, ⟨rfl, ⟨rfl, ⟨rfl, ⟨rfl, trivial⟩⟩⟩⟩⟩⟩ ?_
      exact k3 (x5 + 1) S4 G_S4 F_S4 (by omega) (fun u hu => (Decidable.em ((u : Int) = x5)).elim (fun h => by rw [show 12 + u = (12 + x5).toNat by omega, zz_rs qS4, show x5.toNat = u by omega]) (fun h => by rw [zz_ro (b := 1119) (j := 12 + u) qS4 (fun h9 => by omega) rfl]; exact i3_1 u (by omega))) (fun i hi => by rw [zz_ro (b := 1119) (j := i) qS4 (fun h9 => by omega) rfl]; exact i3_2 i hi) (by omega)
    · exfalso; omega
theorem zi_keepRow_14_92_1103_11_12_0 {g : mm_G} {l : Launch}  (S0 : zz_S) (n : Nat) (hn : zz_end ≤ n) (G_S0 : zz_G S0)  : ∀ N : Nat, (∀ (x5 : Int) (S : zz_S), zz_G S → zz_fr [] [1119] (fun _ _ => False) S0 S → (0 ≤ x5 ∧ x5 ≤ 11) → (∀ u : Nat, (u : Int) < x5 → S 1119 (12 + u) = S0 1103 u) → (∀ i : Nat, i < 12 ∨ 23 ≤ i → S 1119 i = S0 1119 i) → (11 - x5).toNat < N → zz_E g l zy_keepRow_14_92 zr_keepRow_14_92_1103_11_12_0 (zz_QV n (zp_keepRow_14_92_1103_11_12_0  S0)) S n 3 [some (.ref 1079), some (.ref 1103), some (zi 11), some (zi 12), some (zi 0), some (zi x5)] [] 0 0) := by
  intro N
  induction N with
  | zero => exact fun x5 S _ _ _ _ _ h => absurd h (Nat.not_lt_zero _)
  | succ N ih =>
    exact fun x5 S a b j0 j1 j2 hR => zb_keepRow_14_92_1103_11_12_0_3  S0 n hn G_S0  x5 S a b j0 j1 j2 _ rfl (fun x5 S a b j0 j1 j2 h => ih x5 S a b j0 j1 j2 (Nat.lt_of_lt_of_le h (Nat.le_of_lt_succ hR)))
theorem zc_keepRow_14_92_1103_11_12_0 {g : mm_G} {l : Launch}  (S0 : zz_S) (n : Nat) (hn : zz_end ≤ n) (G_S0 : zz_G S0)  : mm_Met g l zy_keepRow_14_92 zr_keepRow_14_92_1103_11_12_0 [.ref 1079, .ref 1103, zi 11, zi 12, zi 0] (zz_M S0 n) n (zz_QV n (zp_keepRow_14_92_1103_11_12_0  S0)) := by
  refine zz_enter (by decide) (Nat.le_of_ble_eq_true rfl) (zz_less (ls1 := [some (.ref 1079), some (.ref 1103), some (zi 11), some (zi 12), some (zi 0)]) ⟨rfl, ⟨rfl, ⟨rfl, ⟨rfl, ⟨rfl, trivial⟩⟩⟩⟩⟩ ?_)
  have F_S0 : zz_fr [] [1119] (fun _ _ => False) S0 S0 := zz_fr.refl
  have k3 : ∀ (x5 : Int) (S : zz_S), zz_G S → zz_fr [] [1119] (fun _ _ => False) S0 S → (0 ≤ x5 ∧ x5 ≤ 11) → (∀ u : Nat, (u : Int) < x5 → S 1119 (12 + u) = S0 1103 u) → (∀ i : Nat, i < 12 ∨ 23 ≤ i → S 1119 i = S0 1119 i) → zz_E g l zy_keepRow_14_92 zr_keepRow_14_92_1103_11_12_0 (zz_QV n (zp_keepRow_14_92_1103_11_12_0  S0)) S n 3 [some (.ref 1079), some (.ref 1103), some (zi 11), some (zi 12), some (zi 0), some (zi x5)] [] 0 0 := fun x5 S a b j0 j1 j2 => (zi_keepRow_14_92_1103_11_12_0 (g := g) (l := l)  S0 n hn G_S0  _) x5 S a b j0 j1 j2 (Nat.lt_succ_self _)
  refine zz_iconst zd_14_92_0 ?_
  refine zz_istore [some (.ref 1079), some (.ref 1103), some (zi 11), some (zi 12), some (zi 0), some (zi 0)] zd_14_92_1 (by decide) rfl ?_
  refine zz_less (ls1 := [some (.ref 1079), some (.ref 1103), some (zi 11), some (zi 12), some (zi 0), some (zi 0)]) ⟨rfl, ⟨rfl, ⟨rfl, ⟨rfl, ⟨rfl, ⟨rfl, trivial⟩⟩⟩⟩⟩⟩ ?_
  exact k3 0 S0 G_S0 F_S0 (by omega) (fun u h => absurd h (by omega)) (fun _ _ => rfl)
theorem zg_14_91_52 : zq_at zy_keepNetwork_14_91.2.1 52 42 ∧ zq_at zy_keepNetwork_14_91.2.1 53 42 ∧ zq_at zy_keepNetwork_14_91.2.1 54 180 ∧ zq_at zy_keepNetwork_14_91.2.1 55 0 ∧ zq_at zy_keepNetwork_14_91.2.1 56 94 ∧ zq_at zy_keepNetwork_14_91.2.1 57 16 ∧ zq_at zy_keepNetwork_14_91.2.1 58 11 ∧ zq_at zy_keepNetwork_14_91.2.1 59 16 ∧ zq_at zy_keepNetwork_14_91.2.1 60 24 ∧ zq_at zy_keepNetwork_14_91.2.1 61 27 ∧ zq_at zy_keepNetwork_14_91.2.1 62 182 ∧ zq_at zy_keepNetwork_14_91.2.1 63 2 ∧ zq_at zy_keepNetwork_14_91.2.1 64 6 := by decide +kernel
theorem zd_14_91_52 : zz_D zy_keepNetwork_14_91 52 (.aload_n 0) 1 53 := ⟨zq_42 zg_14_91_52.1, rfl⟩
theorem zd_14_91_53 : zz_D zy_keepNetwork_14_91 53 (.aload_n 0) 1 54 := ⟨zq_42 zg_14_91_52.2.1, rfl⟩
theorem zd_14_91_54 : zz_D zy_keepNetwork_14_91 54 (.getfield 94) 3 57 := ⟨zq_180 zg_14_91_52.2.2.1 zg_14_91_52.2.2.2.1 zg_14_91_52.2.2.2.2.1 rfl, rfl⟩
theorem zd_14_91_57 : zz_D zy_keepNetwork_14_91 57 (.bipush 11) 2 59 := ⟨zq_16 zg_14_91_52.2.2.2.2.2.1 zg_14_91_52.2.2.2.2.2.2.1 (by decide), rfl⟩
theorem zd_14_91_59 : zz_D zy_keepNetwork_14_91 59 (.bipush 24) 2 61 := ⟨zq_16 zg_14_91_52.2.2.2.2.2.2.2.1 zg_14_91_52.2.2.2.2.2.2.2.2.1 (by decide), rfl⟩
theorem zd_14_91_61 : zz_D zy_keepNetwork_14_91 61 (.iload_n 1) 1 62 := ⟨zq_27 zg_14_91_52.2.2.2.2.2.2.2.2.2.1, rfl⟩
theorem zd_14_91_62 : zz_D zy_keepNetwork_14_91 62 (.invokevirtual 518) 3 65 := ⟨zq_182 zg_14_91_52.2.2.2.2.2.2.2.2.2.2.1 zg_14_91_52.2.2.2.2.2.2.2.2.2.2.2.1 zg_14_91_52.2.2.2.2.2.2.2.2.2.2.2.2 rfl, rfl⟩
-- TensorForgeModel keepRow ([IIIZ)V
abbrev zr_keepRow_14_92_1104_11_24_0 : Room := { frames := 0, cells := 0, slots := 0, locals := 0 }
def zp_keepRow_14_92_1104_11_24_0  (S0 : zz_S) : zz_S → Prop := fun S => zz_G S ∧ zz_fr [] [1119] (fun _ _ => False) S0 S ∧ (∀ u : Nat, u < 11 → S 1119 (24 + u) = S0 1104 u) ∧ (∀ i : Nat, i < 24 ∨ 35 ≤ i → S 1119 i = S0 1119 i)
theorem zb_keepRow_14_92_1104_11_24_0_3 {g : mm_G} {l : Launch}  (S0 : zz_S) (n : Nat) (hn : zz_end ≤ n) (G_S0 : zz_G S0)  (x5 : Int) (S : zz_S) (G_S : zz_G S) (F_S : zz_fr [] [1119] (fun _ _ => False) S0 S) (i3_0 : 0 ≤ x5 ∧ x5 ≤ 11) (i3_1 : ∀ u : Nat, (u : Int) < x5 → S 1119 (24 + u) = S0 1104 u) (i3_2 : ∀ i : Nat, i < 24 ∨ 35 ≤ i → S 1119 i = S0 1119 i) (R : Nat) (hR : (11 - x5).toNat = R) (k3 : ∀ (x5 : Int) (S : zz_S), zz_G S → zz_fr [] [1119] (fun _ _ => False) S0 S → (0 ≤ x5 ∧ x5 ≤ 11) → (∀ u : Nat, (u : Int) < x5 → S 1119 (24 + u) = S0 1104 u) → (∀ i : Nat, i < 24 ∨ 35 ≤ i → S 1119 i = S0 1119 i) → (11 - x5).toNat < R → zz_E g l zy_keepRow_14_92 zr_keepRow_14_92_1104_11_24_0 (zz_QV n (zp_keepRow_14_92_1104_11_24_0  S0)) S n 3 [some (.ref 1079), some (.ref 1104), some (zi 11), some (zi 24), some (zi 0), some (zi x5)] [] 0 0) : zz_E g l zy_keepRow_14_92 zr_keepRow_14_92_1104_11_24_0 (zz_QV n (zp_keepRow_14_92_1104_11_24_0  S0)) S n 3 [some (.ref 1079), some (.ref 1104), some (zi 11), some (zi 24), some (zi 0), some (zi x5)] [] 0 0 := by
  refine zz_iload (x := x5) rfl zd_14_92_3 ?_
  refine zz_iload_n (x := 11) rfl zd_14_92_5 ?_
  refine zz_icmp_ge (by omega) (by omega) zd_14_92_6 (fun c1 => ?_) (fun c1 => ?_)
  · exact zz_vret zd_14_92_49 rfl (Nat.zero_le _) (Nat.zero_le _) ⟨_, rfl, G_S, F_S, fun u hu => i3_1 u (by omega), i3_2⟩
  · refine zz_iload (x := 0) rfl zd_14_92_9 ?_
    refine zz_if_eq (by omega) zd_14_92_11 (fun c2 => ?_) (fun c2 => ?_)
    · refine zz_aload_n (x := 1079) rfl zd_14_92_30 ?_
      refine zz_getr (kd := 0) (z := 1119) zd_14_92_31 zf_Md_139 zT_1079 rfl (zz_ltn hn rfl) (zz_G.eq G_S 1079 67 1119 rfl rfl) (by decide) 1119 rfl ?_
      refine zz_iload_n (x := 24) rfl zd_14_92_34 ?_
      refine zz_iload (x := x5) rfl zd_14_92_35 ?_
      refine zz_iadd zd_14_92_37 ?_
      refine zz_aload_n (x := 1104) rfl zd_14_92_38 ?_
      refine zz_iload (x := x5) rfl zd_14_92_39 ?_
      have g3 := zz_G.r G_S0 1104 x5.toNat 0 63 rfl rfl
      refine zz_iald (z := S0 1104 x5.toNat) zd_14_92_41 zT_1104 rfl (zz_ltn hn rfl) (by decide) (by omega) (zz_rc F_S (zz_nc1 rfl) rfl (fun h => h) rfl) ?_
      refine zz_iast zd_14_92_42 zT_1119 rfl (zz_ltn hn rfl) (by decide) (by omega) (fun S4 qS4 => ?_)
      have G_S4 := zz_G.put G_S qS4 (0) (if (24 + x5).toNat < 12 then 63 else if (24 + x5).toNat < 24 then 63 else if (24 + x5).toNat < 36 then 63 else if (24 + x5).toNat < 37 then 0 else if (24 + x5).toNat < 48 then 10000000 else if (24 + x5).toNat < 59 then 2 else if (24 + x5).toNat < 70 then 10 else if (24 + x5).toNat < 81 then 10 else if (24 + x5).toNat < 92 then 3 else if (24 + x5).toNat < 103 then 3 else if (24 + x5).toNat < 114 then 3 else if (24 + x5).toNat < 125 then 1 else if (24 + x5).toNat < 136 then 31 else 4096) rfl (by omega)
      have F_S4 := zz_fr.putc F_S qS4 rfl
      refine zz_iinc [some (.ref 1079), some (.ref 1104), some (zi 11), some (zi 24), some (zi 0), some (zi (x5 + 1))] zd_14_92_43 rfl rfl ?_
      refine zz_goto zd_14_92_46 ?_
      refine zz_less (ls1 := [some (.ref 1079), some (.ref 1104), some (zi 11), some (zi 24), some (zi 0), some (zi (x5 + 1))]) ⟨rfl, ⟨rfl, ⟨rfl, ⟨rfl, ⟨rfl, ⟨rfl, trivial⟩⟩⟩⟩⟩⟩ ?_
      exact k3 (x5 + 1) S4 G_S4 F_S4 (by omega) (fun u hu => (Decidable.em ((u : Int) = x5)).elim (fun h => by rw [show 24 + u = (24 + x5).toNat by omega, zz_rs qS4, show x5.toNat = u by omega]) (fun h => by rw [zz_ro (b := 1119) (j := 24 + u) qS4 (fun h9 => by omega) rfl]; exact i3_1 u (by omega))) (fun i hi => by rw [zz_ro (b := 1119) (j := i) qS4 (fun h9 => by omega) rfl]; exact i3_2 i hi) (by omega)
    · exfalso; omega
theorem zi_keepRow_14_92_1104_11_24_0 {g : mm_G} {l : Launch}  (S0 : zz_S) (n : Nat) (hn : zz_end ≤ n) (G_S0 : zz_G S0)  : ∀ N : Nat, (∀ (x5 : Int) (S : zz_S), zz_G S → zz_fr [] [1119] (fun _ _ => False) S0 S → (0 ≤ x5 ∧ x5 ≤ 11) → (∀ u : Nat, (u : Int) < x5 → S 1119 (24 + u) = S0 1104 u) → (∀ i : Nat, i < 24 ∨ 35 ≤ i → S 1119 i = S0 1119 i) → (11 - x5).toNat < N → zz_E g l zy_keepRow_14_92 zr_keepRow_14_92_1104_11_24_0 (zz_QV n (zp_keepRow_14_92_1104_11_24_0  S0)) S n 3 [some (.ref 1079), some (.ref 1104), some (zi 11), some (zi 24), some (zi 0), some (zi x5)] [] 0 0) := by
  intro N
  induction N with
  | zero => exact fun x5 S _ _ _ _ _ h => absurd h (Nat.not_lt_zero _)
  | succ N ih =>
    exact fun x5 S a b j0 j1 j2 hR => zb_keepRow_14_92_1104_11_24_0_3  S0 n hn G_S0  x5 S a b j0 j1 j2 _ rfl (fun x5 S a b j0 j1 j2 h => ih x5 S a b j0 j1 j2 (Nat.lt_of_lt_of_le h (Nat.le_of_lt_succ hR)))
theorem zc_keepRow_14_92_1104_11_24_0 {g : mm_G} {l : Launch}  (S0 : zz_S) (n : Nat) (hn : zz_end ≤ n) (G_S0 : zz_G S0)  : mm_Met g l zy_keepRow_14_92 zr_keepRow_14_92_1104_11_24_0 [.ref 1079, .ref 1104, zi 11, zi 24, zi 0] (zz_M S0 n) n (zz_QV n (zp_keepRow_14_92_1104_11_24_0  S0)) := by
  refine zz_enter (by decide) (Nat.le_of_ble_eq_true rfl) (zz_less (ls1 := [some (.ref 1079), some (.ref 1104), some (zi 11), some (zi 24), some (zi 0)]) ⟨rfl, ⟨rfl, ⟨rfl, ⟨rfl, ⟨rfl, trivial⟩⟩⟩⟩⟩ ?_)
  have F_S0 : zz_fr [] [1119] (fun _ _ => False) S0 S0 := zz_fr.refl
  have k3 : ∀ (x5 : Int) (S : zz_S), zz_G S → zz_fr [] [1119] (fun _ _ => False) S0 S → (0 ≤ x5 ∧ x5 ≤ 11) → (∀ u : Nat, (u : Int) < x5 → S 1119 (24 + u) = S0 1104 u) → (∀ i : Nat, i < 24 ∨ 35 ≤ i → S 1119 i = S0 1119 i) → zz_E g l zy_keepRow_14_92 zr_keepRow_14_92_1104_11_24_0 (zz_QV n (zp_keepRow_14_92_1104_11_24_0  S0)) S n 3 [some (.ref 1079), some (.ref 1104), some (zi 11), some (zi 24), some (zi 0), some (zi x5)] [] 0 0 := fun x5 S a b j0 j1 j2 => (zi_keepRow_14_92_1104_11_24_0 (g := g) (l := l)  S0 n hn G_S0  _) x5 S a b j0 j1 j2 (Nat.lt_succ_self _)
  refine zz_iconst zd_14_92_0 ?_
  refine zz_istore [some (.ref 1079), some (.ref 1104), some (zi 11), some (zi 24), some (zi 0), some (zi 0)] zd_14_92_1 (by decide) rfl ?_
  refine zz_less (ls1 := [some (.ref 1079), some (.ref 1104), some (zi 11), some (zi 24), some (zi 0), some (zi 0)]) ⟨rfl, ⟨rfl, ⟨rfl, ⟨rfl, ⟨rfl, ⟨rfl, trivial⟩⟩⟩⟩⟩⟩ ?_
  exact k3 0 S0 G_S0 F_S0 (by omega) (fun u h => absurd h (by omega)) (fun _ _ => rfl)
theorem zg_14_91_65 : zq_at zy_keepNetwork_14_91.2.1 65 42 ∧ zq_at zy_keepNetwork_14_91.2.1 66 42 ∧ zq_at zy_keepNetwork_14_91.2.1 67 180 ∧ zq_at zy_keepNetwork_14_91.2.1 68 0 ∧ zq_at zy_keepNetwork_14_91.2.1 69 97 ∧ zq_at zy_keepNetwork_14_91.2.1 70 16 ∧ zq_at zy_keepNetwork_14_91.2.1 71 12 ∧ zq_at zy_keepNetwork_14_91.2.1 72 16 ∧ zq_at zy_keepNetwork_14_91.2.1 73 36 ∧ zq_at zy_keepNetwork_14_91.2.1 74 27 ∧ zq_at zy_keepNetwork_14_91.2.1 75 182 ∧ zq_at zy_keepNetwork_14_91.2.1 76 2 ∧ zq_at zy_keepNetwork_14_91.2.1 77 6 := by decide +kernel
theorem zd_14_91_65 : zz_D zy_keepNetwork_14_91 65 (.aload_n 0) 1 66 := ⟨zq_42 zg_14_91_65.1, rfl⟩
theorem zd_14_91_66 : zz_D zy_keepNetwork_14_91 66 (.aload_n 0) 1 67 := ⟨zq_42 zg_14_91_65.2.1, rfl⟩
theorem zd_14_91_67 : zz_D zy_keepNetwork_14_91 67 (.getfield 97) 3 70 := ⟨zq_180 zg_14_91_65.2.2.1 zg_14_91_65.2.2.2.1 zg_14_91_65.2.2.2.2.1 rfl, rfl⟩
theorem zd_14_91_70 : zz_D zy_keepNetwork_14_91 70 (.bipush 12) 2 72 := ⟨zq_16 zg_14_91_65.2.2.2.2.2.1 zg_14_91_65.2.2.2.2.2.2.1 (by decide), rfl⟩
theorem zd_14_91_72 : zz_D zy_keepNetwork_14_91 72 (.bipush 36) 2 74 := ⟨zq_16 zg_14_91_65.2.2.2.2.2.2.2.1 zg_14_91_65.2.2.2.2.2.2.2.2.1 (by decide), rfl⟩
theorem zd_14_91_74 : zz_D zy_keepNetwork_14_91 74 (.iload_n 1) 1 75 := ⟨zq_27 zg_14_91_65.2.2.2.2.2.2.2.2.2.1, rfl⟩
theorem zd_14_91_75 : zz_D zy_keepNetwork_14_91 75 (.invokevirtual 518) 3 78 := ⟨zq_182 zg_14_91_65.2.2.2.2.2.2.2.2.2.2.1 zg_14_91_65.2.2.2.2.2.2.2.2.2.2.2.1 zg_14_91_65.2.2.2.2.2.2.2.2.2.2.2.2 rfl, rfl⟩
-- TensorForgeModel keepRow ([IIIZ)V
abbrev zr_keepRow_14_92_1105_12_36_0 : Room := { frames := 0, cells := 0, slots := 0, locals := 0 }
def zp_keepRow_14_92_1105_12_36_0  (S0 : zz_S) : zz_S → Prop := fun S => zz_G S ∧ zz_fr [] [1119] (fun _ _ => False) S0 S ∧ (∀ u : Nat, u < 12 → S 1119 (36 + u) = S0 1105 u) ∧ (∀ i : Nat, i < 36 ∨ 48 ≤ i → S 1119 i = S0 1119 i)
theorem zb_keepRow_14_92_1105_12_36_0_3 {g : mm_G} {l : Launch}  (S0 : zz_S) (n : Nat) (hn : zz_end ≤ n) (G_S0 : zz_G S0)  (x5 : Int) (S : zz_S) (G_S : zz_G S) (F_S : zz_fr [] [1119] (fun _ _ => False) S0 S) (i3_0 : 0 ≤ x5 ∧ x5 ≤ 12) (i3_1 : ∀ u : Nat, (u : Int) < x5 → S 1119 (36 + u) = S0 1105 u) (i3_2 : ∀ i : Nat, i < 36 ∨ 48 ≤ i → S 1119 i = S0 1119 i) (R : Nat) (hR : (12 - x5).toNat = R) (k3 : ∀ (x5 : Int) (S : zz_S), zz_G S → zz_fr [] [1119] (fun _ _ => False) S0 S → (0 ≤ x5 ∧ x5 ≤ 12) → (∀ u : Nat, (u : Int) < x5 → S 1119 (36 + u) = S0 1105 u) → (∀ i : Nat, i < 36 ∨ 48 ≤ i → S 1119 i = S0 1119 i) → (12 - x5).toNat < R → zz_E g l zy_keepRow_14_92 zr_keepRow_14_92_1105_12_36_0 (zz_QV n (zp_keepRow_14_92_1105_12_36_0  S0)) S n 3 [some (.ref 1079), some (.ref 1105), some (zi 12), some (zi 36), some (zi 0), some (zi x5)] [] 0 0) : zz_E g l zy_keepRow_14_92 zr_keepRow_14_92_1105_12_36_0 (zz_QV n (zp_keepRow_14_92_1105_12_36_0  S0)) S n 3 [some (.ref 1079), some (.ref 1105), some (zi 12), some (zi 36), some (zi 0), some (zi x5)] [] 0 0 := by
  refine zz_iload (x := x5) rfl zd_14_92_3 ?_
  refine zz_iload_n (x := 12) rfl zd_14_92_5 ?_
  refine zz_icmp_ge (by omega) (by omega) zd_14_92_6 (fun c1 => ?_) (fun c1 => ?_)
  · exact zz_vret zd_14_92_49 rfl (Nat.zero_le _) (Nat.zero_le _) ⟨_, rfl, G_S, F_S, fun u hu => i3_1 u (by omega), i3_2⟩
  · refine zz_iload (x := 0) rfl zd_14_92_9 ?_
    refine zz_if_eq (by omega) zd_14_92_11 (fun c2 => ?_) (fun c2 => ?_)
    · refine zz_aload_n (x := 1079) rfl zd_14_92_30 ?_
      refine zz_getr (kd := 0) (z := 1119) zd_14_92_31 zf_Md_139 zT_1079 rfl (zz_ltn hn rfl) (zz_G.eq G_S 1079 67 1119 rfl rfl) (by decide) 1119 rfl ?_
      refine zz_iload_n (x := 36) rfl zd_14_92_34 ?_
      refine zz_iload (x := x5) rfl zd_14_92_35 ?_
      refine zz_iadd zd_14_92_37 ?_
      refine zz_aload_n (x := 1105) rfl zd_14_92_38 ?_
      refine zz_iload (x := x5) rfl zd_14_92_39 ?_
      have g3 := zz_G.r G_S0 1105 x5.toNat (0) (if x5.toNat = 0 then 0 else 10000000) rfl rfl
      refine zz_iald (z := S0 1105 x5.toNat) zd_14_92_41 zT_1105 rfl (zz_ltn hn rfl) (by decide) (by omega) (zz_rc F_S (zz_nc1 rfl) rfl (fun h => h) rfl) ?_
      refine zz_iast zd_14_92_42 zT_1119 rfl (zz_ltn hn rfl) (by decide) (by omega) (fun S4 qS4 => ?_)
      have G_S4 := zz_G.put G_S qS4 (0) (if (36 + x5).toNat < 12 then 63 else if (36 + x5).toNat < 24 then 63 else if (36 + x5).toNat < 36 then 63 else if (36 + x5).toNat < 37 then 0 else if (36 + x5).toNat < 48 then 10000000 else if (36 + x5).toNat < 59 then 2 else if (36 + x5).toNat < 70 then 10 else if (36 + x5).toNat < 81 then 10 else if (36 + x5).toNat < 92 then 3 else if (36 + x5).toNat < 103 then 3 else if (36 + x5).toNat < 114 then 3 else if (36 + x5).toNat < 125 then 1 else if (36 + x5).toNat < 136 then 31 else 4096) rfl (by omega)
      have F_S4 := zz_fr.putc F_S qS4 rfl
      refine zz_iinc [some (.ref 1079), some (.ref 1105), some (zi 12), some (zi 36), some (zi 0), some (zi (x5 + 1))] zd_14_92_43 rfl rfl ?_
      refine zz_goto zd_14_92_46 ?_
      refine zz_less (ls1 := [some (.ref 1079), some (.ref 1105), some (zi 12), some (zi 36), some (zi 0), some (zi (x5 + 1))]) ⟨rfl, ⟨rfl, ⟨rfl, ⟨rfl, ⟨rfl, ⟨rfl, trivial⟩⟩⟩⟩⟩⟩ ?_
      exact k3 (x5 + 1) S4 G_S4 F_S4 (by omega) (fun u hu => (Decidable.em ((u : Int) = x5)).elim (fun h => by rw [show 36 + u = (36 + x5).toNat by omega, zz_rs qS4, show x5.toNat = u by omega]) (fun h => by rw [zz_ro (b := 1119) (j := 36 + u) qS4 (fun h9 => by omega) rfl]; exact i3_1 u (by omega))) (fun i hi => by rw [zz_ro (b := 1119) (j := i) qS4 (fun h9 => by omega) rfl]; exact i3_2 i hi) (by omega)
    · exfalso; omega
theorem zi_keepRow_14_92_1105_12_36_0 {g : mm_G} {l : Launch}  (S0 : zz_S) (n : Nat) (hn : zz_end ≤ n) (G_S0 : zz_G S0)  : ∀ N : Nat, (∀ (x5 : Int) (S : zz_S), zz_G S → zz_fr [] [1119] (fun _ _ => False) S0 S → (0 ≤ x5 ∧ x5 ≤ 12) → (∀ u : Nat, (u : Int) < x5 → S 1119 (36 + u) = S0 1105 u) → (∀ i : Nat, i < 36 ∨ 48 ≤ i → S 1119 i = S0 1119 i) → (12 - x5).toNat < N → zz_E g l zy_keepRow_14_92 zr_keepRow_14_92_1105_12_36_0 (zz_QV n (zp_keepRow_14_92_1105_12_36_0  S0)) S n 3 [some (.ref 1079), some (.ref 1105), some (zi 12), some (zi 36), some (zi 0), some (zi x5)] [] 0 0) := by
  intro N
  induction N with
  | zero => exact fun x5 S _ _ _ _ _ h => absurd h (Nat.not_lt_zero _)
  | succ N ih =>
    exact fun x5 S a b j0 j1 j2 hR => zb_keepRow_14_92_1105_12_36_0_3  S0 n hn G_S0  x5 S a b j0 j1 j2 _ rfl (fun x5 S a b j0 j1 j2 h => ih x5 S a b j0 j1 j2 (Nat.lt_of_lt_of_le h (Nat.le_of_lt_succ hR)))
theorem zc_keepRow_14_92_1105_12_36_0 {g : mm_G} {l : Launch}  (S0 : zz_S) (n : Nat) (hn : zz_end ≤ n) (G_S0 : zz_G S0)  : mm_Met g l zy_keepRow_14_92 zr_keepRow_14_92_1105_12_36_0 [.ref 1079, .ref 1105, zi 12, zi 36, zi 0] (zz_M S0 n) n (zz_QV n (zp_keepRow_14_92_1105_12_36_0  S0)) := by
  refine zz_enter (by decide) (Nat.le_of_ble_eq_true rfl) (zz_less (ls1 := [some (.ref 1079), some (.ref 1105), some (zi 12), some (zi 36), some (zi 0)]) ⟨rfl, ⟨rfl, ⟨rfl, ⟨rfl, ⟨rfl, trivial⟩⟩⟩⟩⟩ ?_)
  have F_S0 : zz_fr [] [1119] (fun _ _ => False) S0 S0 := zz_fr.refl
  have k3 : ∀ (x5 : Int) (S : zz_S), zz_G S → zz_fr [] [1119] (fun _ _ => False) S0 S → (0 ≤ x5 ∧ x5 ≤ 12) → (∀ u : Nat, (u : Int) < x5 → S 1119 (36 + u) = S0 1105 u) → (∀ i : Nat, i < 36 ∨ 48 ≤ i → S 1119 i = S0 1119 i) → zz_E g l zy_keepRow_14_92 zr_keepRow_14_92_1105_12_36_0 (zz_QV n (zp_keepRow_14_92_1105_12_36_0  S0)) S n 3 [some (.ref 1079), some (.ref 1105), some (zi 12), some (zi 36), some (zi 0), some (zi x5)] [] 0 0 := fun x5 S a b j0 j1 j2 => (zi_keepRow_14_92_1105_12_36_0 (g := g) (l := l)  S0 n hn G_S0  _) x5 S a b j0 j1 j2 (Nat.lt_succ_self _)
  refine zz_iconst zd_14_92_0 ?_
  refine zz_istore [some (.ref 1079), some (.ref 1105), some (zi 12), some (zi 36), some (zi 0), some (zi 0)] zd_14_92_1 (by decide) rfl ?_
  refine zz_less (ls1 := [some (.ref 1079), some (.ref 1105), some (zi 12), some (zi 36), some (zi 0), some (zi 0)]) ⟨rfl, ⟨rfl, ⟨rfl, ⟨rfl, ⟨rfl, ⟨rfl, trivial⟩⟩⟩⟩⟩⟩ ?_
  exact k3 0 S0 G_S0 F_S0 (by omega) (fun u h => absurd h (by omega)) (fun _ _ => rfl)
theorem zg_14_91_78 : zq_at zy_keepNetwork_14_91.2.1 78 42 ∧ zq_at zy_keepNetwork_14_91.2.1 79 42 ∧ zq_at zy_keepNetwork_14_91.2.1 80 180 ∧ zq_at zy_keepNetwork_14_91.2.1 81 0 ∧ zq_at zy_keepNetwork_14_91.2.1 82 100 ∧ zq_at zy_keepNetwork_14_91.2.1 83 16 ∧ zq_at zy_keepNetwork_14_91.2.1 84 10 ∧ zq_at zy_keepNetwork_14_91.2.1 85 16 ∧ zq_at zy_keepNetwork_14_91.2.1 86 48 ∧ zq_at zy_keepNetwork_14_91.2.1 87 27 ∧ zq_at zy_keepNetwork_14_91.2.1 88 182 ∧ zq_at zy_keepNetwork_14_91.2.1 89 2 ∧ zq_at zy_keepNetwork_14_91.2.1 90 6 := by decide +kernel
theorem zd_14_91_78 : zz_D zy_keepNetwork_14_91 78 (.aload_n 0) 1 79 := ⟨zq_42 zg_14_91_78.1, rfl⟩
theorem zd_14_91_79 : zz_D zy_keepNetwork_14_91 79 (.aload_n 0) 1 80 := ⟨zq_42 zg_14_91_78.2.1, rfl⟩
theorem zd_14_91_80 : zz_D zy_keepNetwork_14_91 80 (.getfield 100) 3 83 := ⟨zq_180 zg_14_91_78.2.2.1 zg_14_91_78.2.2.2.1 zg_14_91_78.2.2.2.2.1 rfl, rfl⟩
theorem zd_14_91_83 : zz_D zy_keepNetwork_14_91 83 (.bipush 10) 2 85 := ⟨zq_16 zg_14_91_78.2.2.2.2.2.1 zg_14_91_78.2.2.2.2.2.2.1 (by decide), rfl⟩
theorem zd_14_91_85 : zz_D zy_keepNetwork_14_91 85 (.bipush 48) 2 87 := ⟨zq_16 zg_14_91_78.2.2.2.2.2.2.2.1 zg_14_91_78.2.2.2.2.2.2.2.2.1 (by decide), rfl⟩
theorem zd_14_91_87 : zz_D zy_keepNetwork_14_91 87 (.iload_n 1) 1 88 := ⟨zq_27 zg_14_91_78.2.2.2.2.2.2.2.2.2.1, rfl⟩
theorem zd_14_91_88 : zz_D zy_keepNetwork_14_91 88 (.invokevirtual 518) 3 91 := ⟨zq_182 zg_14_91_78.2.2.2.2.2.2.2.2.2.2.1 zg_14_91_78.2.2.2.2.2.2.2.2.2.2.2.1 zg_14_91_78.2.2.2.2.2.2.2.2.2.2.2.2 rfl, rfl⟩
-- TensorForgeModel keepRow ([IIIZ)V
abbrev zr_keepRow_14_92_1106_10_48_0 : Room := { frames := 0, cells := 0, slots := 0, locals := 0 }
def zp_keepRow_14_92_1106_10_48_0  (S0 : zz_S) : zz_S → Prop := fun S => zz_G S ∧ zz_fr [] [1119] (fun _ _ => False) S0 S ∧ (∀ u : Nat, u < 10 → S 1119 (48 + u) = S0 1106 u) ∧ (∀ i : Nat, i < 48 ∨ 58 ≤ i → S 1119 i = S0 1119 i)
theorem zb_keepRow_14_92_1106_10_48_0_3 {g : mm_G} {l : Launch}  (S0 : zz_S) (n : Nat) (hn : zz_end ≤ n) (G_S0 : zz_G S0)  (x5 : Int) (S : zz_S) (G_S : zz_G S) (F_S : zz_fr [] [1119] (fun _ _ => False) S0 S) (i3_0 : 0 ≤ x5 ∧ x5 ≤ 10) (i3_1 : ∀ u : Nat, (u : Int) < x5 → S 1119 (48 + u) = S0 1106 u) (i3_2 : ∀ i : Nat, i < 48 ∨ 58 ≤ i → S 1119 i = S0 1119 i) (R : Nat) (hR : (10 - x5).toNat = R) (k3 : ∀ (x5 : Int) (S : zz_S), zz_G S → zz_fr [] [1119] (fun _ _ => False) S0 S → (0 ≤ x5 ∧ x5 ≤ 10) → (∀ u : Nat, (u : Int) < x5 → S 1119 (48 + u) = S0 1106 u) → (∀ i : Nat, i < 48 ∨ 58 ≤ i → S 1119 i = S0 1119 i) → (10 - x5).toNat < R → zz_E g l zy_keepRow_14_92 zr_keepRow_14_92_1106_10_48_0 (zz_QV n (zp_keepRow_14_92_1106_10_48_0  S0)) S n 3 [some (.ref 1079), some (.ref 1106), some (zi 10), some (zi 48), some (zi 0), some (zi x5)] [] 0 0) : zz_E g l zy_keepRow_14_92 zr_keepRow_14_92_1106_10_48_0 (zz_QV n (zp_keepRow_14_92_1106_10_48_0  S0)) S n 3 [some (.ref 1079), some (.ref 1106), some (zi 10), some (zi 48), some (zi 0), some (zi x5)] [] 0 0 := by
  refine zz_iload (x := x5) rfl zd_14_92_3 ?_
  refine zz_iload_n (x := 10) rfl zd_14_92_5 ?_
  refine zz_icmp_ge (by omega) (by omega) zd_14_92_6 (fun c1 => ?_) (fun c1 => ?_)
  · exact zz_vret zd_14_92_49 rfl (Nat.zero_le _) (Nat.zero_le _) ⟨_, rfl, G_S, F_S, fun u hu => i3_1 u (by omega), i3_2⟩
  · refine zz_iload (x := 0) rfl zd_14_92_9 ?_
    refine zz_if_eq (by omega) zd_14_92_11 (fun c2 => ?_) (fun c2 => ?_)
    · refine zz_aload_n (x := 1079) rfl zd_14_92_30 ?_
      refine zz_getr (kd := 0) (z := 1119) zd_14_92_31 zf_Md_139 zT_1079 rfl (zz_ltn hn rfl) (zz_G.eq G_S 1079 67 1119 rfl rfl) (by decide) 1119 rfl ?_
      refine zz_iload_n (x := 48) rfl zd_14_92_34 ?_
      refine zz_iload (x := x5) rfl zd_14_92_35 ?_
      refine zz_iadd zd_14_92_37 ?_
      refine zz_aload_n (x := 1106) rfl zd_14_92_38 ?_
      refine zz_iload (x := x5) rfl zd_14_92_39 ?_
      have g3 := zz_G.r G_S0 1106 x5.toNat 0 2 rfl rfl
      refine zz_iald (z := S0 1106 x5.toNat) zd_14_92_41 zT_1106 rfl (zz_ltn hn rfl) (by decide) (by omega) (zz_rc F_S (zz_nc1 rfl) rfl (fun h => h) rfl) ?_
      refine zz_iast zd_14_92_42 zT_1119 rfl (zz_ltn hn rfl) (by decide) (by omega) (fun S4 qS4 => ?_)
      have G_S4 := zz_G.put G_S qS4 (0) (if (48 + x5).toNat < 12 then 63 else if (48 + x5).toNat < 24 then 63 else if (48 + x5).toNat < 36 then 63 else if (48 + x5).toNat < 37 then 0 else if (48 + x5).toNat < 48 then 10000000 else if (48 + x5).toNat < 59 then 2 else if (48 + x5).toNat < 70 then 10 else if (48 + x5).toNat < 81 then 10 else if (48 + x5).toNat < 92 then 3 else if (48 + x5).toNat < 103 then 3 else if (48 + x5).toNat < 114 then 3 else if (48 + x5).toNat < 125 then 1 else if (48 + x5).toNat < 136 then 31 else 4096) rfl (by omega)
      have F_S4 := zz_fr.putc F_S qS4 rfl
      refine zz_iinc [some (.ref 1079), some (.ref 1106), some (zi 10), some (zi 48), some (zi 0), some (zi (x5 + 1))] zd_14_92_43 rfl rfl ?_
      refine zz_goto zd_14_92_46 ?_
      refine zz_less (ls1 := [some (.ref 1079), some (.ref 1106), some (zi 10), some (zi 48), some (zi 0), some (zi (x5 + 1))]) ⟨rfl, ⟨rfl, ⟨rfl, ⟨rfl, ⟨rfl, ⟨rfl, trivial⟩⟩⟩⟩⟩⟩ ?_
      exact k3 (x5 + 1) S4 G_S4 F_S4 (by omega) (fun u hu => (Decidable.em ((u : Int) = x5)).elim (fun h => by rw [show 48 + u = (48 + x5).toNat by omega, zz_rs qS4, show x5.toNat = u by omega]) (fun h => by rw [zz_ro (b := 1119) (j := 48 + u) qS4 (fun h9 => by omega) rfl]; exact i3_1 u (by omega))) (fun i hi => by rw [zz_ro (b := 1119) (j := i) qS4 (fun h9 => by omega) rfl]; exact i3_2 i hi) (by omega)
    · exfalso; omega
theorem zi_keepRow_14_92_1106_10_48_0 {g : mm_G} {l : Launch}  (S0 : zz_S) (n : Nat) (hn : zz_end ≤ n) (G_S0 : zz_G S0)  : ∀ N : Nat, (∀ (x5 : Int) (S : zz_S), zz_G S → zz_fr [] [1119] (fun _ _ => False) S0 S → (0 ≤ x5 ∧ x5 ≤ 10) → (∀ u : Nat, (u : Int) < x5 → S 1119 (48 + u) = S0 1106 u) → (∀ i : Nat, i < 48 ∨ 58 ≤ i → S 1119 i = S0 1119 i) → (10 - x5).toNat < N → zz_E g l zy_keepRow_14_92 zr_keepRow_14_92_1106_10_48_0 (zz_QV n (zp_keepRow_14_92_1106_10_48_0  S0)) S n 3 [some (.ref 1079), some (.ref 1106), some (zi 10), some (zi 48), some (zi 0), some (zi x5)] [] 0 0) := by
  intro N
  induction N with
  | zero => exact fun x5 S _ _ _ _ _ h => absurd h (Nat.not_lt_zero _)
  | succ N ih =>
    exact fun x5 S a b j0 j1 j2 hR => zb_keepRow_14_92_1106_10_48_0_3  S0 n hn G_S0  x5 S a b j0 j1 j2 _ rfl (fun x5 S a b j0 j1 j2 h => ih x5 S a b j0 j1 j2 (Nat.lt_of_lt_of_le h (Nat.le_of_lt_succ hR)))
theorem zc_keepRow_14_92_1106_10_48_0 {g : mm_G} {l : Launch}  (S0 : zz_S) (n : Nat) (hn : zz_end ≤ n) (G_S0 : zz_G S0)  : mm_Met g l zy_keepRow_14_92 zr_keepRow_14_92_1106_10_48_0 [.ref 1079, .ref 1106, zi 10, zi 48, zi 0] (zz_M S0 n) n (zz_QV n (zp_keepRow_14_92_1106_10_48_0  S0)) := by
  refine zz_enter (by decide) (Nat.le_of_ble_eq_true rfl) (zz_less (ls1 := [some (.ref 1079), some (.ref 1106), some (zi 10), some (zi 48), some (zi 0)]) ⟨rfl, ⟨rfl, ⟨rfl, ⟨rfl, ⟨rfl, trivial⟩⟩⟩⟩⟩ ?_)
  have F_S0 : zz_fr [] [1119] (fun _ _ => False) S0 S0 := zz_fr.refl
  have k3 : ∀ (x5 : Int) (S : zz_S), zz_G S → zz_fr [] [1119] (fun _ _ => False) S0 S → (0 ≤ x5 ∧ x5 ≤ 10) → (∀ u : Nat, (u : Int) < x5 → S 1119 (48 + u) = S0 1106 u) → (∀ i : Nat, i < 48 ∨ 58 ≤ i → S 1119 i = S0 1119 i) → zz_E g l zy_keepRow_14_92 zr_keepRow_14_92_1106_10_48_0 (zz_QV n (zp_keepRow_14_92_1106_10_48_0  S0)) S n 3 [some (.ref 1079), some (.ref 1106), some (zi 10), some (zi 48), some (zi 0), some (zi x5)] [] 0 0 := fun x5 S a b j0 j1 j2 => (zi_keepRow_14_92_1106_10_48_0 (g := g) (l := l)  S0 n hn G_S0  _) x5 S a b j0 j1 j2 (Nat.lt_succ_self _)
  refine zz_iconst zd_14_92_0 ?_
  refine zz_istore [some (.ref 1079), some (.ref 1106), some (zi 10), some (zi 48), some (zi 0), some (zi 0)] zd_14_92_1 (by decide) rfl ?_
  refine zz_less (ls1 := [some (.ref 1079), some (.ref 1106), some (zi 10), some (zi 48), some (zi 0), some (zi 0)]) ⟨rfl, ⟨rfl, ⟨rfl, ⟨rfl, ⟨rfl, ⟨rfl, trivial⟩⟩⟩⟩⟩⟩ ?_
  exact k3 0 S0 G_S0 F_S0 (by omega) (fun u h => absurd h (by omega)) (fun _ _ => rfl)
theorem zg_14_91_91 : zq_at zy_keepNetwork_14_91.2.1 91 42 ∧ zq_at zy_keepNetwork_14_91.2.1 92 42 ∧ zq_at zy_keepNetwork_14_91.2.1 93 180 ∧ zq_at zy_keepNetwork_14_91.2.1 94 0 ∧ zq_at zy_keepNetwork_14_91.2.1 95 103 ∧ zq_at zy_keepNetwork_14_91.2.1 96 16 ∧ zq_at zy_keepNetwork_14_91.2.1 97 10 ∧ zq_at zy_keepNetwork_14_91.2.1 98 16 ∧ zq_at zy_keepNetwork_14_91.2.1 99 59 ∧ zq_at zy_keepNetwork_14_91.2.1 100 27 ∧ zq_at zy_keepNetwork_14_91.2.1 101 182 ∧ zq_at zy_keepNetwork_14_91.2.1 102 2 ∧ zq_at zy_keepNetwork_14_91.2.1 103 6 := by decide +kernel
theorem zd_14_91_91 : zz_D zy_keepNetwork_14_91 91 (.aload_n 0) 1 92 := ⟨zq_42 zg_14_91_91.1, rfl⟩
theorem zd_14_91_92 : zz_D zy_keepNetwork_14_91 92 (.aload_n 0) 1 93 := ⟨zq_42 zg_14_91_91.2.1, rfl⟩
theorem zd_14_91_93 : zz_D zy_keepNetwork_14_91 93 (.getfield 103) 3 96 := ⟨zq_180 zg_14_91_91.2.2.1 zg_14_91_91.2.2.2.1 zg_14_91_91.2.2.2.2.1 rfl, rfl⟩
theorem zd_14_91_96 : zz_D zy_keepNetwork_14_91 96 (.bipush 10) 2 98 := ⟨zq_16 zg_14_91_91.2.2.2.2.2.1 zg_14_91_91.2.2.2.2.2.2.1 (by decide), rfl⟩
theorem zd_14_91_98 : zz_D zy_keepNetwork_14_91 98 (.bipush 59) 2 100 := ⟨zq_16 zg_14_91_91.2.2.2.2.2.2.2.1 zg_14_91_91.2.2.2.2.2.2.2.2.1 (by decide), rfl⟩
theorem zd_14_91_100 : zz_D zy_keepNetwork_14_91 100 (.iload_n 1) 1 101 := ⟨zq_27 zg_14_91_91.2.2.2.2.2.2.2.2.2.1, rfl⟩
theorem zd_14_91_101 : zz_D zy_keepNetwork_14_91 101 (.invokevirtual 518) 3 104 := ⟨zq_182 zg_14_91_91.2.2.2.2.2.2.2.2.2.2.1 zg_14_91_91.2.2.2.2.2.2.2.2.2.2.2.1 zg_14_91_91.2.2.2.2.2.2.2.2.2.2.2.2 rfl, rfl⟩
-- TensorForgeModel keepRow ([IIIZ)V
abbrev zr_keepRow_14_92_1107_10_59_0 : Room := { frames := 0, cells := 0, slots := 0, locals := 0 }
def zp_keepRow_14_92_1107_10_59_0  (S0 : zz_S) : zz_S → Prop := fun S => zz_G S ∧ zz_fr [] [1119] (fun _ _ => False) S0 S ∧ (∀ u : Nat, u < 10 → S 1119 (59 + u) = S0 1107 u) ∧ (∀ i : Nat, i < 59 ∨ 69 ≤ i → S 1119 i = S0 1119 i)
theorem zb_keepRow_14_92_1107_10_59_0_3 {g : mm_G} {l : Launch}  (S0 : zz_S) (n : Nat) (hn : zz_end ≤ n) (G_S0 : zz_G S0)  (x5 : Int) (S : zz_S) (G_S : zz_G S) (F_S : zz_fr [] [1119] (fun _ _ => False) S0 S) (i3_0 : 0 ≤ x5 ∧ x5 ≤ 10) (i3_1 : ∀ u : Nat, (u : Int) < x5 → S 1119 (59 + u) = S0 1107 u) (i3_2 : ∀ i : Nat, i < 59 ∨ 69 ≤ i → S 1119 i = S0 1119 i) (R : Nat) (hR : (10 - x5).toNat = R) (k3 : ∀ (x5 : Int) (S : zz_S), zz_G S → zz_fr [] [1119] (fun _ _ => False) S0 S → (0 ≤ x5 ∧ x5 ≤ 10) → (∀ u : Nat, (u : Int) < x5 → S 1119 (59 + u) = S0 1107 u) → (∀ i : Nat, i < 59 ∨ 69 ≤ i → S 1119 i = S0 1119 i) → (10 - x5).toNat < R → zz_E g l zy_keepRow_14_92 zr_keepRow_14_92_1107_10_59_0 (zz_QV n (zp_keepRow_14_92_1107_10_59_0  S0)) S n 3 [some (.ref 1079), some (.ref 1107), some (zi 10), some (zi 59), some (zi 0), some (zi x5)] [] 0 0) : zz_E g l zy_keepRow_14_92 zr_keepRow_14_92_1107_10_59_0 (zz_QV n (zp_keepRow_14_92_1107_10_59_0  S0)) S n 3 [some (.ref 1079), some (.ref 1107), some (zi 10), some (zi 59), some (zi 0), some (zi x5)] [] 0 0 := by
  refine zz_iload (x := x5) rfl zd_14_92_3 ?_
  refine zz_iload_n (x := 10) rfl zd_14_92_5 ?_
  refine zz_icmp_ge (by omega) (by omega) zd_14_92_6 (fun c1 => ?_) (fun c1 => ?_)
  · exact zz_vret zd_14_92_49 rfl (Nat.zero_le _) (Nat.zero_le _) ⟨_, rfl, G_S, F_S, fun u hu => i3_1 u (by omega), i3_2⟩
  · refine zz_iload (x := 0) rfl zd_14_92_9 ?_
    refine zz_if_eq (by omega) zd_14_92_11 (fun c2 => ?_) (fun c2 => ?_)
    · refine zz_aload_n (x := 1079) rfl zd_14_92_30 ?_
      refine zz_getr (kd := 0) (z := 1119) zd_14_92_31 zf_Md_139 zT_1079 rfl (zz_ltn hn rfl) (zz_G.eq G_S 1079 67 1119 rfl rfl) (by decide) 1119 rfl ?_
      refine zz_iload_n (x := 59) rfl zd_14_92_34 ?_
      refine zz_iload (x := x5) rfl zd_14_92_35 ?_
      refine zz_iadd zd_14_92_37 ?_
      refine zz_aload_n (x := 1107) rfl zd_14_92_38 ?_
      refine zz_iload (x := x5) rfl zd_14_92_39 ?_
      have g3 := zz_G.r G_S0 1107 x5.toNat 0 10 rfl rfl
      refine zz_iald (z := S0 1107 x5.toNat) zd_14_92_41 zT_1107 rfl (zz_ltn hn rfl) (by decide) (by omega) (zz_rc F_S (zz_nc1 rfl) rfl (fun h => h) rfl) ?_
      refine zz_iast zd_14_92_42 zT_1119 rfl (zz_ltn hn rfl) (by decide) (by omega) (fun S4 qS4 => ?_)
      have G_S4 := zz_G.put G_S qS4 (0) (if (59 + x5).toNat < 12 then 63 else if (59 + x5).toNat < 24 then 63 else if (59 + x5).toNat < 36 then 63 else if (59 + x5).toNat < 37 then 0 else if (59 + x5).toNat < 48 then 10000000 else if (59 + x5).toNat < 59 then 2 else if (59 + x5).toNat < 70 then 10 else if (59 + x5).toNat < 81 then 10 else if (59 + x5).toNat < 92 then 3 else if (59 + x5).toNat < 103 then 3 else if (59 + x5).toNat < 114 then 3 else if (59 + x5).toNat < 125 then 1 else if (59 + x5).toNat < 136 then 31 else 4096) rfl (by omega)
      have F_S4 := zz_fr.putc F_S qS4 rfl
      refine zz_iinc [some (.ref 1079), some (.ref 1107), some (zi 10), some (zi 59), some (zi 0), some (zi (x5 + 1))] zd_14_92_43 rfl rfl ?_
      refine zz_goto zd_14_92_46 ?_
      refine zz_less (ls1 := [some (.ref 1079), some (.ref 1107), some (zi 10), some (zi 59), some (zi 0), some (zi (x5 + 1))]) ⟨rfl, ⟨rfl, ⟨rfl, ⟨rfl, ⟨rfl, ⟨rfl, trivial⟩⟩⟩⟩⟩⟩ ?_
      exact k3 (x5 + 1) S4 G_S4 F_S4 (by omega) (fun u hu => (Decidable.em ((u : Int) = x5)).elim (fun h => by rw [show 59 + u = (59 + x5).toNat by omega, zz_rs qS4, show x5.toNat = u by omega]) (fun h => by rw [zz_ro (b := 1119) (j := 59 + u) qS4 (fun h9 => by omega) rfl]; exact i3_1 u (by omega))) (fun i hi => by rw [zz_ro (b := 1119) (j := i) qS4 (fun h9 => by omega) rfl]; exact i3_2 i hi) (by omega)
    · exfalso; omega
theorem zi_keepRow_14_92_1107_10_59_0 {g : mm_G} {l : Launch}  (S0 : zz_S) (n : Nat) (hn : zz_end ≤ n) (G_S0 : zz_G S0)  : ∀ N : Nat, (∀ (x5 : Int) (S : zz_S), zz_G S → zz_fr [] [1119] (fun _ _ => False) S0 S → (0 ≤ x5 ∧ x5 ≤ 10) → (∀ u : Nat, (u : Int) < x5 → S 1119 (59 + u) = S0 1107 u) → (∀ i : Nat, i < 59 ∨ 69 ≤ i → S 1119 i = S0 1119 i) → (10 - x5).toNat < N → zz_E g l zy_keepRow_14_92 zr_keepRow_14_92_1107_10_59_0 (zz_QV n (zp_keepRow_14_92_1107_10_59_0  S0)) S n 3 [some (.ref 1079), some (.ref 1107), some (zi 10), some (zi 59), some (zi 0), some (zi x5)] [] 0 0) := by
  intro N
  induction N with
  | zero => exact fun x5 S _ _ _ _ _ h => absurd h (Nat.not_lt_zero _)
  | succ N ih =>
    exact fun x5 S a b j0 j1 j2 hR => zb_keepRow_14_92_1107_10_59_0_3  S0 n hn G_S0  x5 S a b j0 j1 j2 _ rfl (fun x5 S a b j0 j1 j2 h => ih x5 S a b j0 j1 j2 (Nat.lt_of_lt_of_le h (Nat.le_of_lt_succ hR)))
theorem zc_keepRow_14_92_1107_10_59_0 {g : mm_G} {l : Launch}  (S0 : zz_S) (n : Nat) (hn : zz_end ≤ n) (G_S0 : zz_G S0)  : mm_Met g l zy_keepRow_14_92 zr_keepRow_14_92_1107_10_59_0 [.ref 1079, .ref 1107, zi 10, zi 59, zi 0] (zz_M S0 n) n (zz_QV n (zp_keepRow_14_92_1107_10_59_0  S0)) := by
  refine zz_enter (by decide) (Nat.le_of_ble_eq_true rfl) (zz_less (ls1 := [some (.ref 1079), some (.ref 1107), some (zi 10), some (zi 59), some (zi 0)]) ⟨rfl, ⟨rfl, ⟨rfl, ⟨rfl, ⟨rfl, trivial⟩⟩⟩⟩⟩ ?_)
  have F_S0 : zz_fr [] [1119] (fun _ _ => False) S0 S0 := zz_fr.refl
  have k3 : ∀ (x5 : Int) (S : zz_S), zz_G S → zz_fr [] [1119] (fun _ _ => False) S0 S → (0 ≤ x5 ∧ x5 ≤ 10) → (∀ u : Nat, (u : Int) < x5 → S 1119 (59 + u) = S0 1107 u) → (∀ i : Nat, i < 59 ∨ 69 ≤ i → S 1119 i = S0 1119 i) → zz_E g l zy_keepRow_14_92 zr_keepRow_14_92_1107_10_59_0 (zz_QV n (zp_keepRow_14_92_1107_10_59_0  S0)) S n 3 [some (.ref 1079), some (.ref 1107), some (zi 10), some (zi 59), some (zi 0), some (zi x5)] [] 0 0 := fun x5 S a b j0 j1 j2 => (zi_keepRow_14_92_1107_10_59_0 (g := g) (l := l)  S0 n hn G_S0  _) x5 S a b j0 j1 j2 (Nat.lt_succ_self _)
  refine zz_iconst zd_14_92_0 ?_
  refine zz_istore [some (.ref 1079), some (.ref 1107), some (zi 10), some (zi 59), some (zi 0), some (zi 0)] zd_14_92_1 (by decide) rfl ?_
  refine zz_less (ls1 := [some (.ref 1079), some (.ref 1107), some (zi 10), some (zi 59), some (zi 0), some (zi 0)]) ⟨rfl, ⟨rfl, ⟨rfl, ⟨rfl, ⟨rfl, ⟨rfl, trivial⟩⟩⟩⟩⟩⟩ ?_
  exact k3 0 S0 G_S0 F_S0 (by omega) (fun u h => absurd h (by omega)) (fun _ _ => rfl)
theorem zg_14_91_104 : zq_at zy_keepNetwork_14_91.2.1 104 42 ∧ zq_at zy_keepNetwork_14_91.2.1 105 42 ∧ zq_at zy_keepNetwork_14_91.2.1 106 180 ∧ zq_at zy_keepNetwork_14_91.2.1 107 0 ∧ zq_at zy_keepNetwork_14_91.2.1 108 106 ∧ zq_at zy_keepNetwork_14_91.2.1 109 16 ∧ zq_at zy_keepNetwork_14_91.2.1 110 10 ∧ zq_at zy_keepNetwork_14_91.2.1 111 16 ∧ zq_at zy_keepNetwork_14_91.2.1 112 70 ∧ zq_at zy_keepNetwork_14_91.2.1 113 27 ∧ zq_at zy_keepNetwork_14_91.2.1 114 182 ∧ zq_at zy_keepNetwork_14_91.2.1 115 2 ∧ zq_at zy_keepNetwork_14_91.2.1 116 6 := by decide +kernel
theorem zd_14_91_104 : zz_D zy_keepNetwork_14_91 104 (.aload_n 0) 1 105 := ⟨zq_42 zg_14_91_104.1, rfl⟩
theorem zd_14_91_105 : zz_D zy_keepNetwork_14_91 105 (.aload_n 0) 1 106 := ⟨zq_42 zg_14_91_104.2.1, rfl⟩
theorem zd_14_91_106 : zz_D zy_keepNetwork_14_91 106 (.getfield 106) 3 109 := ⟨zq_180 zg_14_91_104.2.2.1 zg_14_91_104.2.2.2.1 zg_14_91_104.2.2.2.2.1 rfl, rfl⟩
theorem zd_14_91_109 : zz_D zy_keepNetwork_14_91 109 (.bipush 10) 2 111 := ⟨zq_16 zg_14_91_104.2.2.2.2.2.1 zg_14_91_104.2.2.2.2.2.2.1 (by decide), rfl⟩
theorem zd_14_91_111 : zz_D zy_keepNetwork_14_91 111 (.bipush 70) 2 113 := ⟨zq_16 zg_14_91_104.2.2.2.2.2.2.2.1 zg_14_91_104.2.2.2.2.2.2.2.2.1 (by decide), rfl⟩
theorem zd_14_91_113 : zz_D zy_keepNetwork_14_91 113 (.iload_n 1) 1 114 := ⟨zq_27 zg_14_91_104.2.2.2.2.2.2.2.2.2.1, rfl⟩
theorem zd_14_91_114 : zz_D zy_keepNetwork_14_91 114 (.invokevirtual 518) 3 117 := ⟨zq_182 zg_14_91_104.2.2.2.2.2.2.2.2.2.2.1 zg_14_91_104.2.2.2.2.2.2.2.2.2.2.2.1 zg_14_91_104.2.2.2.2.2.2.2.2.2.2.2.2 rfl, rfl⟩
-- TensorForgeModel keepRow ([IIIZ)V
abbrev zr_keepRow_14_92_1108_10_70_0 : Room := { frames := 0, cells := 0, slots := 0, locals := 0 }
def zp_keepRow_14_92_1108_10_70_0  (S0 : zz_S) : zz_S → Prop := fun S => zz_G S ∧ zz_fr [] [1119] (fun _ _ => False) S0 S ∧ (∀ u : Nat, u < 10 → S 1119 (70 + u) = S0 1108 u) ∧ (∀ i : Nat, i < 70 ∨ 80 ≤ i → S 1119 i = S0 1119 i)
theorem zb_keepRow_14_92_1108_10_70_0_3 {g : mm_G} {l : Launch}  (S0 : zz_S) (n : Nat) (hn : zz_end ≤ n) (G_S0 : zz_G S0)  (x5 : Int) (S : zz_S) (G_S : zz_G S) (F_S : zz_fr [] [1119] (fun _ _ => False) S0 S) (i3_0 : 0 ≤ x5 ∧ x5 ≤ 10) (i3_1 : ∀ u : Nat, (u : Int) < x5 → S 1119 (70 + u) = S0 1108 u) (i3_2 : ∀ i : Nat, i < 70 ∨ 80 ≤ i → S 1119 i = S0 1119 i) (R : Nat) (hR : (10 - x5).toNat = R) (k3 : ∀ (x5 : Int) (S : zz_S), zz_G S → zz_fr [] [1119] (fun _ _ => False) S0 S → (0 ≤ x5 ∧ x5 ≤ 10) → (∀ u : Nat, (u : Int) < x5 → S 1119 (70 + u) = S0 1108 u) → (∀ i : Nat, i < 70 ∨ 80 ≤ i → S 1119 i = S0 1119 i) → (10 - x5).toNat < R → zz_E g l zy_keepRow_14_92 zr_keepRow_14_92_1108_10_70_0 (zz_QV n (zp_keepRow_14_92_1108_10_70_0  S0)) S n 3 [some (.ref 1079), some (.ref 1108), some (zi 10), some (zi 70), some (zi 0), some (zi x5)] [] 0 0) : zz_E g l zy_keepRow_14_92 zr_keepRow_14_92_1108_10_70_0 (zz_QV n (zp_keepRow_14_92_1108_10_70_0  S0)) S n 3 [some (.ref 1079), some (.ref 1108), some (zi 10), some (zi 70), some (zi 0), some (zi x5)] [] 0 0 := by
  refine zz_iload (x := x5) rfl zd_14_92_3 ?_
  refine zz_iload_n (x := 10) rfl zd_14_92_5 ?_
  refine zz_icmp_ge (by omega) (by omega) zd_14_92_6 (fun c1 => ?_) (fun c1 => ?_)
  · exact zz_vret zd_14_92_49 rfl (Nat.zero_le _) (Nat.zero_le _) ⟨_, rfl, G_S, F_S, fun u hu => i3_1 u (by omega), i3_2⟩
  · refine zz_iload (x := 0) rfl zd_14_92_9 ?_
    refine zz_if_eq (by omega) zd_14_92_11 (fun c2 => ?_) (fun c2 => ?_)
    · refine zz_aload_n (x := 1079) rfl zd_14_92_30 ?_
      refine zz_getr (kd := 0) (z := 1119) zd_14_92_31 zf_Md_139 zT_1079 rfl (zz_ltn hn rfl) (zz_G.eq G_S 1079 67 1119 rfl rfl) (by decide) 1119 rfl ?_
      refine zz_iload_n (x := 70) rfl zd_14_92_34 ?_
      refine zz_iload (x := x5) rfl zd_14_92_35 ?_
      refine zz_iadd zd_14_92_37 ?_
      refine zz_aload_n (x := 1108) rfl zd_14_92_38 ?_
      refine zz_iload (x := x5) rfl zd_14_92_39 ?_
      have g3 := zz_G.r G_S0 1108 x5.toNat 0 10 rfl rfl
      refine zz_iald (z := S0 1108 x5.toNat) zd_14_92_41 zT_1108 rfl (zz_ltn hn rfl) (by decide) (by omega) (zz_rc F_S (zz_nc1 rfl) rfl (fun h => h) rfl) ?_
      refine zz_iast zd_14_92_42 zT_1119 rfl (zz_ltn hn rfl) (by decide) (by omega) (fun S4 qS4 => ?_)
      have G_S4 := zz_G.put G_S qS4 (0) (if (70 + x5).toNat < 12 then 63 else if (70 + x5).toNat < 24 then 63 else if (70 + x5).toNat < 36 then 63 else if (70 + x5).toNat < 37 then 0 else if (70 + x5).toNat < 48 then 10000000 else if (70 + x5).toNat < 59 then 2 else if (70 + x5).toNat < 70 then 10 else if (70 + x5).toNat < 81 then 10 else if (70 + x5).toNat < 92 then 3 else if (70 + x5).toNat < 103 then 3 else if (70 + x5).toNat < 114 then 3 else if (70 + x5).toNat < 125 then 1 else if (70 + x5).toNat < 136 then 31 else 4096) rfl (by omega)
      have F_S4 := zz_fr.putc F_S qS4 rfl
      refine zz_iinc [some (.ref 1079), some (.ref 1108), some (zi 10), some (zi 70), some (zi 0), some (zi (x5 + 1))] zd_14_92_43 rfl rfl ?_
      refine zz_goto zd_14_92_46 ?_
      refine zz_less (ls1 := [some (.ref 1079), some (.ref 1108), some (zi 10), some (zi 70), some (zi 0), some (zi (x5 + 1))]) ⟨rfl, ⟨rfl, ⟨rfl, ⟨rfl, ⟨rfl, ⟨rfl, trivial⟩⟩⟩⟩⟩⟩ ?_
      exact k3 (x5 + 1) S4 G_S4 F_S4 (by omega) (fun u hu => (Decidable.em ((u : Int) = x5)).elim (fun h => by rw [show 70 + u = (70 + x5).toNat by omega, zz_rs qS4, show x5.toNat = u by omega]) (fun h => by rw [zz_ro (b := 1119) (j := 70 + u) qS4 (fun h9 => by omega) rfl]; exact i3_1 u (by omega))) (fun i hi => by rw [zz_ro (b := 1119) (j := i) qS4 (fun h9 => by omega) rfl]; exact i3_2 i hi) (by omega)
    · exfalso; omega
theorem zi_keepRow_14_92_1108_10_70_0 {g : mm_G} {l : Launch}  (S0 : zz_S) (n : Nat) (hn : zz_end ≤ n) (G_S0 : zz_G S0)  : ∀ N : Nat, (∀ (x5 : Int) (S : zz_S), zz_G S → zz_fr [] [1119] (fun _ _ => False) S0 S → (0 ≤ x5 ∧ x5 ≤ 10) → (∀ u : Nat, (u : Int) < x5 → S 1119 (70 + u) = S0 1108 u) → (∀ i : Nat, i < 70 ∨ 80 ≤ i → S 1119 i = S0 1119 i) → (10 - x5).toNat < N → zz_E g l zy_keepRow_14_92 zr_keepRow_14_92_1108_10_70_0 (zz_QV n (zp_keepRow_14_92_1108_10_70_0  S0)) S n 3 [some (.ref 1079), some (.ref 1108), some (zi 10), some (zi 70), some (zi 0), some (zi x5)] [] 0 0) := by
  intro N
  induction N with
  | zero => exact fun x5 S _ _ _ _ _ h => absurd h (Nat.not_lt_zero _)
  | succ N ih =>
    exact fun x5 S a b j0 j1 j2 hR => zb_keepRow_14_92_1108_10_70_0_3  S0 n hn G_S0  x5 S a b j0 j1 j2 _ rfl (fun x5 S a b j0 j1 j2 h => ih x5 S a b j0 j1 j2 (Nat.lt_of_lt_of_le h (Nat.le_of_lt_succ hR)))
theorem zc_keepRow_14_92_1108_10_70_0 {g : mm_G} {l : Launch}  (S0 : zz_S) (n : Nat) (hn : zz_end ≤ n) (G_S0 : zz_G S0)  : mm_Met g l zy_keepRow_14_92 zr_keepRow_14_92_1108_10_70_0 [.ref 1079, .ref 1108, zi 10, zi 70, zi 0] (zz_M S0 n) n (zz_QV n (zp_keepRow_14_92_1108_10_70_0  S0)) := by
  refine zz_enter (by decide) (Nat.le_of_ble_eq_true rfl) (zz_less (ls1 := [some (.ref 1079), some (.ref 1108), some (zi 10), some (zi 70), some (zi 0)]) ⟨rfl, ⟨rfl, ⟨rfl, ⟨rfl, ⟨rfl, trivial⟩⟩⟩⟩⟩ ?_)
  have F_S0 : zz_fr [] [1119] (fun _ _ => False) S0 S0 := zz_fr.refl
  have k3 : ∀ (x5 : Int) (S : zz_S), zz_G S → zz_fr [] [1119] (fun _ _ => False) S0 S → (0 ≤ x5 ∧ x5 ≤ 10) → (∀ u : Nat, (u : Int) < x5 → S 1119 (70 + u) = S0 1108 u) → (∀ i : Nat, i < 70 ∨ 80 ≤ i → S 1119 i = S0 1119 i) → zz_E g l zy_keepRow_14_92 zr_keepRow_14_92_1108_10_70_0 (zz_QV n (zp_keepRow_14_92_1108_10_70_0  S0)) S n 3 [some (.ref 1079), some (.ref 1108), some (zi 10), some (zi 70), some (zi 0), some (zi x5)] [] 0 0 := fun x5 S a b j0 j1 j2 => (zi_keepRow_14_92_1108_10_70_0 (g := g) (l := l)  S0 n hn G_S0  _) x5 S a b j0 j1 j2 (Nat.lt_succ_self _)
  refine zz_iconst zd_14_92_0 ?_
  refine zz_istore [some (.ref 1079), some (.ref 1108), some (zi 10), some (zi 70), some (zi 0), some (zi 0)] zd_14_92_1 (by decide) rfl ?_
  refine zz_less (ls1 := [some (.ref 1079), some (.ref 1108), some (zi 10), some (zi 70), some (zi 0), some (zi 0)]) ⟨rfl, ⟨rfl, ⟨rfl, ⟨rfl, ⟨rfl, ⟨rfl, trivial⟩⟩⟩⟩⟩⟩ ?_
  exact k3 0 S0 G_S0 F_S0 (by omega) (fun u h => absurd h (by omega)) (fun _ _ => rfl)
theorem zg_14_91_117 : zq_at zy_keepNetwork_14_91.2.1 117 42 ∧ zq_at zy_keepNetwork_14_91.2.1 118 42 ∧ zq_at zy_keepNetwork_14_91.2.1 119 180 ∧ zq_at zy_keepNetwork_14_91.2.1 120 0 ∧ zq_at zy_keepNetwork_14_91.2.1 121 109 ∧ zq_at zy_keepNetwork_14_91.2.1 122 16 ∧ zq_at zy_keepNetwork_14_91.2.1 123 10 ∧ zq_at zy_keepNetwork_14_91.2.1 124 16 ∧ zq_at zy_keepNetwork_14_91.2.1 125 81 ∧ zq_at zy_keepNetwork_14_91.2.1 126 27 ∧ zq_at zy_keepNetwork_14_91.2.1 127 182 ∧ zq_at zy_keepNetwork_14_91.2.1 128 2 ∧ zq_at zy_keepNetwork_14_91.2.1 129 6 := by decide +kernel
theorem zd_14_91_117 : zz_D zy_keepNetwork_14_91 117 (.aload_n 0) 1 118 := ⟨zq_42 zg_14_91_117.1, rfl⟩
theorem zd_14_91_118 : zz_D zy_keepNetwork_14_91 118 (.aload_n 0) 1 119 := ⟨zq_42 zg_14_91_117.2.1, rfl⟩
theorem zd_14_91_119 : zz_D zy_keepNetwork_14_91 119 (.getfield 109) 3 122 := ⟨zq_180 zg_14_91_117.2.2.1 zg_14_91_117.2.2.2.1 zg_14_91_117.2.2.2.2.1 rfl, rfl⟩
theorem zd_14_91_122 : zz_D zy_keepNetwork_14_91 122 (.bipush 10) 2 124 := ⟨zq_16 zg_14_91_117.2.2.2.2.2.1 zg_14_91_117.2.2.2.2.2.2.1 (by decide), rfl⟩
theorem zd_14_91_124 : zz_D zy_keepNetwork_14_91 124 (.bipush 81) 2 126 := ⟨zq_16 zg_14_91_117.2.2.2.2.2.2.2.1 zg_14_91_117.2.2.2.2.2.2.2.2.1 (by decide), rfl⟩
theorem zd_14_91_126 : zz_D zy_keepNetwork_14_91 126 (.iload_n 1) 1 127 := ⟨zq_27 zg_14_91_117.2.2.2.2.2.2.2.2.2.1, rfl⟩
theorem zd_14_91_127 : zz_D zy_keepNetwork_14_91 127 (.invokevirtual 518) 3 130 := ⟨zq_182 zg_14_91_117.2.2.2.2.2.2.2.2.2.2.1 zg_14_91_117.2.2.2.2.2.2.2.2.2.2.2.1 zg_14_91_117.2.2.2.2.2.2.2.2.2.2.2.2 rfl, rfl⟩

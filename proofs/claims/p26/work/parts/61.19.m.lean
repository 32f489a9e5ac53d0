-- TensorForgeModel keepRow ([IIIZ)V
abbrev zr_keepRow_14_92_1109_10_81_0 : Room := { frames := 0, cells := 0, slots := 0, locals := 0 }
def zp_keepRow_14_92_1109_10_81_0  (S0 : zz_S) : zz_S → Prop := fun S => zz_G S ∧ zz_fr [] [1119] (fun _ _ => False) S0 S ∧ (∀ u : Nat, u < 10 → S 1119 (81 + u) = S0 1109 u) ∧ (∀ i : Nat, i < 81 ∨ 91 ≤ i → S 1119 i = S0 1119 i)
theorem zb_keepRow_14_92_1109_10_81_0_3 {g : mm_G} {l : Launch}  (S0 : zz_S) (n : Nat) (hn : zz_end ≤ n) (G_S0 : zz_G S0)  (x5 : Int) (S : zz_S) (G_S : zz_G S) (F_S : zz_fr [] [1119] (fun _ _ => False) S0 S) (i3_0 : 0 ≤ x5 ∧ x5 ≤ 10) (i3_1 : ∀ u : Nat, (u : Int) < x5 → S 1119 (81 + u) = S0 1109 u) (i3_2 : ∀ i : Nat, i < 81 ∨ 91 ≤ i → S 1119 i = S0 1119 i) (R : Nat) (hR : (10 - x5).toNat = R) (k3 : ∀ (x5 : Int) (S : zz_S), zz_G S → zz_fr [] [1119] (fun _ _ => False) S0 S → (0 ≤ x5 ∧ x5 ≤ 10) → (∀ u : Nat, (u : Int) < x5 → S 1119 (81 + u) = S0 1109 u) → (∀ i : Nat, i < 81 ∨ 91 ≤ i → S 1119 i = S0 1119 i) → (10 - x5).toNat < R → zz_E g l zy_keepRow_14_92 zr_keepRow_14_92_1109_10_81_0 (zz_QV n (zp_keepRow_14_92_1109_10_81_0  S0)) S n 3 [some (.ref 1079), some (.ref 1109), some (zi 10), some (zi 81), some (zi 0), some (zi x5)] [] 0 0) : zz_E g l zy_keepRow_14_92 zr_keepRow_14_92_1109_10_81_0 (zz_QV n (zp_keepRow_14_92_1109_10_81_0  S0)) S n 3 [some (.ref 1079), some (.ref 1109), some (zi 10), some (zi 81), some (zi 0), some (zi x5)] [] 0 0 := by
  refine zz_iload (x := x5) rfl zd_14_92_3 ?_
  refine zz_iload_n (x := 10) rfl zd_14_92_5 ?_
  refine zz_icmp_ge (by omega) (by omega) zd_14_92_6 (fun c1 => ?_) (fun c1 => ?_)
  · exact zz_vret zd_14_92_49 rfl (Nat.zero_le _) (Nat.zero_le _) ⟨_, rfl, G_S, F_S, fun u hu => i3_1 u (by omega), i3_2⟩
  · refine zz_iload (x := 0) rfl zd_14_92_9 ?_
    refine zz_if_eq (by omega) zd_14_92_11 (fun c2 => ?_) (fun c2 => ?_)
    · refine zz_aload_n (x := 1079) rfl zd_14_92_30 ?_
      refine zz_getr (kd := 0) (z := 1119) zd_14_92_31 zf_Md_139 zT_1079 rfl (zz_ltn hn rfl) (zz_G.eq G_S 1079 67 1119 rfl rfl) (by decide) 1119 rfl ?_
      refine zz_iload_n (x := 81) rfl zd_14_92_34 ?_
      refine zz_iload (x := x5) rfl zd_14_92_35 ?_
      refine zz_iadd zd_14_92_37 ?_
      refine zz_aload_n (x := 1109) rfl zd_14_92_38 ?_
      refine zz_iload (x := x5) rfl zd_14_92_39 ?_
      have g3 := zz_G.r G_S0 1109 x5.toNat 0 3 rfl rfl
      refine zz_iald (z := S0 1109 x5.toNat) zd_14_92_41 zT_1109 rfl (zz_ltn hn rfl) (by decide) (by omega) (zz_rc F_S (zz_nc1 rfl) rfl (fun h => h) rfl) ?_
      refine zz_iast zd_14_92_42 zT_1119 rfl (zz_ltn hn rfl) (by decide) (by omega) (fun S4 qS4 => ?_)
      have G_S4 := zz_G.put G_S qS4 (0) (if (81 + x5).toNat < 12 then 63 else if (81 + x5).toNat < 24 then 63 else if (81 + x5).toNat < 36 then 63 else if (81 + x5).toNat < 37 then 0 else if (81 + x5).toNat < 48 then 10000000 else if (81 + x5).toNat < 59 then 2 else if (81 + x5).toNat < 70 then 10 else if (81 + x5).toNat < 81 then 10 else if (81 + x5).toNat < 92 then 3 else if (81 + x5).toNat < 103 then 3 else if (81 + x5).toNat < 114 then 3 else if (81 + x5).toNat < 125 then 1 else if (81 + x5).toNat < 136 then 31 else 4096) rfl (by omega)
      have F_S4 := zz_fr.putc F_S qS4 rfl
      refine zz_iinc [some (.ref 1079), some (.ref 1109), some (zi 10), some (zi 81), some (zi 0), some (zi (x5 + 1))] zd_14_92_43 rfl rfl ?_
      refine zz_goto zd_14_92_46 ?_
      refine zz_less (ls1 := [some (.ref 1079), some (.ref 1109), some (zi 10), some (zi 81), some (zi 0), some (zi (x5 + 1))]) ⟨rfl, ⟨rfl, ⟨rfl, ⟨rfl, ⟨rfl, ⟨rfl, trivial⟩⟩⟩⟩⟩⟩ ?_
      exact k3 (x5 + 1) S4 G_S4 F_S4 (by omega) (fun u hu => (Decidable.em ((u : Int) = x5)).elim (fun h => by rw [show 81 + u = (81 + x5).toNat by omega, zz_rs qS4, show x5.toNat = u by omega]) (fun h => by rw [zz_ro (b := 1119) (j := 81 + u) qS4 (fun h9 => by omega) rfl]; exact i3_1 u (by omega))) (fun i hi => by rw [zz_ro (b := 1119) (j := i) qS4 (fun h9 => by omega) rfl]; exact i3_2 i hi) (by omega)
    · exfalso; omega
theorem zi_keepRow_14_92_1109_10_81_0 {g : mm_G} {l : Launch}  (S0 : zz_S) (n : Nat) (hn : zz_end ≤ n) (G_S0 : zz_G S0)  : ∀ N : Nat, (∀ (x5 : Int) (S : zz_S), zz_G S → zz_fr [] [1119] (fun _ _ => False) S0 S → (0 ≤ x5 ∧ x5 ≤ 10) → (∀ u : Nat, (u : Int) < x5 → S 1119 (81 + u) = S0 1109 u) → (∀ i : Nat, i < 81 ∨ 91 ≤ i → S 1119 i = S0 1119 i) → (10 - x5).toNat < N → zz_E g l zy_keepRow_14_92 zr_keepRow_14_92_1109_10_81_0 (zz_QV n (zp_keepRow_14_92_1109_10_81_0  S0)) S n 3 [some (.ref 1079), some (.ref 1109), some (zi 10), some (zi 81), some (zi 0), some (zi x5)] [] 0 0) := by
  intro N
  induction N with
  | zero => exact fun x5 S _ _ _ _ _ h => absurd h (Nat.not_lt_zero _)
  | succ N ih =>
    exact fun x5 S a b j0 j1 j2 hR => zb_keepRow_14_92_1109_10_81_0_3  S0 n hn G_S0  x5 S a b j0 j1 j2 _ rfl (fun x5 S a b j0 j1 j2 h => ih x5 S a b j0 j1 j2 (Nat.lt_of_lt_of_le h (Nat.le_of_lt_succ hR)))
theorem zc_keepRow_14_92_1109_10_81_0 {g : mm_G} {l : Launch}  (S0 : zz_S) (n : Nat) (hn : zz_end ≤ n) (G_S0 : zz_G S0)  : mm_Met g l zy_keepRow_14_92 zr_keepRow_14_92_1109_10_81_0 [.ref 1079, .ref 1109, zi 10, zi 81, zi 0] (zz_M S0 n) n (zz_QV n (zp_keepRow_14_92_1109_10_81_0  S0)) := by
  refine zz_enter (by decide) (Nat.le_of_ble_eq_true rfl) (zz_less (ls1 := [some (.ref 1079), some (.ref 1109), some (zi 10), some (zi 81), some (zi 0)]) ⟨rfl, ⟨rfl, ⟨rfl, ⟨rfl, ⟨rfl, trivial⟩⟩⟩⟩⟩ ?_)
  have F_S0 : zz_fr [] [1119] (fun _ _ => False) S0 S0 := zz_fr.refl
  have k3 : ∀ (x5 : Int) (S : zz_S), zz_G S → zz_fr [] [1119] (fun _ _ => False) S0 S → (0 ≤ x5 ∧ x5 ≤ 10) → (∀ u : Nat, (u : Int) < x5 → S 1119 (81 + u) = S0 1109 u) → (∀ i : Nat, i < 81 ∨ 91 ≤ i → S 1119 i = S0 1119 i) → zz_E g l zy_keepRow_14_92 zr_keepRow_14_92_1109_10_81_0 (zz_QV n (zp_keepRow_14_92_1109_10_81_0  S0)) S n 3 [some (.ref 1079), some (.ref 1109), some (zi 10), some (zi 81), some (zi 0), some (zi x5)] [] 0 0 := fun x5 S a b j0 j1 j2 => (zi_keepRow_14_92_1109_10_81_0 (g := g) (l := l)  S0 n hn G_S0  _) x5 S a b j0 j1 j2 (Nat.lt_succ_self _)
  refine zz_iconst zd_14_92_0 ?_
  refine zz_istore [some (.ref 1079), some (.ref 1109), some (zi 10), some (zi 81), some (zi 0), some (zi 0)] zd_14_92_1 (by decide) rfl ?_
  refine zz_less (ls1 := [some (.ref 1079), some (.ref 1109), some (zi 10), some (zi 81), some (zi 0), some (zi 0)]) ⟨rfl, ⟨rfl, ⟨rfl, ⟨rfl, ⟨rfl, ⟨rfl, trivial⟩⟩⟩⟩⟩⟩ ?_
  exact k3 0 S0 G_S0 F_S0 (by omega) (fun u h => absurd h (by omega)) (fun _ _ => rfl)
theorem zg_14_91_130 : zq_at zy_keepNetwork_14_91.2.1 130 42 ∧ zq_at zy_keepNetwork_14_91.2.1 131 42 ∧ zq_at zy_keepNetwork_14_91.2.1 132 180 ∧ zq_at zy_keepNetwork_14_91.2.1 133 0 ∧ zq_at zy_keepNetwork_14_91.2.1 134 112 ∧ zq_at zy_keepNetwork_14_91.2.1 135 16 ∧ zq_at zy_keepNetwork_14_91.2.1 136 10 ∧ zq_at zy_keepNetwork_14_91.2.1 137 16 ∧ zq_at zy_keepNetwork_14_91.2.1 138 92 ∧ zq_at zy_keepNetwork_14_91.2.1 139 27 ∧ zq_at zy_keepNetwork_14_91.2.1 140 182 ∧ zq_at zy_keepNetwork_14_91.2.1 141 2 ∧ zq_at zy_keepNetwork_14_91.2.1 142 6 := by decide +kernel
theorem zd_14_91_130 : zz_D zy_keepNetwork_14_91 130 (.aload_n 0) 1 131 := ⟨zq_42 zg_14_91_130.1, rfl⟩
theorem zd_14_91_131 : zz_D zy_keepNetwork_14_91 131 (.aload_n 0) 1 132 := ⟨zq_42 zg_14_91_130.2.1, rfl⟩
theorem zd_14_91_132 : zz_D zy_keepNetwork_14_91 132 (.getfield 112) 3 135 := ⟨zq_180 zg_14_91_130.2.2.1 zg_14_91_130.2.2.2.1 zg_14_91_130.2.2.2.2.1 rfl, rfl⟩
theorem zd_14_91_135 : zz_D zy_keepNetwork_14_91 135 (.bipush 10) 2 137 := ⟨zq_16 zg_14_91_130.2.2.2.2.2.1 zg_14_91_130.2.2.2.2.2.2.1 (by decide), rfl⟩
theorem zd_14_91_137 : zz_D zy_keepNetwork_14_91 137 (.bipush 92) 2 139 := ⟨zq_16 zg_14_91_130.2.2.2.2.2.2.2.1 zg_14_91_130.2.2.2.2.2.2.2.2.1 (by decide), rfl⟩
theorem zd_14_91_139 : zz_D zy_keepNetwork_14_91 139 (.iload_n 1) 1 140 := ⟨zq_27 zg_14_91_130.2.2.2.2.2.2.2.2.2.1, rfl⟩
theorem zd_14_91_140 : zz_D zy_keepNetwork_14_91 140 (.invokevirtual 518) 3 143 := ⟨zq_182 zg_14_91_130.2.2.2.2.2.2.2.2.2.2.1 zg_14_91_130.2.2.2.2.2.2.2.2.2.2.2.1 zg_14_91_130.2.2.2.2.2.2.2.2.2.2.2.2 rfl, rfl⟩
-- TensorForgeModel keepRow ([IIIZ)V
abbrev zr_keepRow_14_92_1110_10_92_0 : Room := { frames := 0, cells := 0, slots := 0, locals := 0 }
def zp_keepRow_14_92_1110_10_92_0  (S0 : zz_S) : zz_S → Prop := fun S => zz_G S ∧ zz_fr [] [1119] (fun _ _ => False) S0 S ∧ (∀ u : Nat, u < 10 → S 1119 (92 + u) = S0 1110 u) ∧ (∀ i : Nat, i < 92 ∨ 102 ≤ i → S 1119 i = S0 1119 i)
theorem zb_keepRow_14_92_1110_10_92_0_3 {g : mm_G} {l : Launch}  (S0 : zz_S) (n : Nat) (hn : zz_end ≤ n) (G_S0 : zz_G S0)  (x5 : Int) (S : zz_S) (G_S : zz_G S) (F_S : zz_fr [] [1119] (fun _ _ => False) S0 S) (i3_0 : 0 ≤ x5 ∧ x5 ≤ 10) (i3_1 : ∀ u : Nat, (u : Int) < x5 → S 1119 (92 + u) = S0 1110 u) (i3_2 : ∀ i : Nat, i < 92 ∨ 102 ≤ i → S 1119 i = S0 1119 i) (R : Nat) (hR : (10 - x5).toNat = R) (k3 : ∀ (x5 : Int) (S : zz_S), zz_G S → zz_fr [] [1119] (fun _ _ => False) S0 S → (0 ≤ x5 ∧ x5 ≤ 10) → (∀ u : Nat, (u : Int) < x5 → S 1119 (92 + u) = S0 1110 u) → (∀ i : Nat, i < 92 ∨ 102 ≤ i → S 1119 i = S0 1119 i) → (10 - x5).toNat < R → zz_E g l zy_keepRow_14_92 zr_keepRow_14_92_1110_10_92_0 (zz_QV n (zp_keepRow_14_92_1110_10_92_0  S0)) S n 3 [some (.ref 1079), some (.ref 1110), some (zi 10), some (zi 92), some (zi 0), some (zi x5)] [] 0 0) : zz_E g l zy_keepRow_14_92 zr_keepRow_14_92_1110_10_92_0 (zz_QV n (zp_keepRow_14_92_1110_10_92_0  S0)) S n 3 [some (.ref 1079), some (.ref 1110), some (zi 10), some (zi 92), some (zi 0), some (zi x5)] [] 0 0 := by
  refine zz_iload (x := x5) rfl zd_14_92_3 ?_
  refine zz_iload_n (x := 10) rfl zd_14_92_5 ?_
  refine zz_icmp_ge (by omega) (by omega) zd_14_92_6 (fun c1 => ?_) (fun c1 => ?_)
  · exact zz_vret zd_14_92_49 rfl (Nat.zero_le _) (Nat.zero_le _) ⟨_, rfl, G_S, F_S, fun u hu => i3_1 u (by omega), i3_2⟩
  · refine zz_iload (x := 0) rfl zd_14_92_9 ?_
    refine zz_if_eq (by omega) zd_14_92_11 (fun c2 => ?_) (fun c2 => ?_)
    · refine zz_aload_n (x := 1079) rfl zd_14_92_30 ?_
      refine zz_getr (kd := 0) (z := 1119) zd_14_92_31 zf_Md_139 zT_1079 rfl (zz_ltn hn rfl) (zz_G.eq G_S 1079 67 1119 rfl rfl) (by decide) 1119 rfl ?_
      refine zz_iload_n (x := 92) rfl zd_14_92_34 ?_
      refine zz_iload (x := x5) rfl zd_14_92_35 ?_
      refine zz_iadd zd_14_92_37 ?_
      refine zz_aload_n (x := 1110) rfl zd_14_92_38 ?_
      refine zz_iload (x := x5) rfl zd_14_92_39 ?_
      have g3 := zz_G.r G_S0 1110 x5.toNat 0 3 rfl rfl
      refine zz_iald (z := S0 1110 x5.toNat) zd_14_92_41 zT_1110 rfl (zz_ltn hn rfl) (by decide) (by omega) (zz_rc F_S (zz_nc1 rfl) rfl (fun h => h) rfl) ?_
      refine zz_iast zd_14_92_42 zT_1119 rfl (zz_ltn hn rfl) (by decide) (by omega) (fun S4 qS4 => ?_)
      have G_S4 := zz_G.put G_S qS4 (0) (if (92 + x5).toNat < 12 then 63 else if (92 + x5).toNat < 24 then 63 else if (92 + x5).toNat < 36 then 63 else if (92 + x5).toNat < 37 then 0 else if (92 + x5).toNat < 48 then 10000000 else if (92 + x5).toNat < 59 then 2 else if (92 + x5).toNat < 70 then 10 else if (92 + x5).toNat < 81 then 10 else if (92 + x5).toNat < 92 then 3 else if (92 + x5).toNat < 103 then 3 else if (92 + x5).toNat < 114 then 3 else if (92 + x5).toNat < 125 then 1 else if (92 + x5).toNat < 136 then 31 else 4096) rfl (by omega)
      have F_S4 := zz_fr.putc F_S qS4 rfl
      refine zz_iinc [some (.ref 1079), some (.ref 1110), some (zi 10), some (zi 92), some (zi 0), some (zi (x5 + 1))] zd_14_92_43 rfl rfl ?_
      refine zz_goto zd_14_92_46 ?_
      refine zz_less (ls1 := [some (.ref 1079), some (.ref 1110), some (zi 10), some (zi 92), some (zi 0), some (zi (x5 + 1))]) ⟨rfl, ⟨rfl, ⟨rfl, ⟨rfl, ⟨rfl, ⟨rfl, trivial⟩⟩⟩⟩⟩⟩ ?_
      exact k3 (x5 + 1) S4 G_S4 F_S4 (by omega) (fun u hu => (Decidable.em ((u : Int) = x5)).elim (fun h => by rw [show 92 + u = (92 + x5).toNat by omega, zz_rs qS4, show x5.toNat = u by omega]) (fun h => by rw [zz_ro (b := 1119) (j := 92 + u) qS4 (fun h9 => by omega) rfl]; exact i3_1 u (by omega))) (fun i hi => by rw [zz_ro (b := 1119) (j := i) qS4 (fun h9 => by omega) rfl]; exact i3_2 i hi) (by omega)
    · exfalso; omega
theorem zi_keepRow_14_92_1110_10_92_0 {g : mm_G} {l : Launch}  (S0 : zz_S) (n : Nat) (hn : zz_end ≤ n) (G_S0 : zz_G S0)  : ∀ N : Nat, (∀ (x5 : Int) (S : zz_S), zz_G S → zz_fr [] [1119] (fun _ _ => False) S0 S → (0 ≤ x5 ∧ x5 ≤ 10) → (∀ u : Nat, (u : Int) < x5 → S 1119 (92 + u) = S0 1110 u) → (∀ i : Nat, i < 92 ∨ 102 ≤ i → S 1119 i = S0 1119 i) → (10 - x5).toNat < N → zz_E g l zy_keepRow_14_92 zr_keepRow_14_92_1110_10_92_0 (zz_QV n (zp_keepRow_14_92_1110_10_92_0  S0)) S n 3 [some (.ref 1079), some (.ref 1110), some (zi 10), some (zi 92), some (zi 0), some (zi x5)] [] 0 0) := by
  intro N
  induction N with
  | zero => exact fun x5 S _ _ _ _ _ h => absurd h (Nat.not_lt_zero _)
  | succ N ih =>
    exact fun x5 S a b j0 j1 j2 hR => zb_keepRow_14_92_1110_10_92_0_3  S0 n hn G_S0  x5 S a b j0 j1 j2 _ rfl (fun x5 S a b j0 j1 j2 h => ih x5 S a b j0 j1 j2 (Nat.lt_of_lt_of_le h (Nat.le_of_lt_succ hR)))
theorem zc_keepRow_14_92_1110_10_92_0 {g : mm_G} {l : Launch}  (S0 : zz_S) (n : Nat) (hn : zz_end ≤ n) (G_S0 : zz_G S0)  : mm_Met g l zy_keepRow_14_92 zr_keepRow_14_92_1110_10_92_0 [.ref 1079, .ref 1110, zi 10, zi 92, zi 0] (zz_M S0 n) n (zz_QV n (zp_keepRow_14_92_1110_10_92_0  S0)) := by
  refine zz_enter (by decide) (Nat.le_of_ble_eq_true rfl) (zz_less (ls1 := [some (.ref 1079), some (.ref 1110), some (zi 10), some (zi 92), some (zi 0)]) ⟨rfl, ⟨rfl, ⟨rfl, ⟨rfl, ⟨rfl, trivial⟩⟩⟩⟩⟩ ?_)
  have F_S0 : zz_fr [] [1119] (fun _ _ => False) S0 S0 := zz_fr.refl
  have k3 : ∀ (x5 : Int) (S : zz_S), zz_G S → zz_fr [] [1119] (fun _ _ => False) S0 S → (0 ≤ x5 ∧ x5 ≤ 10) → (∀ u : Nat, (u : Int) < x5 → S 1119 (92 + u) = S0 1110 u) → (∀ i : Nat, i < 92 ∨ 102 ≤ i → S 1119 i = S0 1119 i) → zz_E g l zy_keepRow_14_92 zr_keepRow_14_92_1110_10_92_0 (zz_QV n (zp_keepRow_14_92_1110_10_92_0  S0)) S n 3 [some (.ref 1079), some (.ref 1110), some (zi 10), some (zi 92), some (zi 0), some (zi x5)] [] 0 0 := fun x5 S a b j0 j1 j2 => (zi_keepRow_14_92_1110_10_92_0 (g := g) (l := l)  S0 n hn G_S0  _) x5 S a b j0 j1 j2 (Nat.lt_succ_self _)
  refine zz_iconst zd_14_92_0 ?_
  refine zz_istore [some (.ref 1079), some (.ref 1110), some (zi 10), some (zi 92), some (zi 0), some (zi 0)] zd_14_92_1 (by decide) rfl ?_
  refine zz_less (ls1 := [some (.ref 1079), some (.ref 1110), some (zi 10), some (zi 92), some (zi 0), some (zi 0)]) ⟨rfl, ⟨rfl, ⟨rfl, ⟨rfl, ⟨rfl, ⟨rfl, trivial⟩⟩⟩⟩⟩⟩ ?_
  exact k3 0 S0 G_S0 F_S0 (by omega) (fun u h => absurd h (by omega)) (fun _ _ => rfl)
theorem zg_14_91_143 : zq_at zy_keepNetwork_14_91.2.1 143 42 ∧ zq_at zy_keepNetwork_14_91.2.1 144 42 ∧ zq_at zy_keepNetwork_14_91.2.1 145 180 ∧ zq_at zy_keepNetwork_14_91.2.1 146 0 ∧ zq_at zy_keepNetwork_14_91.2.1 147 115 ∧ zq_at zy_keepNetwork_14_91.2.1 148 16 ∧ zq_at zy_keepNetwork_14_91.2.1 149 10 ∧ zq_at zy_keepNetwork_14_91.2.1 150 16 ∧ zq_at zy_keepNetwork_14_91.2.1 151 103 ∧ zq_at zy_keepNetwork_14_91.2.1 152 27 ∧ zq_at zy_keepNetwork_14_91.2.1 153 182 ∧ zq_at zy_keepNetwork_14_91.2.1 154 2 ∧ zq_at zy_keepNetwork_14_91.2.1 155 6 := by decide +kernel
theorem zd_14_91_143 : zz_D zy_keepNetwork_14_91 143 (.aload_n 0) 1 144 := ⟨zq_42 zg_14_91_143.1, rfl⟩
theorem zd_14_91_144 : zz_D zy_keepNetwork_14_91 144 (.aload_n 0) 1 145 := ⟨zq_42 zg_14_91_143.2.1, rfl⟩
theorem zd_14_91_145 : zz_D zy_keepNetwork_14_91 145 (.getfield 115) 3 148 := ⟨zq_180 zg_14_91_143.2.2.1 zg_14_91_143.2.2.2.1 zg_14_91_143.2.2.2.2.1 rfl, rfl⟩
theorem zd_14_91_148 : zz_D zy_keepNetwork_14_91 148 (.bipush 10) 2 150 := ⟨zq_16 zg_14_91_143.2.2.2.2.2.1 zg_14_91_143.2.2.2.2.2.2.1 (by decide), rfl⟩
theorem zd_14_91_150 : zz_D zy_keepNetwork_14_91 150 (.bipush 103) 2 152 := ⟨zq_16 zg_14_91_143.2.2.2.2.2.2.2.1 zg_14_91_143.2.2.2.2.2.2.2.2.1 (by decide), rfl⟩
theorem zd_14_91_152 : zz_D zy_keepNetwork_14_91 152 (.iload_n 1) 1 153 := ⟨zq_27 zg_14_91_143.2.2.2.2.2.2.2.2.2.1, rfl⟩
theorem zd_14_91_153 : zz_D zy_keepNetwork_14_91 153 (.invokevirtual 518) 3 156 := ⟨zq_182 zg_14_91_143.2.2.2.2.2.2.2.2.2.2.1 zg_14_91_143.2.2.2.2.2.2.2.2.2.2.2.1 zg_14_91_143.2.2.2.2.2.2.2.2.2.2.2.2 rfl, rfl⟩
-- TensorForgeModel keepRow ([IIIZ)V
abbrev zr_keepRow_14_92_1111_10_103_0 : Room := { frames := 0, cells := 0, slots := 0, locals := 0 }
def zp_keepRow_14_92_1111_10_103_0  (S0 : zz_S) : zz_S → Prop := fun S => zz_G S ∧ zz_fr [] [1119] (fun _ _ => False) S0 S ∧ (∀ u : Nat, u < 10 → S 1119 (103 + u) = S0 1111 u) ∧ (∀ i : Nat, i < 103 ∨ 113 ≤ i → S 1119 i = S0 1119 i)
theorem zb_keepRow_14_92_1111_10_103_0_3 {g : mm_G} {l : Launch}  (S0 : zz_S) (n : Nat) (hn : zz_end ≤ n) (G_S0 : zz_G S0)  (x5 : Int) (S : zz_S) (G_S : zz_G S) (F_S : zz_fr [] [1119] (fun _ _ => False) S0 S) (i3_0 : 0 ≤ x5 ∧ x5 ≤ 10) (i3_1 : ∀ u : Nat, (u : Int) < x5 → S 1119 (103 + u) = S0 1111 u) (i3_2 : ∀ i : Nat, i < 103 ∨ 113 ≤ i → S 1119 i = S0 1119 i) (R : Nat) (hR : (10 - x5).toNat = R) (k3 : ∀ (x5 : Int) (S : zz_S), zz_G S → zz_fr [] [1119] (fun _ _ => False) S0 S → (0 ≤ x5 ∧ x5 ≤ 10) → (∀ u : Nat, (u : Int) < x5 → S 1119 (103 + u) = S0 1111 u) → (∀ i : Nat, i < 103 ∨ 113 ≤ i → S 1119 i = S0 1119 i) → (10 - x5).toNat < R → zz_E g l zy_keepRow_14_92 zr_keepRow_14_92_1111_10_103_0 (zz_QV n (zp_keepRow_14_92_1111_10_103_0  S0)) S n 3 [some (.ref 1079), some (.ref 1111), some (zi 10), some (zi 103), some (zi 0), some (zi x5)] [] 0 0) : zz_E g l zy_keepRow_14_92 zr_keepRow_14_92_1111_10_103_0 (zz_QV n (zp_keepRow_14_92_1111_10_103_0  S0)) S n 3 [some (.ref 1079), some (.ref 1111), some (zi 10), some (zi 103), some (zi 0), some (zi x5)] [] 0 0 := by
  refine zz_iload (x := x5) rfl zd_14_92_3 ?_
  refine zz_iload_n (x := 10) rfl zd_14_92_5 ?_
  refine zz_icmp_ge (by omega) (by omega) zd_14_92_6 (fun c1 => ?_) (fun c1 => ?_)
  · exact zz_vret zd_14_92_49 rfl (Nat.zero_le _) (Nat.zero_le _) ⟨_, rfl, G_S, F_S, fun u hu => i3_1 u (by omega), i3_2⟩
  · refine zz_iload (x := 0) rfl zd_14_92_9 ?_
    refine zz_if_eq (by omega) zd_14_92_11 (fun c2 => ?_) (fun c2 => ?_)
    · refine zz_aload_n (x := 1079) rfl zd_14_92_30 ?_
      refine zz_getr (kd := 0) (z := 1119) zd_14_92_31 zf_Md_139 zT_1079 rfl (zz_ltn hn rfl) (zz_G.eq G_S 1079 67 1119 rfl rfl) (by decide) 1119 rfl ?_
      refine zz_iload_n (x := 103) rfl zd_14_92_34 ?_
      refine zz_iload (x := x5) rfl zd_14_92_35 ?_
      refine zz_iadd zd_14_92_37 ?_
      refine zz_aload_n (x := 1111) rfl zd_14_92_38 ?_
      refine zz_iload (x := x5) rfl zd_14_92_39 ?_
      have g3 := zz_G.r G_S0 1111 x5.toNat 0 3 rfl rfl
      refine zz_iald (z := S0 1111 x5.toNat) zd_14_92_41 zT_1111 rfl (zz_ltn hn rfl) (by decide) (by omega) (zz_rc F_S (zz_nc1 rfl) rfl (fun h => h) rfl) ?_
      refine zz_iast zd_14_92_42 zT_1119 rfl (zz_ltn hn rfl) (by decide) (by omega) (fun S4 qS4 => ?_)
      have G_S4 := zz_G.put G_S qS4 (0) (if (103 + x5).toNat < 12 then 63 else if (103 + x5).toNat < 24 then 63 else if (103 + x5).toNat < 36 then 63 else if (103 + x5).toNat < 37 then 0 else if (103 + x5).toNat < 48 then 10000000 else if (103 + x5).toNat < 59 then 2 else if (103 + x5).toNat < 70 then 10 else if (103 + x5).toNat < 81 then 10 else if (103 + x5).toNat < 92 then 3 else if (103 + x5).toNat < 103 then 3 else if (103 + x5).toNat < 114 then 3 else if (103 + x5).toNat < 125 then 1 else if (103 + x5).toNat < 136 then 31 else 4096) rfl (by omega)
      have F_S4 := zz_fr.putc F_S qS4 rfl
      refine zz_iinc [some (.ref 1079), some (.ref 1111), some (zi 10), some (zi 103), some (zi 0), some (zi (x5 + 1))] zd_14_92_43 rfl rfl ?_
      refine zz_goto zd_14_92_46 ?_
      refine zz_less (ls1 := [some (.ref 1079), some (.ref 1111), some (zi 10), some (zi 103), some (zi 0), some (zi (x5 + 1))]) ⟨rfl, ⟨rfl, ⟨rfl, ⟨rfl, ⟨rfl, ⟨rfl, trivial⟩⟩⟩⟩⟩⟩ ?_
      exact k3 (x5 + 1) S4 G_S4 F_S4 (by omega) (fun u hu => (Decidable.em ((u : Int) = x5)).elim (fun h => by rw [show 103 + u = (103 + x5).toNat by omega, zz_rs qS4, show x5.toNat = u by omega]) (fun h => by rw [zz_ro (b := 1119) (j := 103 + u) qS4 (fun h9 => by omega) rfl]; exact i3_1 u (by omega))) (fun i hi => by rw [zz_ro (b := 1119) (j := i) qS4 (fun h9 => by omega) rfl]; exact i3_2 i hi) (by omega)
    · exfalso; omega
theorem zi_keepRow_14_92_1111_10_103_0 {g : mm_G} {l : Launch}  (S0 : zz_S) (n : Nat) (hn : zz_end ≤ n) (G_S0 : zz_G S0)  : ∀ N : Nat, (∀ (x5 : Int) (S : zz_S), zz_G S → zz_fr [] [1119] (fun _ _ => False) S0 S → (0 ≤ x5 ∧ x5 ≤ 10) → (∀ u : Nat, (u : Int) < x5 → S 1119 (103 + u) = S0 1111 u) → (∀ i : Nat, i < 103 ∨ 113 ≤ i → S 1119 i = S0 1119 i) → (10 - x5).toNat < N → zz_E g l zy_keepRow_14_92 zr_keepRow_14_92_1111_10_103_0 (zz_QV n (zp_keepRow_14_92_1111_10_103_0  S0)) S n 3 [some (.ref 1079), some (.ref 1111), some (zi 10), some (zi 103), some (zi 0), some (zi x5)] [] 0 0) := by
  intro N
  induction N with
  | zero => exact fun x5 S _ _ _ _ _ h => absurd h (Nat.not_lt_zero _)
  | succ N ih =>
    exact fun x5 S a b j0 j1 j2 hR => zb_keepRow_14_92_1111_10_103_0_3  S0 n hn G_S0  x5 S a b j0 j1 j2 _ rfl (fun x5 S a b j0 j1 j2 h => ih x5 S a b j0 j1 j2 (Nat.lt_of_lt_of_le h (Nat.le_of_lt_succ hR)))
theorem zc_keepRow_14_92_1111_10_103_0 {g : mm_G} {l : Launch}  (S0 : zz_S) (n : Nat) (hn : zz_end ≤ n) (G_S0 : zz_G S0)  : mm_Met g l zy_keepRow_14_92 zr_keepRow_14_92_1111_10_103_0 [.ref 1079, .ref 1111, zi 10, zi 103, zi 0] (zz_M S0 n) n (zz_QV n (zp_keepRow_14_92_1111_10_103_0  S0)) := by
  refine zz_enter (by decide) (Nat.le_of_ble_eq_true rfl) (zz_less (ls1 := [some (.ref 1079), some (.ref 1111), some (zi 10), some (zi 103), some (zi 0)]) ⟨rfl, ⟨rfl, ⟨rfl, ⟨rfl, ⟨rfl, trivial⟩⟩⟩⟩⟩ ?_)
  have F_S0 : zz_fr [] [1119] (fun _ _ => False) S0 S0 := zz_fr.refl
  have k3 : ∀ (x5 : Int) (S : zz_S), zz_G S → zz_fr [] [1119] (fun _ _ => False) S0 S → (0 ≤ x5 ∧ x5 ≤ 10) → (∀ u : Nat, (u : Int) < x5 → S 1119 (103 + u) = S0 1111 u) → (∀ i : Nat, i < 103 ∨ 113 ≤ i → S 1119 i = S0 1119 i) → zz_E g l zy_keepRow_14_92 zr_keepRow_14_92_1111_10_103_0 (zz_QV n (zp_keepRow_14_92_1111_10_103_0  S0)) S n 3 [some (.ref 1079), some (.ref 1111), some (zi 10), some (zi 103), some (zi 0), some (zi x5)] [] 0 0 := fun x5 S a b j0 j1 j2 => (zi_keepRow_14_92_1111_10_103_0 (g := g) (l := l)  S0 n hn G_S0  _) x5 S a b j0 j1 j2 (Nat.lt_succ_self _)
  refine zz_iconst zd_14_92_0 ?_
  refine zz_istore [some (.ref 1079), some (.ref 1111), some (zi 10), some (zi 103), some (zi 0), some (zi 0)] zd_14_92_1 (by decide) rfl ?_
  refine zz_less (ls1 := [some (.ref 1079), some (.ref 1111), some (zi 10), some (zi 103), some (zi 0), some (zi 0)]) ⟨rfl, ⟨rfl, ⟨rfl, ⟨rfl, ⟨rfl, ⟨rfl, trivial⟩⟩⟩⟩⟩⟩ ?_
  exact k3 0 S0 G_S0 F_S0 (by omega) (fun u h => absurd h (by omega)) (fun _ _ => rfl)
theorem zg_14_91_156 : zq_at zy_keepNetwork_14_91.2.1 156 42 ∧ zq_at zy_keepNetwork_14_91.2.1 157 42 ∧ zq_at zy_keepNetwork_14_91.2.1 158 180 ∧ zq_at zy_keepNetwork_14_91.2.1 159 0 ∧ zq_at zy_keepNetwork_14_91.2.1 160 118 ∧ zq_at zy_keepNetwork_14_91.2.1 161 16 ∧ zq_at zy_keepNetwork_14_91.2.1 162 10 ∧ zq_at zy_keepNetwork_14_91.2.1 163 16 ∧ zq_at zy_keepNetwork_14_91.2.1 164 114 ∧ zq_at zy_keepNetwork_14_91.2.1 165 27 ∧ zq_at zy_keepNetwork_14_91.2.1 166 182 ∧ zq_at zy_keepNetwork_14_91.2.1 167 2 ∧ zq_at zy_keepNetwork_14_91.2.1 168 6 := by decide +kernel
theorem zd_14_91_156 : zz_D zy_keepNetwork_14_91 156 (.aload_n 0) 1 157 := ⟨zq_42 zg_14_91_156.1, rfl⟩
theorem zd_14_91_157 : zz_D zy_keepNetwork_14_91 157 (.aload_n 0) 1 158 := ⟨zq_42 zg_14_91_156.2.1, rfl⟩
theorem zd_14_91_158 : zz_D zy_keepNetwork_14_91 158 (.getfield 118) 3 161 := ⟨zq_180 zg_14_91_156.2.2.1 zg_14_91_156.2.2.2.1 zg_14_91_156.2.2.2.2.1 rfl, rfl⟩
theorem zd_14_91_161 : zz_D zy_keepNetwork_14_91 161 (.bipush 10) 2 163 := ⟨zq_16 zg_14_91_156.2.2.2.2.2.1 zg_14_91_156.2.2.2.2.2.2.1 (by decide), rfl⟩
theorem zd_14_91_163 : zz_D zy_keepNetwork_14_91 163 (.bipush 114) 2 165 := ⟨zq_16 zg_14_91_156.2.2.2.2.2.2.2.1 zg_14_91_156.2.2.2.2.2.2.2.2.1 (by decide), rfl⟩
theorem zd_14_91_165 : zz_D zy_keepNetwork_14_91 165 (.iload_n 1) 1 166 := ⟨zq_27 zg_14_91_156.2.2.2.2.2.2.2.2.2.1, rfl⟩
theorem zd_14_91_166 : zz_D zy_keepNetwork_14_91 166 (.invokevirtual 518) 3 169 := ⟨zq_182 zg_14_91_156.2.2.2.2.2.2.2.2.2.2.1 zg_14_91_156.2.2.2.2.2.2.2.2.2.2.2.1 zg_14_91_156.2.2.2.2.2.2.2.2.2.2.2.2 rfl, rfl⟩
-- TensorForgeModel keepRow ([IIIZ)V
abbrev zr_keepRow_14_92_1112_10_114_0 : Room := { frames := 0, cells := 0, slots := 0, locals := 0 }
def zp_keepRow_14_92_1112_10_114_0  (S0 : zz_S) : zz_S → Prop := fun S => zz_G S ∧ zz_fr [] [1119] (fun _ _ => False) S0 S ∧ (∀ u : Nat, u < 10 → S 1119 (114 + u) = S0 1112 u) ∧ (∀ i : Nat, i < 114 ∨ 124 ≤ i → S 1119 i = S0 1119 i)
theorem zb_keepRow_14_92_1112_10_114_0_3 {g : mm_G} {l : Launch}  (S0 : zz_S) (n : Nat) (hn : zz_end ≤ n) (G_S0 : zz_G S0)  (x5 : Int) (S : zz_S) (G_S : zz_G S) (F_S : zz_fr [] [1119] (fun _ _ => False) S0 S) (i3_0 : 0 ≤ x5 ∧ x5 ≤ 10) (i3_1 : ∀ u : Nat, (u : Int) < x5 → S 1119 (114 + u) = S0 1112 u) (i3_2 : ∀ i : Nat, i < 114 ∨ 124 ≤ i → S 1119 i = S0 1119 i) (R : Nat) (hR : (10 - x5).toNat = R) (k3 : ∀ (x5 : Int) (S : zz_S), zz_G S → zz_fr [] [1119] (fun _ _ => False) S0 S → (0 ≤ x5 ∧ x5 ≤ 10) → (∀ u : Nat, (u : Int) < x5 → S 1119 (114 + u) = S0 1112 u) → (∀ i : Nat, i < 114 ∨ 124 ≤ i → S 1119 i = S0 1119 i) → (10 - x5).toNat < R → zz_E g l zy_keepRow_14_92 zr_keepRow_14_92_1112_10_114_0 (zz_QV n (zp_keepRow_14_92_1112_10_114_0  S0)) S n 3 [some (.ref 1079), some (.ref 1112), some (zi 10), some (zi 114), some (zi 0), some (zi x5)] [] 0 0) : zz_E g l zy_keepRow_14_92 zr_keepRow_14_92_1112_10_114_0 (zz_QV n (zp_keepRow_14_92_1112_10_114_0  S0)) S n 3 [some (.ref 1079), some (.ref 1112), some (zi 10), some (zi 114), some (zi 0), some (zi x5)] [] 0 0 := by
  refine zz_iload (x := x5) rfl zd_14_92_3 ?_
  refine zz_iload_n (x := 10) rfl zd_14_92_5 ?_
  refine zz_icmp_ge (by omega) (by omega) zd_14_92_6 (fun c1 => ?_) (fun c1 => ?_)
  · exact zz_vret zd_14_92_49 rfl (Nat.zero_le _) (Nat.zero_le _) ⟨_, rfl, G_S, F_S, fun u hu => i3_1 u (by omega), i3_2⟩
  · refine zz_iload (x := 0) rfl zd_14_92_9 ?_
    refine zz_if_eq (by omega) zd_14_92_11 (fun c2 => ?_) (fun c2 => ?_)
    · refine zz_aload_n (x := 1079) rfl zd_14_92_30 ?_
      refine zz_getr (kd := 0) (z := 1119) zd_14_92_31 zf_Md_139 zT_1079 rfl (zz_ltn hn rfl) (zz_G.eq G_S 1079 67 1119 rfl rfl) (by decide) 1119 rfl ?_
      refine zz_iload_n (x := 114) rfl zd_14_92_34 ?_
      refine zz_iload (x := x5) rfl zd_14_92_35 ?_
      refine zz_iadd zd_14_92_37 ?_
      refine zz_aload_n (x := 1112) rfl zd_14_92_38 ?_
      refine zz_iload (x := x5) rfl zd_14_92_39 ?_
      have g3 := zz_G.r G_S0 1112 x5.toNat 0 1 rfl rfl
      refine zz_iald (z := S0 1112 x5.toNat) zd_14_92_41 zT_1112 rfl (zz_ltn hn rfl) (by decide) (by omega) (zz_rc F_S (zz_nc1 rfl) rfl (fun h => h) rfl) ?_
      refine zz_iast zd_14_92_42 zT_1119 rfl (zz_ltn hn rfl) (by decide) (by omega) (fun S4 qS4 => ?_)
      have G_S4 := zz_G.put G_S qS4 (0) (if (114 + x5).toNat < 12 then 63 else if (114 + x5).toNat < 24 then 63 else if (114 + x5).toNat < 36 then 63 else if (114 + x5).toNat < 37 then 0 else if (114 + x5).toNat < 48 then 10000000 else if (114 + x5).toNat < 59 then 2 else if (114 + x5).toNat < 70 then 10 else if (114 + x5).toNat < 81 then 10 else if (114 + x5).toNat < 92 then 3 else if (114 + x5).toNat < 103 then 3 else if (114 + x5).toNat < 114 then 3 else if (114 + x5).toNat < 125 then 1 else if (114 + x5).toNat < 136 then 31 else 4096) rfl (by omega)
      have F_S4 := zz_fr.putc F_S qS4 rfl
      refine zz_iinc [some (.ref 1079), some (.ref 1112), some (zi 10), some (zi 114), some (zi 0), some (zi (x5 + 1))] zd_14_92_43 rfl rfl ?_
      refine zz_goto zd_14_92_46 ?_
      refine zz_less (ls1 := [some (.ref 1079), some (.ref 1112), some (zi 10), some (zi 114), some (zi 0), some (zi (x5 + 1))]) ⟨rfl, ⟨rfl, ⟨rfl, ⟨rfl, ⟨rfl, ⟨rfl, trivial⟩⟩⟩⟩⟩⟩ ?_
      exact k3 (x5 + 1) S4 G_S4 F_S4 (by omega) (fun u hu => (Decidable.em ((u : Int) = x5)).elim (fun h => by rw [show 114 + u = (114 + x5).toNat by omega, zz_rs qS4, show x5.toNat = u by omega]) (fun h => by rw [zz_ro (b := 1119) (j := 114 + u) qS4 (fun h9 => by omega) rfl]; exact i3_1 u (by omega))) (fun i hi => by rw [zz_ro (b := 1119) (j := i) qS4 (fun h9 => by omega) rfl]; exact i3_2 i hi) (by omega)
    · exfalso; omega
theorem zi_keepRow_14_92_1112_10_114_0 {g : mm_G} {l : Launch}  (S0 : zz_S) (n : Nat) (hn : zz_end ≤ n) (G_S0 : zz_G S0)  : ∀ N : Nat, (∀ (x5 : Int) (S : zz_S), zz_G S → zz_fr [] [1119] (fun _ _ => False) S0 S → (0 ≤ x5 ∧ x5 ≤ 10) → (∀ u : Nat, (u : Int) < x5 → S 1119 (114 + u) = S0 1112 u) → (∀ i : Nat, i < 114 ∨ 124 ≤ i → S 1119 i = S0 1119 i) → (10 - x5).toNat < N → zz_E g l zy_keepRow_14_92 zr_keepRow_14_92_1112_10_114_0 (zz_QV n (zp_keepRow_14_92_1112_10_114_0  S0)) S n 3 [some (.ref 1079), some (.ref 1112), some (zi 10), some (zi 114), some (zi 0), some (zi x5)] [] 0 0) := by
  intro N
  induction N with
  | zero => exact fun x5 S _ _ _ _ _ h => absurd h (Nat.not_lt_zero _)
  | succ N ih =>
    exact fun x5 S a b j0 j1 j2 hR => zb_keepRow_14_92_1112_10_114_0_3  S0 n hn G_S0  x5 S a b j0 j1 j2 _ rfl (fun x5 S a b j0 j1 j2 h => ih x5 S a b j0 j1 j2 (Nat.lt_of_lt_of_le h (Nat.le_of_lt_succ hR)))
theorem zc_keepRow_14_92_1112_10_114_0 {g : mm_G} {l : Launch}  (S0 : zz_S) (n : Nat) (hn : zz_end ≤ n) (G_S0 : zz_G S0)  : mm_Met g l zy_keepRow_14_92 zr_keepRow_14_92_1112_10_114_0 [.ref 1079, .ref 1112, zi 10, zi 114, zi 0] (zz_M S0 n) n (zz_QV n (zp_keepRow_14_92_1112_10_114_0  S0)) := by
  refine zz_enter (by decide) (Nat.le_of_ble_eq_true rfl) (zz_less (ls1 := [some (.ref 1079), some (.ref 1112), some (zi 10), some (zi 114), some (zi 0)]) ⟨rfl, ⟨rfl, ⟨rfl, ⟨rfl, ⟨rfl, trivial⟩⟩⟩⟩⟩ ?_)
  have F_S0 : zz_fr [] [1119] (fun _ _ => False) S0 S0 := zz_fr.refl
  have k3 : ∀ (x5 : Int) (S : zz_S), zz_G S → zz_fr [] [1119] (fun _ _ => False) S0 S → (0 ≤ x5 ∧ x5 ≤ 10) → (∀ u : Nat, (u : Int) < x5 → S 1119 (114 + u) = S0 1112 u) → (∀ i : Nat, i < 114 ∨ 124 ≤ i → S 1119 i = S0 1119 i) → zz_E g l zy_keepRow_14_92 zr_keepRow_14_92_1112_10_114_0 (zz_QV n (zp_keepRow_14_92_1112_10_114_0  S0)) S n 3 [some (.ref 1079), some (.ref 1112), some (zi 10), some (zi 114), some (zi 0), some (zi x5)] [] 0 0 := fun x5 S a b j0 j1 j2 => (zi_keepRow_14_92_1112_10_114_0 (g := g) (l := l)  S0 n hn G_S0  _) x5 S a b j0 j1 j2 (Nat.lt_succ_self _)
  refine zz_iconst zd_14_92_0 ?_
  refine zz_istore [some (.ref 1079), some (.ref 1112), some (zi 10), some (zi 114), some (zi 0), some (zi 0)] zd_14_92_1 (by decide) rfl ?_
  refine zz_less (ls1 := [some (.ref 1079), some (.ref 1112), some (zi 10), some (zi 114), some (zi 0), some (zi 0)]) ⟨rfl, ⟨rfl, ⟨rfl, ⟨rfl, ⟨rfl, ⟨rfl, trivial⟩⟩⟩⟩⟩⟩ ?_
  exact k3 0 S0 G_S0 F_S0 (by omega) (fun u h => absurd h (by omega)) (fun _ _ => rfl)
theorem zg_14_91_169 : zq_at zy_keepNetwork_14_91.2.1 169 42 ∧ zq_at zy_keepNetwork_14_91.2.1 170 42 ∧ zq_at zy_keepNetwork_14_91.2.1 171 180 ∧ zq_at zy_keepNetwork_14_91.2.1 172 0 ∧ zq_at zy_keepNetwork_14_91.2.1 173 121 ∧ zq_at zy_keepNetwork_14_91.2.1 174 16 ∧ zq_at zy_keepNetwork_14_91.2.1 175 10 ∧ zq_at zy_keepNetwork_14_91.2.1 176 16 ∧ zq_at zy_keepNetwork_14_91.2.1 177 125 ∧ zq_at zy_keepNetwork_14_91.2.1 178 27 ∧ zq_at zy_keepNetwork_14_91.2.1 179 182 ∧ zq_at zy_keepNetwork_14_91.2.1 180 2 ∧ zq_at zy_keepNetwork_14_91.2.1 181 6 := by decide +kernel
theorem zd_14_91_169 : zz_D zy_keepNetwork_14_91 169 (.aload_n 0) 1 170 := ⟨zq_42 zg_14_91_169.1, rfl⟩
theorem zd_14_91_170 : zz_D zy_keepNetwork_14_91 170 (.aload_n 0) 1 171 := ⟨zq_42 zg_14_91_169.2.1, rfl⟩
theorem zd_14_91_171 : zz_D zy_keepNetwork_14_91 171 (.getfield 121) 3 174 := ⟨zq_180 zg_14_91_169.2.2.1 zg_14_91_169.2.2.2.1 zg_14_91_169.2.2.2.2.1 rfl, rfl⟩
theorem zd_14_91_174 : zz_D zy_keepNetwork_14_91 174 (.bipush 10) 2 176 := ⟨zq_16 zg_14_91_169.2.2.2.2.2.1 zg_14_91_169.2.2.2.2.2.2.1 (by decide), rfl⟩
theorem zd_14_91_176 : zz_D zy_keepNetwork_14_91 176 (.bipush 125) 2 178 := ⟨zq_16 zg_14_91_169.2.2.2.2.2.2.2.1 zg_14_91_169.2.2.2.2.2.2.2.2.1 (by decide), rfl⟩
theorem zd_14_91_178 : zz_D zy_keepNetwork_14_91 178 (.iload_n 1) 1 179 := ⟨zq_27 zg_14_91_169.2.2.2.2.2.2.2.2.2.1, rfl⟩
theorem zd_14_91_179 : zz_D zy_keepNetwork_14_91 179 (.invokevirtual 518) 3 182 := ⟨zq_182 zg_14_91_169.2.2.2.2.2.2.2.2.2.2.1 zg_14_91_169.2.2.2.2.2.2.2.2.2.2.2.1 zg_14_91_169.2.2.2.2.2.2.2.2.2.2.2.2 rfl, rfl⟩
-- TensorForgeModel keepRow ([IIIZ)V
abbrev zr_keepRow_14_92_1113_10_125_0 : Room := { frames := 0, cells := 0, slots := 0, locals := 0 }
def zp_keepRow_14_92_1113_10_125_0  (S0 : zz_S) : zz_S → Prop := fun S => zz_G S ∧ zz_fr [] [1119] (fun _ _ => False) S0 S ∧ (∀ u : Nat, u < 10 → S 1119 (125 + u) = S0 1113 u) ∧ (∀ i : Nat, i < 125 ∨ 135 ≤ i → S 1119 i = S0 1119 i)
theorem zb_keepRow_14_92_1113_10_125_0_3 {g : mm_G} {l : Launch}  (S0 : zz_S) (n : Nat) (hn : zz_end ≤ n) (G_S0 : zz_G S0)  (x5 : Int) (S : zz_S) (G_S : zz_G S) (F_S : zz_fr [] [1119] (fun _ _ => False) S0 S) (i3_0 : 0 ≤ x5 ∧ x5 ≤ 10) (i3_1 : ∀ u : Nat, (u : Int) < x5 → S 1119 (125 + u) = S0 1113 u) (i3_2 : ∀ i : Nat, i < 125 ∨ 135 ≤ i → S 1119 i = S0 1119 i) (R : Nat) (hR : (10 - x5).toNat = R) (k3 : ∀ (x5 : Int) (S : zz_S), zz_G S → zz_fr [] [1119] (fun _ _ => False) S0 S → (0 ≤ x5 ∧ x5 ≤ 10) → (∀ u : Nat, (u : Int) < x5 → S 1119 (125 + u) = S0 1113 u) → (∀ i : Nat, i < 125 ∨ 135 ≤ i → S 1119 i = S0 1119 i) → (10 - x5).toNat < R → zz_E g l zy_keepRow_14_92 zr_keepRow_14_92_1113_10_125_0 (zz_QV n (zp_keepRow_14_92_1113_10_125_0  S0)) S n 3 [some (.ref 1079), some (.ref 1113), some (zi 10), some (zi 125), some (zi 0), some (zi x5)] [] 0 0) : zz_E g l zy_keepRow_14_92 zr_keepRow_14_92_1113_10_125_0 (zz_QV n (zp_keepRow_14_92_1113_10_125_0  S0)) S n 3 [some (.ref 1079), some (.ref 1113), some (zi 10), some (zi 125), some (zi 0), some (zi x5)] [] 0 0 := by
  refine zz_iload (x := x5) rfl zd_14_92_3 ?_
  refine zz_iload_n (x := 10) rfl zd_14_92_5 ?_
  refine zz_icmp_ge (by omega) (by omega) zd_14_92_6 (fun c1 => ?_) (fun c1 => ?_)
  · exact zz_vret zd_14_92_49 rfl (Nat.zero_le _) (Nat.zero_le _) ⟨_, rfl, G_S, F_S, fun u hu => i3_1 u (by omega), i3_2⟩
  · refine zz_iload (x := 0) rfl zd_14_92_9 ?_
    refine zz_if_eq (by omega) zd_14_92_11 (fun c2 => ?_) (fun c2 => ?_)
    · refine zz_aload_n (x := 1079) rfl zd_14_92_30 ?_
      refine zz_getr (kd := 0) (z := 1119) zd_14_92_31 zf_Md_139 zT_1079 rfl (zz_ltn hn rfl) (zz_G.eq G_S 1079 67 1119 rfl rfl) (by decide) 1119 rfl ?_
      refine zz_iload_n (x := 125) rfl zd_14_92_34 ?_
      refine zz_iload (x := x5) rfl zd_14_92_35 ?_
      refine zz_iadd zd_14_92_37 ?_
      refine zz_aload_n (x := 1113) rfl zd_14_92_38 ?_
      refine zz_iload (x := x5) rfl zd_14_92_39 ?_
      have g3 := zz_G.r G_S0 1113 x5.toNat 0 31 rfl rfl
      refine zz_iald (z := S0 1113 x5.toNat) zd_14_92_41 zT_1113 rfl (zz_ltn hn rfl) (by decide) (by omega) (zz_rc F_S (zz_nc1 rfl) rfl (fun h => h) rfl) ?_
      refine zz_iast zd_14_92_42 zT_1119 rfl (zz_ltn hn rfl) (by decide) (by omega) (fun S4 qS4 => ?_)
      have G_S4 := zz_G.put G_S qS4 (0) (if (125 + x5).toNat < 12 then 63 else if (125 + x5).toNat < 24 then 63 else if (125 + x5).toNat < 36 then 63 else if (125 + x5).toNat < 37 then 0 else if (125 + x5).toNat < 48 then 10000000 else if (125 + x5).toNat < 59 then 2 else if (125 + x5).toNat < 70 then 10 else if (125 + x5).toNat < 81 then 10 else if (125 + x5).toNat < 92 then 3 else if (125 + x5).toNat < 103 then 3 else if (125 + x5).toNat < 114 then 3 else if (125 + x5).toNat < 125 then 1 else if (125 + x5).toNat < 136 then 31 else 4096) rfl (by omega)
      have F_S4 := zz_fr.putc F_S qS4 rfl
      refine zz_iinc [some (.ref 1079), some (.ref 1113), some (zi 10), some (zi 125), some (zi 0), some (zi (x5 + 1))] zd_14_92_43 rfl rfl ?_
      refine zz_goto zd_14_92_46 ?_
      refine zz_less (ls1 := [some (.ref 1079), some (.ref 1113), some (zi 10), some (zi 125), some (zi 0), some (zi (x5 + 1))]) ⟨rfl, ⟨rfl, ⟨rfl, ⟨rfl, ⟨rfl, ⟨rfl, trivial⟩⟩⟩⟩⟩⟩ ?_
      exact k3 (x5 + 1) S4 G_S4 F_S4 (by omega) (fun u hu => (Decidable.em ((u : Int) = x5)).elim (fun h => by rw [show 125 + u = (125 + x5).toNat by omega, zz_rs qS4, show x5.toNat = u by omega]) (fun h => by rw [zz_ro (b := 1119) (j := 125 + u) qS4 (fun h9 => by omega) rfl]; exact i3_1 u (by omega))) (fun i hi => by rw [zz_ro (b := 1119) (j := i) qS4 (fun h9 => by omega) rfl]; exact i3_2 i hi) (by omega)
    · exfalso; omega
theorem zi_keepRow_14_92_1113_10_125_0 {g : mm_G} {l : Launch}  (S0 : zz_S) (n : Nat) (hn : zz_end ≤ n) (G_S0 : zz_G S0)  : ∀ N : Nat, (∀ (x5 : Int) (S : zz_S), zz_G S → zz_fr [] [1119] (fun _ _ => False) S0 S → (0 ≤ x5 ∧ x5 ≤ 10) → (∀ u : Nat, (u : Int) < x5 → S 1119 (125 + u) = S0 1113 u) → (∀ i : Nat, i < 125 ∨ 135 ≤ i → S 1119 i = S0 1119 i) → (10 - x5).toNat < N → zz_E g l zy_keepRow_14_92 zr_keepRow_14_92_1113_10_125_0 (zz_QV n (zp_keepRow_14_92_1113_10_125_0  S0)) S n 3 [some (.ref 1079), some (.ref 1113), some (zi 10), some (zi 125), some (zi 0), some (zi x5)] [] 0 0) := by
  intro N
  induction N with
  | zero => exact fun x5 S _ _ _ _ _ h => absurd h (Nat.not_lt_zero _)
  | succ N ih =>
    exact fun x5 S a b j0 j1 j2 hR => zb_keepRow_14_92_1113_10_125_0_3  S0 n hn G_S0  x5 S a b j0 j1 j2 _ rfl (fun x5 S a b j0 j1 j2 h => ih x5 S a b j0 j1 j2 (Nat.lt_of_lt_of_le h (Nat.le_of_lt_succ hR)))
theorem zc_keepRow_14_92_1113_10_125_0 {g : mm_G} {l : Launch}  (S0 : zz_S) (n : Nat) (hn : zz_end ≤ n) (G_S0 : zz_G S0)  : mm_Met g l zy_keepRow_14_92 zr_keepRow_14_92_1113_10_125_0 [.ref 1079, .ref 1113, zi 10, zi 125, zi 0] (zz_M S0 n) n (zz_QV n (zp_keepRow_14_92_1113_10_125_0  S0)) := by
  refine zz_enter (by decide) (Nat.le_of_ble_eq_true rfl) (zz_less (ls1 := [some (.ref 1079), some (.ref 1113), some (zi 10), some (zi 125), some (zi 0)]) ⟨rfl, ⟨rfl, ⟨rfl, ⟨rfl, ⟨rfl, trivial⟩⟩⟩⟩⟩ ?_)
  have F_S0 : zz_fr [] [1119] (fun _ _ => False) S0 S0 := zz_fr.refl
  have k3 : ∀ (x5 : Int) (S : zz_S), zz_G S → zz_fr [] [1119] (fun _ _ => False) S0 S → (0 ≤ x5 ∧ x5 ≤ 10) → (∀ u : Nat, (u : Int) < x5 → S 1119 (125 + u) = S0 1113 u) → (∀ i : Nat, i < 125 ∨ 135 ≤ i → S 1119 i = S0 1119 i) → zz_E g l zy_keepRow_14_92 zr_keepRow_14_92_1113_10_125_0 (zz_QV n (zp_keepRow_14_92_1113_10_125_0  S0)) S n 3 [some (.ref 1079), some (.ref 1113), some (zi 10), some (zi 125), some (zi 0), some (zi x5)] [] 0 0 := fun x5 S a b j0 j1 j2 => (zi_keepRow_14_92_1113_10_125_0 (g := g) (l := l)  S0 n hn G_S0  _) x5 S a b j0 j1 j2 (Nat.lt_succ_self _)
  refine zz_iconst zd_14_92_0 ?_
  refine zz_istore [some (.ref 1079), some (.ref 1113), some (zi 10), some (zi 125), some (zi 0), some (zi 0)] zd_14_92_1 (by decide) rfl ?_
  refine zz_less (ls1 := [some (.ref 1079), some (.ref 1113), some (zi 10), some (zi 125), some (zi 0), some (zi 0)]) ⟨rfl, ⟨rfl, ⟨rfl, ⟨rfl, ⟨rfl, ⟨rfl, trivial⟩⟩⟩⟩⟩⟩ ?_
  exact k3 0 S0 G_S0 F_S0 (by omega) (fun u h => absurd h (by omega)) (fun _ _ => rfl)
theorem zg_14_91_182 : zq_at zy_keepNetwork_14_91.2.1 182 42 ∧ zq_at zy_keepNetwork_14_91.2.1 183 42 ∧ zq_at zy_keepNetwork_14_91.2.1 184 180 ∧ zq_at zy_keepNetwork_14_91.2.1 185 0 ∧ zq_at zy_keepNetwork_14_91.2.1 186 124 ∧ zq_at zy_keepNetwork_14_91.2.1 187 16 ∧ zq_at zy_keepNetwork_14_91.2.1 188 10 ∧ zq_at zy_keepNetwork_14_91.2.1 189 17 ∧ zq_at zy_keepNetwork_14_91.2.1 190 0 ∧ zq_at zy_keepNetwork_14_91.2.1 191 136 ∧ zq_at zy_keepNetwork_14_91.2.1 192 27 ∧ zq_at zy_keepNetwork_14_91.2.1 193 182 ∧ zq_at zy_keepNetwork_14_91.2.1 194 2 ∧ zq_at zy_keepNetwork_14_91.2.1 195 6 := by decide +kernel
theorem zd_14_91_182 : zz_D zy_keepNetwork_14_91 182 (.aload_n 0) 1 183 := ⟨zq_42 zg_14_91_182.1, rfl⟩
theorem zd_14_91_183 : zz_D zy_keepNetwork_14_91 183 (.aload_n 0) 1 184 := ⟨zq_42 zg_14_91_182.2.1, rfl⟩
theorem zd_14_91_184 : zz_D zy_keepNetwork_14_91 184 (.getfield 124) 3 187 := ⟨zq_180 zg_14_91_182.2.2.1 zg_14_91_182.2.2.2.1 zg_14_91_182.2.2.2.2.1 rfl, rfl⟩
theorem zd_14_91_187 : zz_D zy_keepNetwork_14_91 187 (.bipush 10) 2 189 := ⟨zq_16 zg_14_91_182.2.2.2.2.2.1 zg_14_91_182.2.2.2.2.2.2.1 (by decide), rfl⟩
theorem zd_14_91_189 : zz_D zy_keepNetwork_14_91 189 (.sipush 136) 3 192 := ⟨zq_17 zg_14_91_182.2.2.2.2.2.2.2.1 zg_14_91_182.2.2.2.2.2.2.2.2.1 zg_14_91_182.2.2.2.2.2.2.2.2.2.1 (by decide), rfl⟩
theorem zd_14_91_192 : zz_D zy_keepNetwork_14_91 192 (.iload_n 1) 1 193 := ⟨zq_27 zg_14_91_182.2.2.2.2.2.2.2.2.2.2.1, rfl⟩
theorem zd_14_91_193 : zz_D zy_keepNetwork_14_91 193 (.invokevirtual 518) 3 196 := ⟨zq_182 zg_14_91_182.2.2.2.2.2.2.2.2.2.2.2.1 zg_14_91_182.2.2.2.2.2.2.2.2.2.2.2.2.1 zg_14_91_182.2.2.2.2.2.2.2.2.2.2.2.2.2 rfl, rfl⟩
-- TensorForgeModel keepRow ([IIIZ)V
abbrev zr_keepRow_14_92_1114_10_136_0 : Room := { frames := 0, cells := 0, slots := 0, locals := 0 }
def zp_keepRow_14_92_1114_10_136_0  (S0 : zz_S) : zz_S → Prop := fun S => zz_G S ∧ zz_fr [] [1119] (fun _ _ => False) S0 S ∧ (∀ u : Nat, u < 10 → S 1119 (136 + u) = S0 1114 u) ∧ (∀ i : Nat, i < 136 ∨ 146 ≤ i → S 1119 i = S0 1119 i)
theorem zb_keepRow_14_92_1114_10_136_0_3 {g : mm_G} {l : Launch}  (S0 : zz_S) (n : Nat) (hn : zz_end ≤ n) (G_S0 : zz_G S0)  (x5 : Int) (S : zz_S) (G_S : zz_G S) (F_S : zz_fr [] [1119] (fun _ _ => False) S0 S) (i3_0 : 0 ≤ x5 ∧ x5 ≤ 10) (i3_1 : ∀ u : Nat, (u : Int) < x5 → S 1119 (136 + u) = S0 1114 u) (i3_2 : ∀ i : Nat, i < 136 ∨ 146 ≤ i → S 1119 i = S0 1119 i) (R : Nat) (hR : (10 - x5).toNat = R) (k3 : ∀ (x5 : Int) (S : zz_S), zz_G S → zz_fr [] [1119] (fun _ _ => False) S0 S → (0 ≤ x5 ∧ x5 ≤ 10) → (∀ u : Nat, (u : Int) < x5 → S 1119 (136 + u) = S0 1114 u) → (∀ i : Nat, i < 136 ∨ 146 ≤ i → S 1119 i = S0 1119 i) → (10 - x5).toNat < R → zz_E g l zy_keepRow_14_92 zr_keepRow_14_92_1114_10_136_0 (zz_QV n (zp_keepRow_14_92_1114_10_136_0  S0)) S n 3 [some (.ref 1079), some (.ref 1114), some (zi 10), some (zi 136), some (zi 0), some (zi x5)] [] 0 0) : zz_E g l zy_keepRow_14_92 zr_keepRow_14_92_1114_10_136_0 (zz_QV n (zp_keepRow_14_92_1114_10_136_0  S0)) S n 3 [some (.ref 1079), some (.ref 1114), some (zi 10), some (zi 136), some (zi 0), some (zi x5)] [] 0 0 := by
  refine zz_iload (x := x5) rfl zd_14_92_3 ?_
  refine zz_iload_n (x := 10) rfl zd_14_92_5 ?_
  refine zz_icmp_ge (by omega) (by omega) zd_14_92_6 (fun c1 => ?_) (fun c1 => ?_)
  · exact zz_vret zd_14_92_49 rfl (Nat.zero_le _) (Nat.zero_le _) ⟨_, rfl, G_S, F_S, fun u hu => i3_1 u (by omega), i3_2⟩
  · refine zz_iload (x := 0) rfl zd_14_92_9 ?_
    refine zz_if_eq (by omega) zd_14_92_11 (fun c2 => ?_) (fun c2 => ?_)
    · refine zz_aload_n (x := 1079) rfl zd_14_92_30 ?_
      refine zz_getr (kd := 0) (z := 1119) zd_14_92_31 zf_Md_139 zT_1079 rfl (zz_ltn hn rfl) (zz_G.eq G_S 1079 67 1119 rfl rfl) (by decide) 1119 rfl ?_
      refine zz_iload_n (x := 136) rfl zd_14_92_34 ?_
      refine zz_iload (x := x5) rfl zd_14_92_35 ?_
      refine zz_iadd zd_14_92_37 ?_
      refine zz_aload_n (x := 1114) rfl zd_14_92_38 ?_
      refine zz_iload (x := x5) rfl zd_14_92_39 ?_
      have g3 := zz_G.r G_S0 1114 x5.toNat 0 4096 rfl rfl
      refine zz_iald (z := S0 1114 x5.toNat) zd_14_92_41 zT_1114 rfl (zz_ltn hn rfl) (by decide) (by omega) (zz_rc F_S (zz_nc1 rfl) rfl (fun h => h) rfl) ?_
      refine zz_iast zd_14_92_42 zT_1119 rfl (zz_ltn hn rfl) (by decide) (by omega) (fun S4 qS4 => ?_)
      have G_S4 := zz_G.put G_S qS4 (0) (if (136 + x5).toNat < 12 then 63 else if (136 + x5).toNat < 24 then 63 else if (136 + x5).toNat < 36 then 63 else if (136 + x5).toNat < 37 then 0 else if (136 + x5).toNat < 48 then 10000000 else if (136 + x5).toNat < 59 then 2 else if (136 + x5).toNat < 70 then 10 else if (136 + x5).toNat < 81 then 10 else if (136 + x5).toNat < 92 then 3 else if (136 + x5).toNat < 103 then 3 else if (136 + x5).toNat < 114 then 3 else if (136 + x5).toNat < 125 then 1 else if (136 + x5).toNat < 136 then 31 else 4096) rfl (by omega)
      have F_S4 := zz_fr.putc F_S qS4 rfl
      refine zz_iinc [some (.ref 1079), some (.ref 1114), some (zi 10), some (zi 136), some (zi 0), some (zi (x5 + 1))] zd_14_92_43 rfl rfl ?_
      refine zz_goto zd_14_92_46 ?_
      refine zz_less (ls1 := [some (.ref 1079), some (.ref 1114), some (zi 10), some (zi 136), some (zi 0), some (zi (x5 + 1))]) ⟨rfl, ⟨rfl, ⟨rfl, ⟨rfl, ⟨rfl, ⟨rfl, trivial⟩⟩⟩⟩⟩⟩ ?_
      exact k3 (x5 + 1) S4 G_S4 F_S4 (by omega) (fun u hu => (Decidable.em ((u : Int) = x5)).elim (fun h => by rw [show 136 + u = (136 + x5).toNat by omega, zz_rs qS4, show x5.toNat = u by omega]) (fun h => by rw [zz_ro (b := 1119) (j := 136 + u) qS4 (fun h9 => by omega) rfl]; exact i3_1 u (by omega))) (fun i hi => by rw [zz_ro (b := 1119) (j := i) qS4 (fun h9 => by omega) rfl]; exact i3_2 i hi) (by omega)
    · exfalso; omega
theorem zi_keepRow_14_92_1114_10_136_0 {g : mm_G} {l : Launch}  (S0 : zz_S) (n : Nat) (hn : zz_end ≤ n) (G_S0 : zz_G S0)  : ∀ N : Nat, (∀ (x5 : Int) (S : zz_S), zz_G S → zz_fr [] [1119] (fun _ _ => False) S0 S → (0 ≤ x5 ∧ x5 ≤ 10) → (∀ u : Nat, (u : Int) < x5 → S 1119 (136 + u) = S0 1114 u) → (∀ i : Nat, i < 136 ∨ 146 ≤ i → S 1119 i = S0 1119 i) → (10 - x5).toNat < N → zz_E g l zy_keepRow_14_92 zr_keepRow_14_92_1114_10_136_0 (zz_QV n (zp_keepRow_14_92_1114_10_136_0  S0)) S n 3 [some (.ref 1079), some (.ref 1114), some (zi 10), some (zi 136), some (zi 0), some (zi x5)] [] 0 0) := by
  intro N
  induction N with
  | zero => exact fun x5 S _ _ _ _ _ h => absurd h (Nat.not_lt_zero _)
  | succ N ih =>
    exact fun x5 S a b j0 j1 j2 hR => zb_keepRow_14_92_1114_10_136_0_3  S0 n hn G_S0  x5 S a b j0 j1 j2 _ rfl (fun x5 S a b j0 j1 j2 h => ih x5 S a b j0 j1 j2 (Nat.lt_of_lt_of_le h (Nat.le_of_lt_succ hR)))
theorem zc_keepRow_14_92_1114_10_136_0 {g : mm_G} {l : Launch}  (S0 : zz_S) (n : Nat) (hn : zz_end ≤ n) (G_S0 : zz_G S0)  : mm_Met g l zy_keepRow_14_92 zr_keepRow_14_92_1114_10_136_0 [.ref 1079, .ref 1114, zi 10, zi 136, zi 0] (zz_M S0 n) n (zz_QV n (zp_keepRow_14_92_1114_10_136_0  S0)) := by
  refine zz_enter (by decide) (Nat.le_of_ble_eq_true rfl) (zz_less (ls1 := [some (.ref 1079), some (.ref 1114), some (zi 10), some (zi 136), some (zi 0)]) ⟨rfl, ⟨rfl, ⟨rfl, ⟨rfl, ⟨rfl, trivial⟩⟩⟩⟩⟩ ?_)
  have F_S0 : zz_fr [] [1119] (fun _ _ => False) S0 S0 := zz_fr.refl
  have k3 : ∀ (x5 : Int) (S : zz_S), zz_G S → zz_fr [] [1119] (fun _ _ => False) S0 S → (0 ≤ x5 ∧ x5 ≤ 10) → (∀ u : Nat, (u : Int) < x5 → S 1119 (136 + u) = S0 1114 u) → (∀ i : Nat, i < 136 ∨ 146 ≤ i → S 1119 i = S0 1119 i) → zz_E g l zy_keepRow_14_92 zr_keepRow_14_92_1114_10_136_0 (zz_QV n (zp_keepRow_14_92_1114_10_136_0  S0)) S n 3 [some (.ref 1079), some (.ref 1114), some (zi 10), some (zi 136), some (zi 0), some (zi x5)] [] 0 0 := fun x5 S a b j0 j1 j2 => (zi_keepRow_14_92_1114_10_136_0 (g := g) (l := l)  S0 n hn G_S0  _) x5 S a b j0 j1 j2 (Nat.lt_succ_self _)
  refine zz_iconst zd_14_92_0 ?_
  refine zz_istore [some (.ref 1079), some (.ref 1114), some (zi 10), some (zi 136), some (zi 0), some (zi 0)] zd_14_92_1 (by decide) rfl ?_
  refine zz_less (ls1 := [some (.ref 1079), some (.ref 1114), some (zi 10), some (zi 136), some (zi 0), some (zi 0)]) ⟨rfl, ⟨rfl, ⟨rfl, ⟨rfl, ⟨rfl, ⟨rfl, trivial⟩⟩⟩⟩⟩⟩ ?_
  exact k3 0 S0 G_S0 F_S0 (by omega) (fun u h => absurd h (by omega)) (fun _ _ => rfl)
theorem zg_14_91_196 : zq_at zy_keepNetwork_14_91.2.1 196 177 := by decide +kernel
theorem zd_14_91_196 : zz_D zy_keepNetwork_14_91 196 (.return_) 1 197 := ⟨zq_177 zg_14_91_196, rfl⟩
-- TensorForgeModel keepNetwork (Z)V
abbrev zr_keepNetwork_14_91_0 : Room := { frames := 1, cells := 0, slots := 0, locals := 17 }
def zp_keepNetwork_14_91_0  (S0 : zz_S) : zz_S → Prop := fun S => zz_G S ∧ zz_fr [(1079, 36), (1079, 66)] [1119] (fun _ _ => False) S0 S ∧ (zz_kp S0 S) ∧ (S 1079 66 = S0 1079 36 ∧ S 1079 36 = S0 1079 36) ∧ (zz_Hr S0 → zz_Hr S)
theorem zc_keepNetwork_14_91_0 {g : mm_G} {l : Launch}  (S0 : zz_S) (n : Nat) (hn : zz_end ≤ n) (G_S0 : zz_G S0)  : mm_Met g l zy_keepNetwork_14_91 zr_keepNetwork_14_91_0 [.ref 1079, zi 0] (zz_M S0 n) n (zz_QV n (zp_keepNetwork_14_91_0  S0)) := by
  refine zz_enter (by decide) (Nat.le_of_ble_eq_true rfl) (zz_less (ls1 := [some (.ref 1079), some (zi 0)]) ⟨rfl, ⟨rfl, trivial⟩⟩ ?_)
  have F_S0 : zz_fr [(1079, 36), (1079, 66)] [1119] (fun _ _ => False) S0 S0 := zz_fr.refl
  refine zz_aload_n (x := 1079) rfl zd_14_91_0 ?_
  refine zz_iload_n (x := 0) rfl zd_14_91_1 ?_
  refine zz_if_eq (by omega) zd_14_91_2 (fun c1 => ?_) (fun c1 => ?_)
  · refine zz_aload_n (x := 1079) rfl zd_14_91_12 ?_
    have g2 := zz_G.r G_S0 1079 36 0 11 rfl rfl
    refine zz_geti (z := S0 1079 36) zd_14_91_13 zf_Md_85 zT_1079 rfl (zz_ltn hn rfl) rfl ?_
    refine zz_puti zd_14_91_16 zf_Md_515 zT_1079 rfl (zz_ltn hn rfl) (fun S3 qS3 => ?_)
    have G_S3 := zz_G.put G_S0 qS3 0 11 rfl (by omega)
    have F_S3 := zz_fr.puts F_S0 qS3 rfl
    refine zz_aload_n (x := 1079) rfl zd_14_91_19 ?_
    refine zz_aload_n (x := 1079) rfl zd_14_91_20 ?_
    refine zz_geti (z := S0 1079 36) zd_14_91_21 zf_Md_515 zT_1079 rfl (zz_ltn hn rfl) (zz_rs qS3) ?_
    refine zz_puti zd_14_91_24 zf_Md_85 zT_1079 rfl (zz_ltn hn rfl) (fun S4 qS4 => ?_)
    have G_S4 := zz_G.put G_S3 qS4 0 11 rfl (by omega)
    have F_S4 := zz_fr.puts F_S3 qS4 rfl
    refine zz_aload_n (x := 1079) rfl zd_14_91_27 ?_
    refine zz_aload_n (x := 1079) rfl zd_14_91_28 ?_
    refine zz_getr (kd := 0) (z := 1102) zd_14_91_29 zf_Md_88 zT_1079 rfl (zz_ltn hn rfl) (zz_G.eq G_S4 1079 37 1102 rfl rfl) (by decide) 1102 rfl ?_
    refine zz_bipush (by decide) zd_14_91_32 ?_
    refine zz_iconst zd_14_91_34 ?_
    refine zz_iload_n (x := 0) rfl zd_14_91_35 ?_
    refine zz_callVV [.ref 1102, zi 11, zi 0, zi 0] zd_14_91_36 zk_Md_518 zT_1079 (zz_ltn hn rfl) rfl rfl ⟨Nat.le_of_ble_eq_true rfl, Nat.le_of_ble_eq_true rfl⟩ ⟨rfl, rfl⟩ (Nat.zero_le _) (Nat.zero_le _) (zc_keepRow_14_92_1102_11_0_0  S4 n hn G_S4 ) (fun S5 hP => ?_)
    obtain ⟨G_S5, fS5, o7, o8⟩ := hP
    have F_S5 := zz_fr.trans F_S4 fS5 rfl zz_nv
    refine zz_aload_n (x := 1079) rfl zd_14_91_39 ?_
    refine zz_aload_n (x := 1079) rfl zd_14_91_40 ?_
    refine zz_getr (kd := 0) (z := 1103) zd_14_91_41 zf_Md_91 zT_1079 rfl (zz_ltn hn rfl) (zz_G.eq G_S5 1079 38 1103 rfl rfl) (by decide) 1103 rfl ?_
    refine zz_bipush (by decide) zd_14_91_44 ?_
    refine zz_bipush (by decide) zd_14_91_46 ?_
    refine zz_iload_n (x := 0) rfl zd_14_91_48 ?_
    refine zz_callVV [.ref 1103, zi 11, zi 12, zi 0] zd_14_91_49 zk_Md_518 zT_1079 (zz_ltn hn rfl) rfl rfl ⟨Nat.le_of_ble_eq_true rfl, Nat.le_of_ble_eq_true rfl⟩ ⟨rfl, rfl⟩ (Nat.zero_le _) (Nat.zero_le _) (zc_keepRow_14_92_1103_11_12_0  S5 n hn G_S5 ) (fun S9 hP => ?_)
    obtain ⟨G_S9, fS9, o11, o12⟩ := hP
    have F_S9 := zz_fr.trans F_S5 fS9 rfl zz_nv
    refine zz_aload_n (x := 1079) rfl zd_14_91_52 ?_
    refine zz_aload_n (x := 1079) rfl zd_14_91_53 ?_
    refine zz_getr (kd := 0) (z := 1104) zd_14_91_54 zf_Md_94 zT_1079 rfl (zz_ltn hn rfl) (zz_G.eq G_S9 1079 39 1104 rfl rfl) (by decide) 1104 rfl ?_
    refine zz_bipush (by decide) zd_14_91_57 ?_
    refine zz_bipush (by decide) zd_14_91_59 ?_
    refine zz_iload_n (x := 0) rfl zd_14_91_61 ?_
    refine zz_callVV [.ref 1104, zi 11, zi 24, zi 0] zd_14_91_62 zk_Md_518 zT_1079 (zz_ltn hn rfl) rfl rfl ⟨Nat.le_of_ble_eq_true rfl, Nat.le_of_ble_eq_true rfl⟩ ⟨rfl, rfl⟩ (Nat.zero_le _) (Nat.zero_le _) (zc_keepRow_14_92_1104_11_24_0  S9 n hn G_S9 ) (fun S13 hP => ?_)
    obtain ⟨G_S13, fS13, o15, o16⟩ := hP
    have F_S13 := zz_fr.trans F_S9 fS13 rfl zz_nv
    refine zz_aload_n (x := 1079) rfl zd_14_91_65 ?_
    refine zz_aload_n (x := 1079) rfl zd_14_91_66 ?_
    refine zz_getr (kd := 0) (z := 1105) zd_14_91_67 zf_Md_97 zT_1079 rfl (zz_ltn hn rfl) (zz_G.eq G_S13 1079 40 1105 rfl rfl) (by decide) 1105 rfl ?_
    refine zz_bipush (by decide) zd_14_91_70 ?_
    refine zz_bipush (by decide) zd_14_91_72 ?_
    refine zz_iload_n (x := 0) rfl zd_14_91_74 ?_
    refine zz_callVV [.ref 1105, zi 12, zi 36, zi 0] zd_14_91_75 zk_Md_518 zT_1079 (zz_ltn hn rfl) rfl rfl ⟨Nat.le_of_ble_eq_true rfl, Nat.le_of_ble_eq_true rfl⟩ ⟨rfl, rfl⟩ (Nat.zero_le _) (Nat.zero_le _) (zc_keepRow_14_92_1105_12_36_0  S13 n hn G_S13 ) (fun S17 hP => ?_)
    obtain ⟨G_S17, fS17, o19, o20⟩ := hP
    have F_S17 := zz_fr.trans F_S13 fS17 rfl zz_nv
    refine zz_aload_n (x := 1079) rfl zd_14_91_78 ?_
    refine zz_aload_n (x := 1079) rfl zd_14_91_79 ?_
    refine zz_getr (kd := 0) (z := 1106) zd_14_91_80 zf_Md_100 zT_1079 rfl (zz_ltn hn rfl) (zz_G.eq G_S17 1079 41 1106 rfl rfl) (by decide) 1106 rfl ?_
    refine zz_bipush (by decide) zd_14_91_83 ?_
    refine zz_bipush (by decide) zd_14_91_85 ?_
    refine zz_iload_n (x := 0) rfl zd_14_91_87 ?_
    refine zz_callVV [.ref 1106, zi 10, zi 48, zi 0] zd_14_91_88 zk_Md_518 zT_1079 (zz_ltn hn rfl) rfl rfl ⟨Nat.le_of_ble_eq_true rfl, Nat.le_of_ble_eq_true rfl⟩ ⟨rfl, rfl⟩ (Nat.zero_le _) (Nat.zero_le _) (zc_keepRow_14_92_1106_10_48_0  S17 n hn G_S17 ) (fun S21 hP => ?_)
    obtain ⟨G_S21, fS21, o23, o24⟩ := hP
    have F_S21 := zz_fr.trans F_S17 fS21 rfl zz_nv
    refine zz_aload_n (x := 1079) rfl zd_14_91_91 ?_
    refine zz_aload_n (x := 1079) rfl zd_14_91_92 ?_
    refine zz_getr (kd := 0) (z := 1107) zd_14_91_93 zf_Md_103 zT_1079 rfl (zz_ltn hn rfl) (zz_G.eq G_S21 1079 42 1107 rfl rfl) (by decide) 1107 rfl ?_
    refine zz_bipush (by decide) zd_14_91_96 ?_
    refine zz_bipush (by decide) zd_14_91_98 ?_
    refine zz_iload_n (x := 0) rfl zd_14_91_100 ?_
    refine zz_callVV [.ref 1107, zi 10, zi 59, zi 0] zd_14_91_101 zk_Md_518 zT_1079 (zz_ltn hn rfl) rfl rfl ⟨Nat.le_of_ble_eq_true rfl, Nat.le_of_ble_eq_true rfl⟩ ⟨rfl, rfl⟩ (Nat.zero_le _) (Nat.zero_le _) (zc_keepRow_14_92_1107_10_59_0  S21 n hn G_S21 ) (fun S25 hP => ?_)
    obtain ⟨G_S25, fS25, o27, o28⟩ := hP
    have F_S25 := zz_fr.trans F_S21 fS25 rfl zz_nv
    refine zz_aload_n (x := 1079) rfl zd_14_91_104 ?_
    refine zz_aload_n (x := 1079) rfl zd_14_91_105 ?_
    refine zz_getr (kd := 0) (z := 1108) zd_14_91_106 zf_Md_106 zT_1079 rfl (zz_ltn hn rfl) (zz_G.eq G_S25 1079 43 1108 rfl rfl) (by decide) 1108 rfl ?_
    refine zz_bipush (by decide) zd_14_91_109 ?_
    refine zz_bipush (by decide) zd_14_91_111 ?_
    refine zz_iload_n (x := 0) rfl zd_14_91_113 ?_
    refine zz_callVV [.ref 1108, zi 10, zi 70, zi 0] zd_14_91_114 zk_Md_518 zT_1079 (zz_ltn hn rfl) rfl rfl ⟨Nat.le_of_ble_eq_true rfl, Nat.le_of_ble_eq_true rfl⟩ ⟨rfl, rfl⟩ (Nat.zero_le _) (Nat.zero_le _) (zc_keepRow_14_92_1108_10_70_0  S25 n hn G_S25 ) (fun S29 hP => ?_)
    obtain ⟨G_S29, fS29, o31, o32⟩ := hP
    have F_S29 := zz_fr.trans F_S25 fS29 rfl zz_nv
    refine zz_aload_n (x := 1079) rfl zd_14_91_117 ?_
    refine zz_aload_n (x := 1079) rfl zd_14_91_118 ?_
    refine zz_getr (kd := 0) (z := 1109) zd_14_91_119 zf_Md_109 zT_1079 rfl (zz_ltn hn rfl) (zz_G.eq G_S29 1079 44 1109 rfl rfl) (by decide) 1109 rfl ?_
    refine zz_bipush (by decide) zd_14_91_122 ?_
    refine zz_bipush (by decide) zd_14_91_124 ?_
    refine zz_iload_n (x := 0) rfl zd_14_91_126 ?_
    refine zz_callVV [.ref 1109, zi 10, zi 81, zi 0] zd_14_91_127 zk_Md_518 zT_1079 (zz_ltn hn rfl) rfl rfl ⟨Nat.le_of_ble_eq_true rfl, Nat.le_of_ble_eq_true rfl⟩ ⟨rfl, rfl⟩ (Nat.zero_le _) (Nat.zero_le _) (zc_keepRow_14_92_1109_10_81_0  S29 n hn G_S29 ) (fun S33 hP => ?_)
    obtain ⟨G_S33, fS33, o35, o36⟩ := hP
    have F_S33 := zz_fr.trans F_S29 fS33 rfl zz_nv
    refine zz_aload_n (x := 1079) rfl zd_14_91_130 ?_
    refine zz_aload_n (x := 1079) rfl zd_14_91_131 ?_
    refine zz_getr (kd := 0) (z := 1110) zd_14_91_132 zf_Md_112 zT_1079 rfl (zz_ltn hn rfl) (zz_G.eq G_S33 1079 45 1110 rfl rfl) (by decide) 1110 rfl ?_
    refine zz_bipush (by decide) zd_14_91_135 ?_
    refine zz_bipush (by decide) zd_14_91_137 ?_
    refine zz_iload_n (x := 0) rfl zd_14_91_139 ?_
    refine zz_callVV [.ref 1110, zi 10, zi 92, zi 0] zd_14_91_140 zk_Md_518 zT_1079 (zz_ltn hn rfl) rfl rfl ⟨Nat.le_of_ble_eq_true rfl, Nat.le_of_ble_eq_true rfl⟩ ⟨rfl, rfl⟩ (Nat.zero_le _) (Nat.zero_le _) (zc_keepRow_14_92_1110_10_92_0  S33 n hn G_S33 ) (fun S37 hP => ?_)
    obtain ⟨G_S37, fS37, o39, o40⟩ := hP
    have F_S37 := zz_fr.trans F_S33 fS37 rfl zz_nv
    refine zz_aload_n (x := 1079) rfl zd_14_91_143 ?_
    refine zz_aload_n (x := 1079) rfl zd_14_91_144 ?_
    refine zz_getr (kd := 0) (z := 1111) zd_14_91_145 zf_Md_115 zT_1079 rfl (zz_ltn hn rfl) (zz_G.eq G_S37 1079 46 1111 rfl rfl) (by decide) 1111 rfl ?_
    refine zz_bipush (by decide) zd_14_91_148 ?_
    refine zz_bipush (by decide) zd_14_91_150 ?_
    refine zz_iload_n (x := 0) rfl zd_14_91_152 ?_
    refine zz_callVV [.ref 1111, zi 10, zi 103, zi 0] zd_14_91_153 zk_Md_518 zT_1079 (zz_ltn hn rfl) rfl rfl ⟨Nat.le_of_ble_eq_true rfl, Nat.le_of_ble_eq_true rfl⟩ ⟨rfl, rfl⟩ (Nat.zero_le _) (Nat.zero_le _) (zc_keepRow_14_92_1111_10_103_0  S37 n hn G_S37 ) (fun S41 hP => ?_)
    obtain ⟨G_S41, fS41, o43, o44⟩ := hP
    have F_S41 := zz_fr.trans F_S37 fS41 rfl zz_nv
    refine zz_aload_n (x := 1079) rfl zd_14_91_156 ?_
    refine zz_aload_n (x := 1079) rfl zd_14_91_157 ?_
    refine zz_getr (kd := 0) (z := 1112) zd_14_91_158 zf_Md_118 zT_1079 rfl (zz_ltn hn rfl) (zz_G.eq G_S41 1079 47 1112 rfl rfl) (by decide) 1112 rfl ?_
    refine zz_bipush (by decide) zd_14_91_161 ?_
    refine zz_bipush (by decide) zd_14_91_163 ?_
    refine zz_iload_n (x := 0) rfl zd_14_91_165 ?_
    refine zz_callVV [.ref 1112, zi 10, zi 114, zi 0] zd_14_91_166 zk_Md_518 zT_1079 (zz_ltn hn rfl) rfl rfl ⟨Nat.le_of_ble_eq_true rfl, Nat.le_of_ble_eq_true rfl⟩ ⟨rfl, rfl⟩ (Nat.zero_le _) (Nat.zero_le _) (zc_keepRow_14_92_1112_10_114_0  S41 n hn G_S41 ) (fun S45 hP => ?_)
    obtain ⟨G_S45, fS45, o47, o48⟩ := hP
    have F_S45 := zz_fr.trans F_S41 fS45 rfl zz_nv
    refine zz_aload_n (x := 1079) rfl zd_14_91_169 ?_
    refine zz_aload_n (x := 1079) rfl zd_14_91_170 ?_
    refine zz_getr (kd := 0) (z := 1113) zd_14_91_171 zf_Md_121 zT_1079 rfl (zz_ltn hn rfl) (zz_G.eq G_S45 1079 48 1113 rfl rfl) (by decide) 1113 rfl ?_
    refine zz_bipush (by decide) zd_14_91_174 ?_
    refine zz_bipush (by decide) zd_14_91_176 ?_
    refine zz_iload_n (x := 0) rfl zd_14_91_178 ?_
    refine zz_callVV [.ref 1113, zi 10, zi 125, zi 0] zd_14_91_179 zk_Md_518 zT_1079 (zz_ltn hn rfl) rfl rfl ⟨Nat.le_of_ble_eq_true rfl, Nat.le_of_ble_eq_true rfl⟩ ⟨rfl, rfl⟩ (Nat.zero_le _) (Nat.zero_le _) (zc_keepRow_14_92_1113_10_125_0  S45 n hn G_S45 ) (fun S49 hP => ?_)
    obtain ⟨G_S49, fS49, o51, o52⟩ := hP
    have F_S49 := zz_fr.trans F_S45 fS49 rfl zz_nv
    refine zz_aload_n (x := 1079) rfl zd_14_91_182 ?_
    refine zz_aload_n (x := 1079) rfl zd_14_91_183 ?_
    refine zz_getr (kd := 0) (z := 1114) zd_14_91_184 zf_Md_124 zT_1079 rfl (zz_ltn hn rfl) (zz_G.eq G_S49 1079 49 1114 rfl rfl) (by decide) 1114 rfl ?_
    refine zz_bipush (by decide) zd_14_91_187 ?_
    refine zz_sipush (by decide) zd_14_91_189 ?_
    refine zz_iload_n (x := 0) rfl zd_14_91_192 ?_
    refine zz_callVV [.ref 1114, zi 10, zi 136, zi 0] zd_14_91_193 zk_Md_518 zT_1079 (zz_ltn hn rfl) rfl rfl ⟨Nat.le_of_ble_eq_true rfl, Nat.le_of_ble_eq_true rfl⟩ ⟨rfl, rfl⟩ (Nat.zero_le _) (Nat.zero_le _) (zc_keepRow_14_92_1114_10_136_0  S49 n hn G_S49 ) (fun S53 hP => ?_)
    obtain ⟨G_S53, fS53, o55, o56⟩ := hP
    have F_S53 := zz_fr.trans F_S49 fS53 rfl zz_nv
    have e57 : S53 1079 36 = S0 1079 36 := (zz_rc fS53 rfl rfl (fun h => h) (zz_rc fS49 rfl rfl (fun h => h) (zz_rc fS45 rfl rfl (fun h => h) (zz_rc fS41 rfl rfl (fun h => h) (zz_rc fS37 rfl rfl (fun h => h) (zz_rc fS33 rfl rfl (fun h => h) (zz_rc fS29 rfl rfl (fun h => h) (zz_rc fS25 rfl rfl (fun h => h) (zz_rc fS21 rfl rfl (fun h => h) (zz_rc fS17 rfl rfl (fun h => h) (zz_rc fS13 rfl rfl (fun h => h) (zz_rc fS9 rfl rfl (fun h => h) (zz_rc fS5 rfl rfl (fun h => h) (zz_rs qS4))))))))))))))
    have e58 : S53 1079 66 = S0 1079 36 := (zz_rc fS53 rfl rfl (fun h => h) (zz_rc fS49 rfl rfl (fun h => h) (zz_rc fS45 rfl rfl (fun h => h) (zz_rc fS41 rfl rfl (fun h => h) (zz_rc fS37 rfl rfl (fun h => h) (zz_rc fS33 rfl rfl (fun h => h) (zz_rc fS29 rfl rfl (fun h => h) (zz_rc fS25 rfl rfl (fun h => h) (zz_rc fS21 rfl rfl (fun h => h) (zz_rc fS17 rfl rfl (fun h => h) (zz_rc fS13 rfl rfl (fun h => h) (zz_rc fS9 rfl rfl (fun h => h) (zz_rc fS5 rfl rfl (fun h => h) (zz_ro qS4 (fun h => absurd h.2 (by decide)) (zz_rs qS3)))))))))))))))
    exact zz_vret zd_14_91_196 rfl (Nat.zero_le _) (Nat.zero_le _) ⟨_, rfl, G_S53, F_S53, ⟨fun u hu => ((o56 (0 + u) (by omega)).trans ((o52 (0 + u) (by omega)).trans ((o48 (0 + u) (by omega)).trans ((o44 (0 + u) (by omega)).trans ((o40 (0 + u) (by omega)).trans ((o36 (0 + u) (by omega)).trans ((o32 (0 + u) (by omega)).trans ((o28 (0 + u) (by omega)).trans ((o24 (0 + u) (by omega)).trans ((o20 (0 + u) (by omega)).trans ((o16 (0 + u) (by omega)).trans ((o12 (0 + u) (by omega)).trans ((o7 u hu).trans (zz_ro qS4 (fun h => absurd h.1 (by decide)) (zz_ro qS3 (fun h => absurd h.1 (by decide)) rfl))))))))))))))), fun u hu => ((o56 (12 + u) (by omega)).trans ((o52 (12 + u) (by omega)).trans ((o48 (12 + u) (by omega)).trans ((o44 (12 + u) (by omega)).trans ((o40 (12 + u) (by omega)).trans ((o36 (12 + u) (by omega)).trans ((o32 (12 + u) (by omega)).trans ((o28 (12 + u) (by omega)).trans ((o24 (12 + u) (by omega)).trans ((o20 (12 + u) (by omega)).trans ((o16 (12 + u) (by omega)).trans ((o11 u hu).trans (zz_rc fS5 (zz_nc1 rfl) rfl (fun h => h) (zz_ro qS4 (fun h => absurd h.1 (by decide)) (zz_ro qS3 (fun h => absurd h.1 (by decide)) rfl))))))))))))))), fun u hu => ((o56 (24 + u) (by omega)).trans ((o52 (24 + u) (by omega)).trans ((o48 (24 + u) (by omega)).trans ((o44 (24 + u) (by omega)).trans ((o40 (24 + u) (by omega)).trans ((o36 (24 + u) (by omega)).trans ((o32 (24 + u) (by omega)).trans ((o28 (24 + u) (by omega)).trans ((o24 (24 + u) (by omega)).trans ((o20 (24 + u) (by omega)).trans ((o15 u hu).trans (zz_rc fS9 (zz_nc1 rfl) rfl (fun h => h) (zz_rc fS5 (zz_nc1 rfl) rfl (fun h => h) (zz_ro qS4 (fun h => absurd h.1 (by decide)) (zz_ro qS3 (fun h => absurd h.1 (by decide)) rfl))))))))))))))), fun u hu => ((o56 (36 + u) (by omega)).trans ((o52 (36 + u) (by omega)).trans ((o48 (36 + u) (by omega)).trans ((o44 (36 + u) (by omega)).trans ((o40 (36 + u) (by omega)).trans ((o36 (36 + u) (by omega)).trans ((o32 (36 + u) (by omega)).trans ((o28 (36 + u) (by omega)).trans ((o24 (36 + u) (by omega)).trans ((o19 u hu).trans (zz_rc fS13 (zz_nc1 rfl) rfl (fun h => h) (zz_rc fS9 (zz_nc1 rfl) rfl (fun h => h) (zz_rc fS5 (zz_nc1 rfl) rfl (fun h => h) (zz_ro qS4 (fun h => absurd h.1 (by decide)) (zz_ro qS3 (fun h => absurd h.1 (by decide)) rfl))))))))))))))), fun u hu => ((o56 (48 + u) (by omega)).trans ((o52 (48 + u) (by omega)).trans ((o48 (48 + u) (by omega)).trans ((o44 (48 + u) (by omega)).trans ((o40 (48 + u) (by omega)).trans ((o36 (48 + u) (by omega)).trans ((o32 (48 + u) (by omega)).trans ((o28 (48 + u) (by omega)).trans ((o23 u hu).trans (zz_rc fS17 (zz_nc1 rfl) rfl (fun h => h) (zz_rc fS13 (zz_nc1 rfl) rfl (fun h => h) (zz_rc fS9 (zz_nc1 rfl) rfl (fun h => h) (zz_rc fS5 (zz_nc1 rfl) rfl (fun h => h) (zz_ro qS4 (fun h => absurd h.1 (by decide)) (zz_ro qS3 (fun h => absurd h.1 (by decide)) rfl))))))))))))))), fun u hu => ((o56 (59 + u) (by omega)).trans ((o52 (59 + u) (by omega)).trans ((o48 (59 + u) (by omega)).trans ((o44 (59 + u) (by omega)).trans ((o40 (59 + u) (by omega)).trans ((o36 (59 + u) (by omega)).trans ((o32 (59 + u) (by omega)).trans ((o27 u hu).trans (zz_rc fS21 (zz_nc1 rfl) rfl (fun h => h) (zz_rc fS17 (zz_nc1 rfl) rfl (fun h => h) (zz_rc fS13 (zz_nc1 rfl) rfl (fun h => h) (zz_rc fS9 (zz_nc1 rfl) rfl (fun h => h) (zz_rc fS5 (zz_nc1 rfl) rfl (fun h => h) (zz_ro qS4 (fun h => absurd h.1 (by decide)) (zz_ro qS3 (fun h => absurd h.1 (by decide)) rfl))))))))))))))), fun u hu => ((o56 (70 + u) (by omega)).trans ((o52 (70 + u) (by omega)).trans ((o48 (70 + u) (by omega)).trans ((o44 (70 + u) (by omega)).trans ((o40 (70 + u) (by omega)).trans ((o36 (70 + u) (by omega)).trans ((o31 u hu).trans (zz_rc fS25 (zz_nc1 rfl) rfl (fun h => h) (zz_rc fS21 (zz_nc1 rfl) rfl (fun h => h) (zz_rc fS17 (zz_nc1 rfl) rfl (fun h => h) (zz_rc fS13 (zz_nc1 rfl) rfl (fun h => h) (zz_rc fS9 (zz_nc1 rfl) rfl (fun h => h) (zz_rc fS5 (zz_nc1 rfl) rfl (fun h => h) (zz_ro qS4 (fun h => absurd h.1 (by decide)) (zz_ro qS3 (fun h => absurd h.1 (by decide)) rfl))))))))))))))), fun u hu => ((o56 (81 + u) (by omega)).trans ((o52 (81 + u) (by omega)).trans ((o48 (81 + u) (by omega)).trans ((o44 (81 + u) (by omega)).trans ((o40 (81 + u) (by omega)).trans ((o35 u hu).trans (zz_rc fS29 (zz_nc1 rfl) rfl (fun h => h) (zz_rc fS25 (zz_nc1 rfl) rfl (fun h => h) (zz_rc fS21 (zz_nc1 rfl) rfl (fun h => h) (zz_rc fS17 (zz_nc1 rfl) rfl (fun h => h) (zz_rc fS13 (zz_nc1 rfl) rfl (fun h => h) (zz_rc fS9 (zz_nc1 rfl) rfl (fun h => h) (zz_rc fS5 (zz_nc1 rfl) rfl (fun h => h) (zz_ro qS4 (fun h => absurd h.1 (by decide)) (zz_ro qS3 (fun h => absurd h.1 (by decide)) rfl))))))))))))))), fun u hu => ((o56 (92 + u) (by omega)).trans ((o52 (92 + u) (by omega)).trans ((o48 (92 + u) (by omega)).trans ((o44 (92 + u) (by omega)).trans ((o39 u hu).trans (zz_rc fS33 (zz_nc1 rfl) rfl (fun h => h) (zz_rc fS29 (zz_nc1 rfl) rfl (fun h => h) (zz_rc fS25 (zz_nc1 rfl) rfl (fun h => h) (zz_rc fS21 (zz_nc1 rfl) rfl (fun h => h) (zz_rc fS17 (zz_nc1 rfl) rfl (fun h => h) (zz_rc fS13 (zz_nc1 rfl) rfl (fun h => h) (zz_rc fS9 (zz_nc1 rfl) rfl (fun h => h) (zz_rc fS5 (zz_nc1 rfl) rfl (fun h => h) (zz_ro qS4 (fun h => absurd h.1 (by decide)) (zz_ro qS3 (fun h => absurd h.1 (by decide)) rfl))))))))))))))), fun u hu => ((o56 (103 + u) (by omega)).trans ((o52 (103 + u) (by omega)).trans ((o48 (103 + u) (by omega)).trans ((o43 u hu).trans (zz_rc fS37 (zz_nc1 rfl) rfl (fun h => h) (zz_rc fS33 (zz_nc1 rfl) rfl (fun h => h) (zz_rc fS29 (zz_nc1 rfl) rfl (fun h => h) (zz_rc fS25 (zz_nc1 rfl) rfl (fun h => h) (zz_rc fS21 (zz_nc1 rfl) rfl (fun h => h) (zz_rc fS17 (zz_nc1 rfl) rfl (fun h => h) (zz_rc fS13 (zz_nc1 rfl) rfl (fun h => h) (zz_rc fS9 (zz_nc1 rfl) rfl (fun h => h) (zz_rc fS5 (zz_nc1 rfl) rfl (fun h => h) (zz_ro qS4 (fun h => absurd h.1 (by decide)) (zz_ro qS3 (fun h => absurd h.1 (by decide)) rfl))))))))))))))), fun u hu => ((o56 (114 + u) (by omega)).trans ((o52 (114 + u) (by omega)).trans ((o47 u hu).trans (zz_rc fS41 (zz_nc1 rfl) rfl (fun h => h) (zz_rc fS37 (zz_nc1 rfl) rfl (fun h => h) (zz_rc fS33 (zz_nc1 rfl) rfl (fun h => h) (zz_rc fS29 (zz_nc1 rfl) rfl (fun h => h) (zz_rc fS25 (zz_nc1 rfl) rfl (fun h => h) (zz_rc fS21 (zz_nc1 rfl) rfl (fun h => h) (zz_rc fS17 (zz_nc1 rfl) rfl (fun h => h) (zz_rc fS13 (zz_nc1 rfl) rfl (fun h => h) (zz_rc fS9 (zz_nc1 rfl) rfl (fun h => h) (zz_rc fS5 (zz_nc1 rfl) rfl (fun h => h) (zz_ro qS4 (fun h => absurd h.1 (by decide)) (zz_ro qS3 (fun h => absurd h.1 (by decide)) rfl))))))))))))))), fun u hu => ((o56 (125 + u) (by omega)).trans ((o51 u hu).trans (zz_rc fS45 (zz_nc1 rfl) rfl (fun h => h) (zz_rc fS41 (zz_nc1 rfl) rfl (fun h => h) (zz_rc fS37 (zz_nc1 rfl) rfl (fun h => h) (zz_rc fS33 (zz_nc1 rfl) rfl (fun h => h) (zz_rc fS29 (zz_nc1 rfl) rfl (fun h => h) (zz_rc fS25 (zz_nc1 rfl) rfl (fun h => h) (zz_rc fS21 (zz_nc1 rfl) rfl (fun h => h) (zz_rc fS17 (zz_nc1 rfl) rfl (fun h => h) (zz_rc fS13 (zz_nc1 rfl) rfl (fun h => h) (zz_rc fS9 (zz_nc1 rfl) rfl (fun h => h) (zz_rc fS5 (zz_nc1 rfl) rfl (fun h => h) (zz_ro qS4 (fun h => absurd h.1 (by decide)) (zz_ro qS3 (fun h => absurd h.1 (by decide)) rfl))))))))))))))), fun u hu => ((o55 u hu).trans (zz_rc fS49 (zz_nc1 rfl) rfl (fun h => h) (zz_rc fS45 (zz_nc1 rfl) rfl (fun h => h) (zz_rc fS41 (zz_nc1 rfl) rfl (fun h => h) (zz_rc fS37 (zz_nc1 rfl) rfl (fun h => h) (zz_rc fS33 (zz_nc1 rfl) rfl (fun h => h) (zz_rc fS29 (zz_nc1 rfl) rfl (fun h => h) (zz_rc fS25 (zz_nc1 rfl) rfl (fun h => h) (zz_rc fS21 (zz_nc1 rfl) rfl (fun h => h) (zz_rc fS17 (zz_nc1 rfl) rfl (fun h => h) (zz_rc fS13 (zz_nc1 rfl) rfl (fun h => h) (zz_rc fS9 (zz_nc1 rfl) rfl (fun h => h) (zz_rc fS5 (zz_nc1 rfl) rfl (fun h => h) (zz_ro qS4 (fun h => absurd h.1 (by decide)) (zz_ro qS3 (fun h => absurd h.1 (by decide)) rfl)))))))))))))))⟩, by omega, fun h => h.down (by omega) (fun a i x y z => F_S53 a i (zz_nc4 rfl (by omega)) (zz_nc3 rfl (by omega)) (fun h => h))⟩
  · exfalso; omega
theorem zk_Md_595 : mm_Vl "TensorForgeModel" 595 11 1 zy_keepNetwork_14_91 := ⟨zyw_keepNetwork_14_91, (R_Md, F_Md, 69), rfl, mm_tb_1 2188 (by decide +kernel) rfl, mm_tb_1 2190 (by decide +kernel) rfl, mm_tb_s 138 (by decide +kernel) rfl⟩
theorem zg_14_105_10 : zq_at zy_network_14_105.2.1 10 3 ∧ zq_at zy_network_14_105.2.1 11 60 ∧ zq_at zy_network_14_105.2.1 12 3 ∧ zq_at zy_network_14_105.2.1 13 61 ∧ zq_at zy_network_14_105.2.1 14 3 ∧ zq_at zy_network_14_105.2.1 15 62 ∧ zq_at zy_network_14_105.2.1 16 4 ∧ zq_at zy_network_14_105.2.1 17 54 ∧ zq_at zy_network_14_105.2.1 18 4 ∧ zq_at zy_network_14_105.2.1 19 29 ∧ zq_at zy_network_14_105.2.1 20 42 ∧ zq_at zy_network_14_105.2.1 21 180 ∧ zq_at zy_network_14_105.2.1 22 1 ∧ zq_at zy_network_14_105.2.1 23 75 ∧ zq_at zy_network_14_105.2.1 24 163 ∧ zq_at zy_network_14_105.2.1 25 0 ∧ zq_at zy_network_14_105.2.1 26 125 ∧ zq_at zy_network_14_105.2.1 149 42 ∧ zq_at zy_network_14_105.2.1 150 3 ∧ zq_at zy_network_14_105.2.1 151 181 ∧ zq_at zy_network_14_105.2.1 152 0 ∧ zq_at zy_network_14_105.2.1 153 187 ∧ zq_at zy_network_14_105.2.1 154 21 ∧ zq_at zy_network_14_105.2.1 155 4 := by decide +kernel
theorem zd_14_105_10 : zz_D zy_network_14_105 10 (.iconst 0) 1 11 := ⟨zq_3 zg_14_105_10.1, rfl⟩
theorem zd_14_105_11 : zz_D zy_network_14_105 11 (.istore_n 1) 1 12 := ⟨zq_60 zg_14_105_10.2.1, rfl⟩
theorem zd_14_105_12 : zz_D zy_network_14_105 12 (.iconst 0) 1 13 := ⟨zq_3 zg_14_105_10.2.2.1, rfl⟩
theorem zd_14_105_13 : zz_D zy_network_14_105 13 (.istore_n 2) 1 14 := ⟨zq_61 zg_14_105_10.2.2.2.1, rfl⟩
theorem zd_14_105_14 : zz_D zy_network_14_105 14 (.iconst 0) 1 15 := ⟨zq_3 zg_14_105_10.2.2.2.2.1, rfl⟩
theorem zd_14_105_15 : zz_D zy_network_14_105 15 (.istore_n 3) 1 16 := ⟨zq_62 zg_14_105_10.2.2.2.2.2.1, rfl⟩
theorem zd_14_105_16 : zz_D zy_network_14_105 16 (.iconst 1) 1 17 := ⟨zq_4 zg_14_105_10.2.2.2.2.2.2.1, rfl⟩
theorem zd_14_105_17 : zz_D zy_network_14_105 17 (.istore 4) 2 19 := ⟨zq_54 zg_14_105_10.2.2.2.2.2.2.2.1 zg_14_105_10.2.2.2.2.2.2.2.2.1, rfl⟩
theorem zd_14_105_19 : zz_D zy_network_14_105 19 (.iload_n 3) 1 20 := ⟨zq_29 zg_14_105_10.2.2.2.2.2.2.2.2.2.1, rfl⟩
theorem zd_14_105_20 : zz_D zy_network_14_105 20 (.aload_n 0) 1 21 := ⟨zq_42 zg_14_105_10.2.2.2.2.2.2.2.2.2.2.1, rfl⟩
theorem zd_14_105_21 : zz_D zy_network_14_105 21 (.getfield 331) 3 24 := ⟨zq_180 zg_14_105_10.2.2.2.2.2.2.2.2.2.2.2.1 zg_14_105_10.2.2.2.2.2.2.2.2.2.2.2.2.1 zg_14_105_10.2.2.2.2.2.2.2.2.2.2.2.2.2.1 rfl, rfl⟩
theorem zd_14_105_24 : zz_B zy_network_14_105 24 (Instr.if_icmp .gt) 149 27 := ⟨125, zq_163 zg_14_105_10.2.2.2.2.2.2.2.2.2.2.2.2.2.2.1 zg_14_105_10.2.2.2.2.2.2.2.2.2.2.2.2.2.2.2.1 zg_14_105_10.2.2.2.2.2.2.2.2.2.2.2.2.2.2.2.2.1 (by decide), rfl, rfl⟩
theorem zd_14_105_149 : zz_D zy_network_14_105 149 (.aload_n 0) 1 150 := ⟨zq_42 zg_14_105_10.2.2.2.2.2.2.2.2.2.2.2.2.2.2.2.2.2.1, rfl⟩
theorem zd_14_105_150 : zz_D zy_network_14_105 150 (.iconst 0) 1 151 := ⟨zq_3 zg_14_105_10.2.2.2.2.2.2.2.2.2.2.2.2.2.2.2.2.2.2.1, rfl⟩
theorem zd_14_105_151 : zz_D zy_network_14_105 151 (.putfield 187) 3 154 := ⟨zq_181 zg_14_105_10.2.2.2.2.2.2.2.2.2.2.2.2.2.2.2.2.2.2.2.1 zg_14_105_10.2.2.2.2.2.2.2.2.2.2.2.2.2.2.2.2.2.2.2.2.1 zg_14_105_10.2.2.2.2.2.2.2.2.2.2.2.2.2.2.2.2.2.2.2.2.2.1 rfl, rfl⟩
theorem zd_14_105_154 : zz_D zy_network_14_105 154 (.iload 4) 2 156 := ⟨zq_21 zg_14_105_10.2.2.2.2.2.2.2.2.2.2.2.2.2.2.2.2.2.2.2.2.2.2.1 zg_14_105_10.2.2.2.2.2.2.2.2.2.2.2.2.2.2.2.2.2.2.2.2.2.2.2, rfl⟩
theorem zg_14_105_156 : zq_at zy_network_14_105.2.1 156 153 ∧ zq_at zy_network_14_105.2.1 157 0 ∧ zq_at zy_network_14_105.2.1 158 9 ∧ zq_at zy_network_14_105.2.1 165 42 ∧ zq_at zy_network_14_105.2.1 166 4 ∧ zq_at zy_network_14_105.2.1 167 182 ∧ zq_at zy_network_14_105.2.1 168 2 ∧ zq_at zy_network_14_105.2.1 169 83 := by decide +kernel
theorem zd_14_105_156 : zz_B zy_network_14_105 156 (Instr.ifCond .eq) 165 159 := ⟨9, zq_153 zg_14_105_156.1 zg_14_105_156.2.1 zg_14_105_156.2.2.1 (by decide), rfl, rfl⟩
theorem zd_14_105_165 : zz_D zy_network_14_105 165 (.aload_n 0) 1 166 := ⟨zq_42 zg_14_105_156.2.2.2.1, rfl⟩
theorem zd_14_105_166 : zz_D zy_network_14_105 166 (.iconst 1) 1 167 := ⟨zq_4 zg_14_105_156.2.2.2.2.1, rfl⟩
theorem zd_14_105_167 : zz_D zy_network_14_105 167 (.invokevirtual 595) 3 170 := ⟨zq_182 zg_14_105_156.2.2.2.2.2.1 zg_14_105_156.2.2.2.2.2.2.1 zg_14_105_156.2.2.2.2.2.2.2 rfl, rfl⟩
theorem zg_14_91_5 : zq_at zy_keepNetwork_14_91.2.1 5 42 ∧ zq_at zy_keepNetwork_14_91.2.1 6 180 ∧ zq_at zy_keepNetwork_14_91.2.1 7 2 ∧ zq_at zy_keepNetwork_14_91.2.1 8 3 ∧ zq_at zy_keepNetwork_14_91.2.1 9 167 ∧ zq_at zy_keepNetwork_14_91.2.1 10 0 ∧ zq_at zy_keepNetwork_14_91.2.1 11 7 := by decide +kernel
theorem zd_14_91_5 : zz_D zy_keepNetwork_14_91 5 (.aload_n 0) 1 6 := ⟨zq_42 zg_14_91_5.1, rfl⟩
theorem zd_14_91_6 : zz_D zy_keepNetwork_14_91 6 (.getfield 515) 3 9 := ⟨zq_180 zg_14_91_5.2.1 zg_14_91_5.2.2.1 zg_14_91_5.2.2.2.1 rfl, rfl⟩
theorem zd_14_91_9 : zz_B zy_keepNetwork_14_91 9 Instr.goto 16 12 := ⟨7, zq_167 zg_14_91_5.2.2.2.2.1 zg_14_91_5.2.2.2.2.2.1 zg_14_91_5.2.2.2.2.2.2 (by decide), rfl, rfl⟩
theorem zg_14_92_14 : zq_at zy_keepRow_14_92.2.1 14 43 ∧ zq_at zy_keepRow_14_92.2.1 15 21 ∧ zq_at zy_keepRow_14_92.2.1 16 5 ∧ zq_at zy_keepRow_14_92.2.1 17 42 ∧ zq_at zy_keepRow_14_92.2.1 18 180 ∧ zq_at zy_keepRow_14_92.2.1 19 0 ∧ zq_at zy_keepRow_14_92.2.1 20 139 ∧ zq_at zy_keepRow_14_92.2.1 21 29 ∧ zq_at zy_keepRow_14_92.2.1 22 21 ∧ zq_at zy_keepRow_14_92.2.1 23 5 ∧ zq_at zy_keepRow_14_92.2.1 24 96 ∧ zq_at zy_keepRow_14_92.2.1 25 46 ∧ zq_at zy_keepRow_14_92.2.1 26 79 ∧ zq_at zy_keepRow_14_92.2.1 27 167 ∧ zq_at zy_keepRow_14_92.2.1 28 0 ∧ zq_at zy_keepRow_14_92.2.1 29 16 := by decide +kernel
theorem zd_14_92_14 : zz_D zy_keepRow_14_92 14 (.aload_n 1) 1 15 := ⟨zq_43 zg_14_92_14.1, rfl⟩
theorem zd_14_92_15 : zz_D zy_keepRow_14_92 15 (.iload 5) 2 17 := ⟨zq_21 zg_14_92_14.2.1 zg_14_92_14.2.2.1, rfl⟩
theorem zd_14_92_17 : zz_D zy_keepRow_14_92 17 (.aload_n 0) 1 18 := ⟨zq_42 zg_14_92_14.2.2.2.1, rfl⟩
theorem zd_14_92_18 : zz_D zy_keepRow_14_92 18 (.getfield 139) 3 21 := ⟨zq_180 zg_14_92_14.2.2.2.2.1 zg_14_92_14.2.2.2.2.2.1 zg_14_92_14.2.2.2.2.2.2.1 rfl, rfl⟩
theorem zd_14_92_21 : zz_D zy_keepRow_14_92 21 (.iload_n 3) 1 22 := ⟨zq_29 zg_14_92_14.2.2.2.2.2.2.2.1, rfl⟩
theorem zd_14_92_22 : zz_D zy_keepRow_14_92 22 (.iload 5) 2 24 := ⟨zq_21 zg_14_92_14.2.2.2.2.2.2.2.2.1 zg_14_92_14.2.2.2.2.2.2.2.2.2.1, rfl⟩
theorem zd_14_92_24 : zz_D zy_keepRow_14_92 24 (.iadd) 1 25 := ⟨zq_96 zg_14_92_14.2.2.2.2.2.2.2.2.2.2.1, rfl⟩
theorem zd_14_92_25 : zz_D zy_keepRow_14_92 25 (.iaload) 1 26 := ⟨zq_46 zg_14_92_14.2.2.2.2.2.2.2.2.2.2.2.1, rfl⟩
theorem zd_14_92_26 : zz_D zy_keepRow_14_92 26 (.iastore) 1 27 := ⟨zq_79 zg_14_92_14.2.2.2.2.2.2.2.2.2.2.2.2.1, rfl⟩
theorem zd_14_92_27 : zz_B zy_keepRow_14_92 27 Instr.goto 43 30 := ⟨16, zq_167 zg_14_92_14.2.2.2.2.2.2.2.2.2.2.2.2.2.1 zg_14_92_14.2.2.2.2.2.2.2.2.2.2.2.2.2.2.1 zg_14_92_14.2.2.2.2.2.2.2.2.2.2.2.2.2.2.2 (by decide), rfl, rfl⟩

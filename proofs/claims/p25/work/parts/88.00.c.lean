-- TensorForge$Machine narrowed (II)B
abbrev zr_narrowed_6_19 : Room := { frames := 1, cells := 0, slots := 0, locals := 17 }
def zp_narrowed_6_19 (p0 : Int) (p1 : Int) (S0 : zz_S) : Int → zz_S → Prop := fun r S => S0 = S ∧ ((-128) ≤ r ∧ r ≤ 127)
theorem zc_narrowed_6_19 {g : mm_G} {l : Launch} (p0 : Int) (p1 : Int) (S0 : zz_S) (n : Nat) (hn : zz_end ≤ n) (G_S0 : zz_G S0) (hp0 : (-2147483648) ≤ p0 ∧ p0 ≤ 2147483647) (hp1 : (-2147483648) ≤ p1 ∧ p1 ≤ 2147483647) : mm_Met g l zy_narrowed_6_19 zr_narrowed_6_19 [zi p0, zi p1] (zz_M S0 n) n (zz_QI n (zp_narrowed_6_19 p0 p1 S0)) := by
  refine zz_enter (by decide) (Nat.le_of_ble_eq_true rfl) (zz_less (ls1 := [some (zi p0), some (zi p1)]) ⟨rfl, ⟨rfl, trivial⟩⟩ ?_)
  refine zz_iload_n (x := p1) rfl zd_6_19_0 ?_
  refine zz_bipush (by decide) zd_6_19_1 ?_
  refine zz_iand (by omega) (by omega) zd_6_19_3 (fun v1 hv1 av1 bv1 ev1 => ?_)
  refine zz_istore_n [some (zi p0), some (zi p1), some (zi v1)] zd_6_19_4 (by decide) rfl ?_
  refine zz_iload_n (x := p0) rfl zd_6_19_5 ?_
  refine zz_i2l (by omega) zd_6_19_6 ?_
  refine zz_lstore_n [some (zi p0), some (zi p1), some (zi v1), some (zl p0), none] zd_6_19_7 (by decide) rfl ?_
  refine zz_iload_n (x := v1) rfl zd_6_19_8 ?_
  refine zz_if_le (by omega) zd_6_19_9 (fun c2 => ?_) (fun c2 => ?_)
  · refine zz_ldc2 (z := (-128)) zq_Machine_145 (by decide) zd_6_19_22 ?_
    refine zz_ldc2 (z := 127) zq_Machine_147 (by decide) zd_6_19_25 ?_
    refine zz_lload_n (x := p0) rfl zd_6_19_28 ?_
    refine zz_mminl (by omega) (by omega) zd_6_19_29 zm_Machine_149 ⟨Nat.le_of_ble_eq_true rfl, Nat.le_of_ble_eq_true rfl⟩ (Nat.zero_le _) (Nat.zero_le _) (fun v3 hv3 => ?_)
    refine zz_mmaxl (by omega) (by omega) zd_6_19_32 zm_Machine_153 ⟨Nat.le_of_ble_eq_true rfl, Nat.le_of_ble_eq_true rfl⟩ (Nat.zero_le _) (Nat.zero_le _) (fun v4 hv4 => ?_)
    refine zz_lstore_n [some (zi p0), some (zi p1), some (zi v1), some (zl v4), none] zd_6_19_35 (by decide) rfl ?_
    refine zz_iload_n (x := p1) rfl zd_6_19_36 ?_
    refine zz_bipush (by decide) zd_6_19_37 ?_
    refine zz_icmp_lt (by omega) (by omega) zd_6_19_39 (fun c5 => ?_) (fun c5 => ?_)
    · refine zz_lload_n (x := v4) rfl zd_6_19_50 ?_
      refine zz_l2i (by omega) zd_6_19_51 (fun v6 hv6 av6 ev6 => ?_)
      refine zz_i2b zd_6_19_52 (fun v7 hv7 => ?_)
      exact zz_bret zd_6_19_53 rfl (by omega) (Nat.zero_le _) (Nat.zero_le _) ⟨_, _, rfl, rfl, by omega⟩
    · refine zz_lload_n (x := v4) rfl zd_6_19_42 ?_
      refine zz_lconst (z := 0) (by decide) zd_6_19_43 ?_
      refine zz_lcmp (by omega) (by omega) zd_6_19_44 (fun v8 hv8 => ?_)
      refine zz_if_ge (by omega) zd_6_19_45 (fun c9 => ?_) (fun c9 => ?_)
      · refine zz_lload_n (x := v4) rfl zd_6_19_50 ?_
        refine zz_l2i (by omega) zd_6_19_51 (fun v10 hv10 av10 ev10 => ?_)
        refine zz_i2b zd_6_19_52 (fun v11 hv11 => ?_)
        exact zz_bret zd_6_19_53 rfl (by omega) (Nat.zero_le _) (Nat.zero_le _) ⟨_, _, rfl, rfl, by omega⟩
      · refine zz_lconst (z := 0) (by decide) zd_6_19_48 ?_
        refine zz_lstore_n [some (zi p0), some (zi p1), some (zi v1), some (zl 0), none] zd_6_19_49 (by decide) rfl ?_
        refine zz_lload_n (x := 0) rfl zd_6_19_50 ?_
        refine zz_l2i (by omega) zd_6_19_51 (fun v12 hv12 av12 ev12 => ?_)
        refine zz_i2b zd_6_19_52 (fun v13 hv13 => ?_)
        exact zz_bret zd_6_19_53 rfl (by omega) (Nat.zero_le _) (Nat.zero_le _) ⟨_, _, rfl, rfl, by omega⟩
  · refine zz_lload_n (x := p0) rfl zd_6_19_12 ?_
    refine zz_lconst (z := 1) (by decide) zd_6_19_13 ?_
    refine zz_iload_n (x := v1) rfl zd_6_19_14 ?_
    refine zz_iconst zd_6_19_15 ?_
    refine zz_isub zd_6_19_16 ?_
    refine zz_lshl zd_6_19_17 (fun v14 hv14 ev14 => ?_)
    refine zz_ladd zd_6_19_18 ?_
    refine zz_nrml (fun v15 hv15 ev15 => ?_)
    refine zz_iload_n (x := v1) rfl zd_6_19_19 ?_
    refine zz_lshr zd_6_19_20 (fun v16 hv16 ev16 => ?_)
    refine zz_lstore_n [some (zi p0), some (zi p1), some (zi v1), some (zl v16), none] zd_6_19_21 (by decide) rfl ?_
    refine zz_ldc2 (z := (-128)) zq_Machine_145 (by decide) zd_6_19_22 ?_
    refine zz_ldc2 (z := 127) zq_Machine_147 (by decide) zd_6_19_25 ?_
    refine zz_lload_n (x := v16) rfl zd_6_19_28 ?_
    refine zz_mminl (by omega) (by omega) zd_6_19_29 zm_Machine_149 ⟨Nat.le_of_ble_eq_true rfl, Nat.le_of_ble_eq_true rfl⟩ (Nat.zero_le _) (Nat.zero_le _) (fun v17 hv17 => ?_)
    refine zz_mmaxl (by omega) (by omega) zd_6_19_32 zm_Machine_153 ⟨Nat.le_of_ble_eq_true rfl, Nat.le_of_ble_eq_true rfl⟩ (Nat.zero_le _) (Nat.zero_le _) (fun v18 hv18 => ?_)
    refine zz_lstore_n [some (zi p0), some (zi p1), some (zi v1), some (zl v18), none] zd_6_19_35 (by decide) rfl ?_
    refine zz_iload_n (x := p1) rfl zd_6_19_36 ?_
    refine zz_bipush (by decide) zd_6_19_37 ?_
    refine zz_icmp_lt (by omega) (by omega) zd_6_19_39 (fun c19 => ?_) (fun c19 => ?_)
    · refine zz_lload_n (x := v18) rfl zd_6_19_50 ?_
      refine zz_l2i (by omega) zd_6_19_51 (fun v20 hv20 av20 ev20 => ?_)
      refine zz_i2b zd_6_19_52 (fun v21 hv21 => ?_)
      exact zz_bret zd_6_19_53 rfl (by omega) (Nat.zero_le _) (Nat.zero_le _) ⟨_, _, rfl, rfl, by omega⟩
    · refine zz_lload_n (x := v18) rfl zd_6_19_42 ?_
      refine zz_lconst (z := 0) (by decide) zd_6_19_43 ?_
      refine zz_lcmp (by omega) (by omega) zd_6_19_44 (fun v22 hv22 => ?_)
      refine zz_if_ge (by omega) zd_6_19_45 (fun c23 => ?_) (fun c23 => ?_)
      · refine zz_lload_n (x := v18) rfl zd_6_19_50 ?_
        refine zz_l2i (by omega) zd_6_19_51 (fun v24 hv24 av24 ev24 => ?_)
        refine zz_i2b zd_6_19_52 (fun v25 hv25 => ?_)
        exact zz_bret zd_6_19_53 rfl (by omega) (Nat.zero_le _) (Nat.zero_le _) ⟨_, _, rfl, rfl, by omega⟩
      · refine zz_lconst (z := 0) (by decide) zd_6_19_48 ?_
        refine zz_lstore_n [some (zi p0), some (zi p1), some (zi v1), some (zl 0), none] zd_6_19_49 (by decide) rfl ?_
        refine zz_lload_n (x := 0) rfl zd_6_19_50 ?_
        refine zz_l2i (by omega) zd_6_19_51 (fun v26 hv26 av26 ev26 => ?_)
        refine zz_i2b zd_6_19_52 (fun v27 hv27 => ?_)
        exact zz_bret zd_6_19_53 rfl (by omega) (Nat.zero_le _) (Nat.zero_le _) ⟨_, _, rfl, rfl, by omega⟩
theorem zk_Machine_141 : mm_Sl "TensorForge$Machine" 141 2 zy_narrowed_6_19 := ⟨zyw_narrowed_6_19, mm_tb_1 826 (by decide +kernel) rfl, mm_tb_1 827 (by decide +kernel) rfl⟩
theorem zg_6_17_62 : zq_at zy_narrow_6_17.2.1 62 84 ∧ zq_at zy_narrow_6_17.2.1 63 132 ∧ zq_at zy_narrow_6_17.2.1 64 2 ∧ zq_at zy_narrow_6_17.2.1 65 1 ∧ zq_at zy_narrow_6_17.2.1 66 167 ∧ zq_at zy_narrow_6_17.2.1 67 255 ∧ zq_at zy_narrow_6_17.2.1 68 202 := by decide +kernel
theorem zd_6_17_62 : zz_D zy_narrow_6_17 62 (.bastore) 1 63 := ⟨zq_84 zg_6_17_62.1, rfl⟩
theorem zd_6_17_63 : zz_D zy_narrow_6_17 63 (.iinc 2 1) 3 66 := ⟨zq_132 zg_6_17_62.2.1 zg_6_17_62.2.2.1 zg_6_17_62.2.2.2.1 (by decide), rfl⟩
theorem zd_6_17_66 : zz_B zy_narrow_6_17 66 Instr.goto 12 69 := ⟨(-54), zq_167 zg_6_17_62.2.2.2.2.1 zg_6_17_62.2.2.2.2.2.1 zg_6_17_62.2.2.2.2.2.2 (by decide), rfl, rfl⟩
-- TensorForge$Machine narrow ()V
abbrev zr_narrow_6_17 : Room := { frames := 2, cells := 0, slots := 0, locals := 35 }
def zp_narrow_6_17  (S0 : zz_S) : zz_S → Prop := fun S => zz_G S ∧ zz_fr [] [1036] (fun _ _ => False) S0 S
theorem zb_narrow_6_17_2 {g : mm_G} {l : Launch}  (S0 : zz_S) (n : Nat) (hn : zz_end ≤ n) (G_S0 : zz_G S0) (hl : zz_lc 7 (S0 1031 7) (S0 1031 8) (S0 1031 9) (S0 1031 10) (S0 1031 11) (S0 1031 12) (S0 1031 13) (S0 1031 6)) (x1 : Int) (S : zz_S) (G_S : zz_G S) (F_S : zz_fr [] [1036] (fun _ _ => False) S0 S) (i2_0 : 0 ≤ x1 ∧ x1 ≤ 63) (R : Nat) (hR : (34359738368 + (S0 1031 8 - x1).toNat) * 1099511627776 + 1099511627775 = R) (k12 : ∀ (x1 : Int) (x2 : Int) (S : zz_S), zz_G S → zz_fr [] [1036] (fun _ _ => False) S0 S → (0 ≤ x1 ∧ x1 ≤ 62) → (0 ≤ x2 ∧ x2 ≤ 31) → (0 ≤ x1 ∧ x1 ≤ 63) → (x1 < S0 1031 8) → (34359738368 + (S0 1031 8 - x1).toNat) * 1099511627776 + (17179869184 + (S0 1031 9 - x2).toNat) < R → zz_E g l zy_narrow_6_17 zr_narrow_6_17 (zz_QV n (zp_narrow_6_17  S0)) S n 12 [some (.ref 1031), some (zi x1), some (zi x2)] [] 0 0) : zz_E g l zy_narrow_6_17 zr_narrow_6_17 (zz_QV n (zp_narrow_6_17  S0)) S n 2 [some (.ref 1031), some (zi x1)] [] 0 0 := by
  refine zz_iload_n (x := x1) rfl zd_6_17_2 ?_
  refine zz_aload_n (x := 1031) rfl zd_6_17_3 ?_
  have g2 := zz_G.r G_S0 1031 8 0 63 rfl rfl
  refine zz_geti (z := S0 1031 8) zd_6_17_4 zf_Machine_113 zT_1031 rfl (zz_ltn hn rfl) (zz_rc F_S rfl rfl (fun h => h) rfl) ?_
  refine zz_icmp_ge (by omega) (by omega) zd_6_17_7 (fun c3 => ?_) (fun c3 => ?_)
  · exact zz_vret zd_6_17_75 rfl (Nat.zero_le _) (Nat.zero_le _) ⟨_, rfl, G_S, F_S⟩
  · refine zz_iconst zd_6_17_10 ?_
    refine zz_istore_n [some (.ref 1031), some (zi x1), some (zi 0)] zd_6_17_11 (by decide) rfl ?_
    have g4 := zz_G.r G_S0 1031 9 0 31 rfl rfl
    refine zz_less (ls1 := [some (.ref 1031), some (zi x1), some (zi 0)]) ⟨rfl, ⟨rfl, ⟨rfl, trivial⟩⟩⟩ ?_
    exact k12 x1 0 S G_S F_S (by omega) (by omega) (by omega) (by omega) (by omega)
theorem zb_narrow_6_17_12 {g : mm_G} {l : Launch}  (S0 : zz_S) (n : Nat) (hn : zz_end ≤ n) (G_S0 : zz_G S0) (hl : zz_lc 7 (S0 1031 7) (S0 1031 8) (S0 1031 9) (S0 1031 10) (S0 1031 11) (S0 1031 12) (S0 1031 13) (S0 1031 6)) (x1 : Int) (x2 : Int) (S : zz_S) (G_S : zz_G S) (F_S : zz_fr [] [1036] (fun _ _ => False) S0 S) (i12_0 : 0 ≤ x1 ∧ x1 ≤ 62) (i12_1 : 0 ≤ x2 ∧ x2 ≤ 31) (i12_2 : 0 ≤ x1 ∧ x1 ≤ 63) (i12_3 : x1 < S0 1031 8) (R : Nat) (hR : (34359738368 + (S0 1031 8 - x1).toNat) * 1099511627776 + (17179869184 + (S0 1031 9 - x2).toNat) = R) (k2 : ∀ (x1 : Int) (S : zz_S), zz_G S → zz_fr [] [1036] (fun _ _ => False) S0 S → (0 ≤ x1 ∧ x1 ≤ 63) → (34359738368 + (S0 1031 8 - x1).toNat) * 1099511627776 + 1099511627775 < R → zz_E g l zy_narrow_6_17 zr_narrow_6_17 (zz_QV n (zp_narrow_6_17  S0)) S n 2 [some (.ref 1031), some (zi x1)] [] 0 0) (k12 : ∀ (x1 : Int) (x2 : Int) (S : zz_S), zz_G S → zz_fr [] [1036] (fun _ _ => False) S0 S → (0 ≤ x1 ∧ x1 ≤ 62) → (0 ≤ x2 ∧ x2 ≤ 31) → (0 ≤ x1 ∧ x1 ≤ 63) → (x1 < S0 1031 8) → (34359738368 + (S0 1031 8 - x1).toNat) * 1099511627776 + (17179869184 + (S0 1031 9 - x2).toNat) < R → zz_E g l zy_narrow_6_17 zr_narrow_6_17 (zz_QV n (zp_narrow_6_17  S0)) S n 12 [some (.ref 1031), some (zi x1), some (zi x2)] [] 0 0) : zz_E g l zy_narrow_6_17 zr_narrow_6_17 (zz_QV n (zp_narrow_6_17  S0)) S n 12 [some (.ref 1031), some (zi x1), some (zi x2)] [] 0 0 := by
  have l0 := hl
  unfold zz_lc at l0
  have lk := l0.2.2.2.2.2.2.2.2.1 rfl
  have l2 := l0.2.1 (by decide)
  clear l0
  have gS := zz_G.r G_S0 1031 6 2 8 rfl rfl
  have gT := zz_G.r G_S0 1031 12 0 1023 rfl rfl
  have m1 : x1 * S0 1031 6 ≤ (S0 1031 8 - 1) * S0 1031 6 := Int.mul_le_mul_of_nonneg_right (by omega) (by omega)
  have m2 : x1 * S0 1031 12 ≤ (S0 1031 8 - 1) * S0 1031 12 := Int.mul_le_mul_of_nonneg_right (by omega) (by omega)
  refine zz_iload_n (x := x2) rfl zd_6_17_12 ?_
  refine zz_aload_n (x := 1031) rfl zd_6_17_13 ?_
  have g5 := zz_G.r G_S0 1031 9 0 31 rfl rfl
  refine zz_geti (z := S0 1031 9) zd_6_17_14 zf_Machine_116 zT_1031 rfl (zz_ltn hn rfl) (zz_rc F_S rfl rfl (fun h => h) rfl) ?_
  refine zz_icmp_ge (by omega) (by omega) zd_6_17_17 (fun c6 => ?_) (fun c6 => ?_)
  · refine zz_iinc [some (.ref 1031), some (zi (x1 + 1)), some (zi x2)] zd_6_17_69 rfl rfl ?_
    refine zz_goto zd_6_17_72 ?_
    have g7 := zz_G.r G_S0 1031 8 0 63 rfl rfl
    refine zz_less (ls1 := [some (.ref 1031), some (zi (x1 + 1))]) ⟨rfl, ⟨rfl, trivial⟩⟩ ?_
    exact k2 (x1 + 1) S G_S F_S (by omega) (by omega)
  · refine zz_aload_n (x := 1031) rfl zd_6_17_20 ?_
    refine zz_getr (kd := 0) (z := 1036) zd_6_17_21 zf_Machine_28 zT_1031 rfl (zz_ltn hn rfl) (zz_G.eq G_S 1031 4 1036 rfl rfl) (by decide) 1036 rfl ?_
    refine zz_aload_n (x := 1031) rfl zd_6_17_24 ?_
    have g8 := zz_G.r G_S0 1031 11 0 511 rfl rfl
    refine zz_geti (z := S0 1031 11) zd_6_17_25 zf_Machine_122 zT_1031 rfl (zz_ltn hn rfl) (zz_rc F_S rfl rfl (fun h => h) rfl) ?_
    refine zz_iload_n (x := x1) rfl zd_6_17_28 ?_
    refine zz_aload_n (x := 1031) rfl zd_6_17_29 ?_
    have g9 := zz_G.r G_S0 1031 6 2 8 rfl rfl
    refine zz_geti (z := S0 1031 6) zd_6_17_30 zf_Machine_36 zT_1031 rfl (zz_ltn hn rfl) (zz_rc F_S rfl rfl (fun h => h) rfl) ?_
    refine zz_imul zd_6_17_33 ?_
    have m10 := zz_mulb (a := x1) (b := S0 1031 6) 62 8 496 (by omega) (by omega) (by decide)
    refine zz_iadd zd_6_17_34 ?_
    refine zz_iload_n (x := x2) rfl zd_6_17_35 ?_
    refine zz_iadd zd_6_17_36 ?_
    refine zz_aload_n (x := 1031) rfl zd_6_17_37 ?_
    refine zz_getr (kd := 0) (z := 1035) zd_6_17_38 zf_Machine_25 zT_1031 rfl (zz_ltn hn rfl) (zz_G.eq G_S 1031 3 1035 rfl rfl) (by decide) 1035 rfl ?_
    refine zz_aload_n (x := 1031) rfl zd_6_17_41 ?_
    have g11 := zz_G.r G_S0 1031 10 0 511 rfl rfl
    refine zz_geti (z := S0 1031 10) zd_6_17_42 zf_Machine_119 zT_1031 rfl (zz_ltn hn rfl) (zz_rc F_S rfl rfl (fun h => h) rfl) ?_
    refine zz_iload_n (x := x1) rfl zd_6_17_45 ?_
    refine zz_aload_n (x := 1031) rfl zd_6_17_46 ?_
    refine zz_geti (z := S0 1031 6) zd_6_17_47 zf_Machine_36 zT_1031 rfl (zz_ltn hn rfl) (zz_rc F_S rfl rfl (fun h => h) rfl) ?_
    refine zz_imul zd_6_17_50 ?_
    have m12 := zz_mulb (a := x1) (b := S0 1031 6) 62 8 496 (by omega) (by omega) (by decide)
    refine zz_iadd zd_6_17_51 ?_
    refine zz_iload_n (x := x2) rfl zd_6_17_52 ?_
    refine zz_iadd zd_6_17_53 ?_
    have g13 := zz_G.r G_S0 1035 ((((S0 1031 10) + (x1 * (S0 1031 6))) + x2).toNat) (-2147483648) 2147483647 rfl rfl
    refine zz_iald (z := S0 1035 ((((S0 1031 10) + (x1 * (S0 1031 6))) + x2).toNat)) zd_6_17_54 zT_1035 rfl (zz_ltn hn rfl) (by decide) (by omega) (zz_rc F_S (zz_nc1 rfl) rfl (fun h => h) rfl) ?_
    refine zz_aload_n (x := 1031) rfl zd_6_17_55 ?_
    have g14 := zz_G.r G_S0 1031 13 0 31 rfl rfl
    refine zz_geti (z := S0 1031 13) zd_6_17_56 zf_Machine_128 zT_1031 rfl (zz_ltn hn rfl) (zz_rc F_S rfl rfl (fun h => h) rfl) ?_
    refine zz_callSI [zi (S0 1035 ((((S0 1031 10) + (x1 * (S0 1031 6))) + x2).toNat)), zi (S0 1031 13)] zd_6_17_59 zk_Machine_141 rfl rfl ⟨Nat.le_of_ble_eq_true rfl, Nat.le_of_ble_eq_true rfl⟩ ⟨rfl, rfl⟩ (Nat.zero_le _) (Nat.zero_le _) (zc_narrowed_6_19 (S0 1035 ((((S0 1031 10) + (x1 * (S0 1031 6))) + x2).toNat)) (S0 1031 13) S n hn G_S (by omega) (by omega)) (fun v16 S15 hP => ?_)
    obtain ⟨rfl, o17⟩ := hP
    refine zz_bast zd_6_17_62 zT_1036 rfl (zz_ltn hn rfl) (by decide) (by omega) (by omega) (fun S18 qS18 => ?_)
    have G_S18 := zz_G.put G_S qS18 (-128) 127 rfl (by omega)
    have F_S18 := zz_fr.putc F_S qS18 rfl
    refine zz_iinc [some (.ref 1031), some (zi x1), some (zi (x2 + 1))] zd_6_17_63 rfl rfl ?_
    refine zz_goto zd_6_17_66 ?_
    have g19 := zz_G.r G_S0 1031 8 0 63 rfl rfl
    refine zz_less (ls1 := [some (.ref 1031), some (zi x1), some (zi (x2 + 1))]) ⟨rfl, ⟨rfl, ⟨rfl, trivial⟩⟩⟩ ?_
    exact k12 x1 (x2 + 1) S18 G_S18 F_S18 (by omega) (by omega) (by omega) (by omega) (by omega)
theorem zi_narrow_6_17 {g : mm_G} {l : Launch}  (S0 : zz_S) (n : Nat) (hn : zz_end ≤ n) (G_S0 : zz_G S0) (hl : zz_lc 7 (S0 1031 7) (S0 1031 8) (S0 1031 9) (S0 1031 10) (S0 1031 11) (S0 1031 12) (S0 1031 13) (S0 1031 6)) : ∀ N : Nat, (∀ (x1 : Int) (S : zz_S), zz_G S → zz_fr [] [1036] (fun _ _ => False) S0 S → (0 ≤ x1 ∧ x1 ≤ 63) → (34359738368 + (S0 1031 8 - x1).toNat) * 1099511627776 + 1099511627775 < N → zz_E g l zy_narrow_6_17 zr_narrow_6_17 (zz_QV n (zp_narrow_6_17  S0)) S n 2 [some (.ref 1031), some (zi x1)] [] 0 0) ∧ (∀ (x1 : Int) (x2 : Int) (S : zz_S), zz_G S → zz_fr [] [1036] (fun _ _ => False) S0 S → (0 ≤ x1 ∧ x1 ≤ 62) → (0 ≤ x2 ∧ x2 ≤ 31) → (0 ≤ x1 ∧ x1 ≤ 63) → (x1 < S0 1031 8) → (34359738368 + (S0 1031 8 - x1).toNat) * 1099511627776 + (17179869184 + (S0 1031 9 - x2).toNat) < N → zz_E g l zy_narrow_6_17 zr_narrow_6_17 (zz_QV n (zp_narrow_6_17  S0)) S n 12 [some (.ref 1031), some (zi x1), some (zi x2)] [] 0 0) := by
  intro N
  induction N with
  | zero => exact ⟨fun x1 S _ _ _ h => absurd h (Nat.not_lt_zero _), fun x1 x2 S _ _ _ _ _ _ h => absurd h (Nat.not_lt_zero _)⟩
  | succ N ih =>
    exact ⟨fun x1 S a b j0 hR => zb_narrow_6_17_2  S0 n hn G_S0 hl x1 S a b j0 _ rfl (fun x1 x2 S a b j0 j1 j2 j3 h => ih.2 x1 x2 S a b j0 j1 j2 j3 (Nat.lt_of_lt_of_le h (Nat.le_of_lt_succ hR))),
      fun x1 x2 S a b j0 j1 j2 j3 hR => zb_narrow_6_17_12  S0 n hn G_S0 hl x1 x2 S a b j0 j1 j2 j3 _ rfl (fun x1 S a b j0 h => ih.1 x1 S a b j0 (Nat.lt_of_lt_of_le h (Nat.le_of_lt_succ hR))) (fun x1 x2 S a b j0 j1 j2 j3 h => ih.2 x1 x2 S a b j0 j1 j2 j3 (Nat.lt_of_lt_of_le h (Nat.le_of_lt_succ hR)))⟩
theorem zc_narrow_6_17 {g : mm_G} {l : Launch}  (S0 : zz_S) (n : Nat) (hn : zz_end ≤ n) (G_S0 : zz_G S0) (hl : zz_lc 7 (S0 1031 7) (S0 1031 8) (S0 1031 9) (S0 1031 10) (S0 1031 11) (S0 1031 12) (S0 1031 13) (S0 1031 6)) : mm_Met g l zy_narrow_6_17 zr_narrow_6_17 [.ref 1031] (zz_M S0 n) n (zz_QV n (zp_narrow_6_17  S0)) := by
  refine zz_enter (by decide) (Nat.le_of_ble_eq_true rfl) (zz_less (ls1 := [some (.ref 1031)]) ⟨rfl, trivial⟩ ?_)
  have F_S0 : zz_fr [] [1036] (fun _ _ => False) S0 S0 := zz_fr.refl
  have k2 : ∀ (x1 : Int) (S : zz_S), zz_G S → zz_fr [] [1036] (fun _ _ => False) S0 S → (0 ≤ x1 ∧ x1 ≤ 63) → zz_E g l zy_narrow_6_17 zr_narrow_6_17 (zz_QV n (zp_narrow_6_17  S0)) S n 2 [some (.ref 1031), some (zi x1)] [] 0 0 := fun x1 S a b j0 => (zi_narrow_6_17 (g := g) (l := l)  S0 n hn G_S0 hl _).1 x1 S a b j0 (Nat.lt_succ_self _)
  refine zz_iconst zd_6_17_0 ?_
  refine zz_istore_n [some (.ref 1031), some (zi 0)] zd_6_17_1 (by decide) rfl ?_
  have g1 := zz_G.r G_S0 1031 8 0 63 rfl rfl
  refine zz_less (ls1 := [some (.ref 1031), some (zi 0)]) ⟨rfl, ⟨rfl, trivial⟩⟩ ?_
  exact k2 0 S0 G_S0 F_S0 (by omega)
theorem zk_Machine_104 : mm_Vl "TensorForge$Machine" 104 3 0 zy_narrow_6_17 := ⟨zyw_narrow_6_17, (R_Machine, F_Machine, 14), rfl, mm_tb_1 822 (by decide +kernel) rfl, mm_tb_1 824 (by decide +kernel) rfl, mm_tb_s 33 (by decide +kernel) rfl⟩
abbrev zy_store_6_18 : mm_Y := (⟨"TensorForge$Machine", "store", "()V"⟩, prog_6_method_18_code, 3, none)
theorem zyw_store_6_18 : mm_Yw zy_store_6_18 0 := ⟨mm_tb_1 840 (by decide +kernel) rfl, mm_tb_1 4 (by decide +kernel) rfl, ⟨by decide, by decide⟩, by decide +kernel⟩
theorem zg_6_10_110 : zq_at zy_perform_6_10.2.1 110 167 ∧ zq_at zy_perform_6_10.2.1 111 0 ∧ zq_at zy_perform_6_10.2.1 112 10 ∧ zq_at zy_perform_6_10.2.1 113 42 ∧ zq_at zy_perform_6_10.2.1 114 182 ∧ zq_at zy_perform_6_10.2.1 115 0 ∧ zq_at zy_perform_6_10.2.1 116 107 := by decide +kernel
theorem zd_6_10_110 : zz_B zy_perform_6_10 110 Instr.goto 120 113 := ⟨10, zq_167 zg_6_10_110.1 zg_6_10_110.2.1 zg_6_10_110.2.2.1 (by decide), rfl, rfl⟩
theorem zd_6_10_113 : zz_D zy_perform_6_10 113 (.aload_n 0) 1 114 := ⟨zq_42 zg_6_10_110.2.2.2.1, rfl⟩
theorem zd_6_10_114 : zz_D zy_perform_6_10 114 (.invokevirtual 107) 3 117 := ⟨zq_182 zg_6_10_110.2.2.2.2.1 zg_6_10_110.2.2.2.2.2.1 zg_6_10_110.2.2.2.2.2.2 rfl, rfl⟩
theorem zg_6_18_0 : zq_at zy_store_6_18.2.1 0 3 ∧ zq_at zy_store_6_18.2.1 1 60 ∧ zq_at zy_store_6_18.2.1 2 27 ∧ zq_at zy_store_6_18.2.1 3 42 ∧ zq_at zy_store_6_18.2.1 4 180 ∧ zq_at zy_store_6_18.2.1 5 0 ∧ zq_at zy_store_6_18.2.1 6 113 ∧ zq_at zy_store_6_18.2.1 7 162 ∧ zq_at zy_store_6_18.2.1 8 0 ∧ zq_at zy_store_6_18.2.1 9 61 ∧ zq_at zy_store_6_18.2.1 68 177 ∧ zq_at zy_store_6_18.2.1 10 3 ∧ zq_at zy_store_6_18.2.1 11 61 ∧ zq_at zy_store_6_18.2.1 12 28 ∧ zq_at zy_store_6_18.2.1 13 42 ∧ zq_at zy_store_6_18.2.1 14 180 ∧ zq_at zy_store_6_18.2.1 15 0 ∧ zq_at zy_store_6_18.2.1 16 116 ∧ zq_at zy_store_6_18.2.1 17 162 ∧ zq_at zy_store_6_18.2.1 18 0 ∧ zq_at zy_store_6_18.2.1 19 45 ∧ zq_at zy_store_6_18.2.1 62 132 ∧ zq_at zy_store_6_18.2.1 63 1 ∧ zq_at zy_store_6_18.2.1 64 1 := by decide +kernel
theorem zd_6_18_0 : zz_D zy_store_6_18 0 (.iconst 0) 1 1 := ⟨zq_3 zg_6_18_0.1, rfl⟩
theorem zd_6_18_1 : zz_D zy_store_6_18 1 (.istore_n 1) 1 2 := ⟨zq_60 zg_6_18_0.2.1, rfl⟩
theorem zd_6_18_2 : zz_D zy_store_6_18 2 (.iload_n 1) 1 3 := ⟨zq_27 zg_6_18_0.2.2.1, rfl⟩
theorem zd_6_18_3 : zz_D zy_store_6_18 3 (.aload_n 0) 1 4 := ⟨zq_42 zg_6_18_0.2.2.2.1, rfl⟩
theorem zd_6_18_4 : zz_D zy_store_6_18 4 (.getfield 113) 3 7 := ⟨zq_180 zg_6_18_0.2.2.2.2.1 zg_6_18_0.2.2.2.2.2.1 zg_6_18_0.2.2.2.2.2.2.1 rfl, rfl⟩
theorem zd_6_18_7 : zz_B zy_store_6_18 7 (Instr.if_icmp .ge) 68 10 := ⟨61, zq_162 zg_6_18_0.2.2.2.2.2.2.2.1 zg_6_18_0.2.2.2.2.2.2.2.2.1 zg_6_18_0.2.2.2.2.2.2.2.2.2.1 (by decide), rfl, rfl⟩
theorem zd_6_18_68 : zz_D zy_store_6_18 68 (.return_) 1 69 := ⟨zq_177 zg_6_18_0.2.2.2.2.2.2.2.2.2.2.1, rfl⟩
theorem zd_6_18_10 : zz_D zy_store_6_18 10 (.iconst 0) 1 11 := ⟨zq_3 zg_6_18_0.2.2.2.2.2.2.2.2.2.2.2.1, rfl⟩
theorem zd_6_18_11 : zz_D zy_store_6_18 11 (.istore_n 2) 1 12 := ⟨zq_61 zg_6_18_0.2.2.2.2.2.2.2.2.2.2.2.2.1, rfl⟩
theorem zd_6_18_12 : zz_D zy_store_6_18 12 (.iload_n 2) 1 13 := ⟨zq_28 zg_6_18_0.2.2.2.2.2.2.2.2.2.2.2.2.2.1, rfl⟩
theorem zd_6_18_13 : zz_D zy_store_6_18 13 (.aload_n 0) 1 14 := ⟨zq_42 zg_6_18_0.2.2.2.2.2.2.2.2.2.2.2.2.2.2.1, rfl⟩
theorem zd_6_18_14 : zz_D zy_store_6_18 14 (.getfield 116) 3 17 := ⟨zq_180 zg_6_18_0.2.2.2.2.2.2.2.2.2.2.2.2.2.2.2.1 zg_6_18_0.2.2.2.2.2.2.2.2.2.2.2.2.2.2.2.2.1 zg_6_18_0.2.2.2.2.2.2.2.2.2.2.2.2.2.2.2.2.2.1 rfl, rfl⟩
theorem zd_6_18_17 : zz_B zy_store_6_18 17 (Instr.if_icmp .ge) 62 20 := ⟨45, zq_162 zg_6_18_0.2.2.2.2.2.2.2.2.2.2.2.2.2.2.2.2.2.2.1 zg_6_18_0.2.2.2.2.2.2.2.2.2.2.2.2.2.2.2.2.2.2.2.1 zg_6_18_0.2.2.2.2.2.2.2.2.2.2.2.2.2.2.2.2.2.2.2.2.1 (by decide), rfl, rfl⟩
theorem zd_6_18_62 : zz_D zy_store_6_18 62 (.iinc 1 1) 3 65 := ⟨zq_132 zg_6_18_0.2.2.2.2.2.2.2.2.2.2.2.2.2.2.2.2.2.2.2.2.2.1 zg_6_18_0.2.2.2.2.2.2.2.2.2.2.2.2.2.2.2.2.2.2.2.2.2.2.1 zg_6_18_0.2.2.2.2.2.2.2.2.2.2.2.2.2.2.2.2.2.2.2.2.2.2.2 (by decide), rfl⟩
theorem zg_6_18_65 : zq_at zy_store_6_18.2.1 65 167 ∧ zq_at zy_store_6_18.2.1 66 255 ∧ zq_at zy_store_6_18.2.1 67 193 ∧ zq_at zy_store_6_18.2.1 20 42 ∧ zq_at zy_store_6_18.2.1 21 180 ∧ zq_at zy_store_6_18.2.1 22 0 ∧ zq_at zy_store_6_18.2.1 23 13 ∧ zq_at zy_store_6_18.2.1 24 42 ∧ zq_at zy_store_6_18.2.1 25 180 ∧ zq_at zy_store_6_18.2.1 26 0 ∧ zq_at zy_store_6_18.2.1 27 110 ∧ zq_at zy_store_6_18.2.1 28 27 ∧ zq_at zy_store_6_18.2.1 29 42 ∧ zq_at zy_store_6_18.2.1 30 180 ∧ zq_at zy_store_6_18.2.1 31 0 ∧ zq_at zy_store_6_18.2.1 32 125 ∧ zq_at zy_store_6_18.2.1 33 104 ∧ zq_at zy_store_6_18.2.1 34 96 ∧ zq_at zy_store_6_18.2.1 35 28 ∧ zq_at zy_store_6_18.2.1 36 96 ∧ zq_at zy_store_6_18.2.1 37 42 ∧ zq_at zy_store_6_18.2.1 38 180 ∧ zq_at zy_store_6_18.2.1 39 0 ∧ zq_at zy_store_6_18.2.1 40 28 := by decide +kernel
theorem zd_6_18_65 : zz_B zy_store_6_18 65 Instr.goto 2 68 := ⟨(-63), zq_167 zg_6_18_65.1 zg_6_18_65.2.1 zg_6_18_65.2.2.1 (by decide), rfl, rfl⟩
theorem zd_6_18_20 : zz_D zy_store_6_18 20 (.aload_n 0) 1 21 := ⟨zq_42 zg_6_18_65.2.2.2.1, rfl⟩
theorem zd_6_18_21 : zz_D zy_store_6_18 21 (.getfield 13) 3 24 := ⟨zq_180 zg_6_18_65.2.2.2.2.1 zg_6_18_65.2.2.2.2.2.1 zg_6_18_65.2.2.2.2.2.2.1 rfl, rfl⟩
theorem zd_6_18_24 : zz_D zy_store_6_18 24 (.aload_n 0) 1 25 := ⟨zq_42 zg_6_18_65.2.2.2.2.2.2.2.1, rfl⟩
theorem zd_6_18_25 : zz_D zy_store_6_18 25 (.getfield 110) 3 28 := ⟨zq_180 zg_6_18_65.2.2.2.2.2.2.2.2.1 zg_6_18_65.2.2.2.2.2.2.2.2.2.1 zg_6_18_65.2.2.2.2.2.2.2.2.2.2.1 rfl, rfl⟩
theorem zd_6_18_28 : zz_D zy_store_6_18 28 (.iload_n 1) 1 29 := ⟨zq_27 zg_6_18_65.2.2.2.2.2.2.2.2.2.2.2.1, rfl⟩
theorem zd_6_18_29 : zz_D zy_store_6_18 29 (.aload_n 0) 1 30 := ⟨zq_42 zg_6_18_65.2.2.2.2.2.2.2.2.2.2.2.2.1, rfl⟩
theorem zd_6_18_30 : zz_D zy_store_6_18 30 (.getfield 125) 3 33 := ⟨zq_180 zg_6_18_65.2.2.2.2.2.2.2.2.2.2.2.2.2.1 zg_6_18_65.2.2.2.2.2.2.2.2.2.2.2.2.2.2.1 zg_6_18_65.2.2.2.2.2.2.2.2.2.2.2.2.2.2.2.1 rfl, rfl⟩
theorem zd_6_18_33 : zz_D zy_store_6_18 33 (.imul) 1 34 := ⟨zq_104 zg_6_18_65.2.2.2.2.2.2.2.2.2.2.2.2.2.2.2.2.1, rfl⟩
theorem zd_6_18_34 : zz_D zy_store_6_18 34 (.iadd) 1 35 := ⟨zq_96 zg_6_18_65.2.2.2.2.2.2.2.2.2.2.2.2.2.2.2.2.2.1, rfl⟩
theorem zd_6_18_35 : zz_D zy_store_6_18 35 (.iload_n 2) 1 36 := ⟨zq_28 zg_6_18_65.2.2.2.2.2.2.2.2.2.2.2.2.2.2.2.2.2.2.1, rfl⟩
theorem zd_6_18_36 : zz_D zy_store_6_18 36 (.iadd) 1 37 := ⟨zq_96 zg_6_18_65.2.2.2.2.2.2.2.2.2.2.2.2.2.2.2.2.2.2.2.1, rfl⟩
theorem zd_6_18_37 : zz_D zy_store_6_18 37 (.aload_n 0) 1 38 := ⟨zq_42 zg_6_18_65.2.2.2.2.2.2.2.2.2.2.2.2.2.2.2.2.2.2.2.2.1, rfl⟩
theorem zd_6_18_38 : zz_D zy_store_6_18 38 (.getfield 28) 3 41 := ⟨zq_180 zg_6_18_65.2.2.2.2.2.2.2.2.2.2.2.2.2.2.2.2.2.2.2.2.2.1 zg_6_18_65.2.2.2.2.2.2.2.2.2.2.2.2.2.2.2.2.2.2.2.2.2.2.1 zg_6_18_65.2.2.2.2.2.2.2.2.2.2.2.2.2.2.2.2.2.2.2.2.2.2.2 rfl, rfl⟩
theorem zg_6_18_41 : zq_at zy_store_6_18.2.1 41 42 ∧ zq_at zy_store_6_18.2.1 42 180 ∧ zq_at zy_store_6_18.2.1 43 0 ∧ zq_at zy_store_6_18.2.1 44 119 ∧ zq_at zy_store_6_18.2.1 45 27 ∧ zq_at zy_store_6_18.2.1 46 42 ∧ zq_at zy_store_6_18.2.1 47 180 ∧ zq_at zy_store_6_18.2.1 48 0 ∧ zq_at zy_store_6_18.2.1 49 36 ∧ zq_at zy_store_6_18.2.1 50 104 ∧ zq_at zy_store_6_18.2.1 51 96 ∧ zq_at zy_store_6_18.2.1 52 28 ∧ zq_at zy_store_6_18.2.1 53 96 ∧ zq_at zy_store_6_18.2.1 54 51 ∧ zq_at zy_store_6_18.2.1 55 84 ∧ zq_at zy_store_6_18.2.1 56 132 ∧ zq_at zy_store_6_18.2.1 57 2 ∧ zq_at zy_store_6_18.2.1 58 1 ∧ zq_at zy_store_6_18.2.1 59 167 ∧ zq_at zy_store_6_18.2.1 60 255 ∧ zq_at zy_store_6_18.2.1 61 209 := by decide +kernel
theorem zd_6_18_41 : zz_D zy_store_6_18 41 (.aload_n 0) 1 42 := ⟨zq_42 zg_6_18_41.1, rfl⟩
theorem zd_6_18_42 : zz_D zy_store_6_18 42 (.getfield 119) 3 45 := ⟨zq_180 zg_6_18_41.2.1 zg_6_18_41.2.2.1 zg_6_18_41.2.2.2.1 rfl, rfl⟩
theorem zd_6_18_45 : zz_D zy_store_6_18 45 (.iload_n 1) 1 46 := ⟨zq_27 zg_6_18_41.2.2.2.2.1, rfl⟩
theorem zd_6_18_46 : zz_D zy_store_6_18 46 (.aload_n 0) 1 47 := ⟨zq_42 zg_6_18_41.2.2.2.2.2.1, rfl⟩
theorem zd_6_18_47 : zz_D zy_store_6_18 47 (.getfield 36) 3 50 := ⟨zq_180 zg_6_18_41.2.2.2.2.2.2.1 zg_6_18_41.2.2.2.2.2.2.2.1 zg_6_18_41.2.2.2.2.2.2.2.2.1 rfl, rfl⟩
theorem zd_6_18_50 : zz_D zy_store_6_18 50 (.imul) 1 51 := ⟨zq_104 zg_6_18_41.2.2.2.2.2.2.2.2.2.1, rfl⟩
theorem zd_6_18_51 : zz_D zy_store_6_18 51 (.iadd) 1 52 := ⟨zq_96 zg_6_18_41.2.2.2.2.2.2.2.2.2.2.1, rfl⟩
theorem zd_6_18_52 : zz_D zy_store_6_18 52 (.iload_n 2) 1 53 := ⟨zq_28 zg_6_18_41.2.2.2.2.2.2.2.2.2.2.2.1, rfl⟩
theorem zd_6_18_53 : zz_D zy_store_6_18 53 (.iadd) 1 54 := ⟨zq_96 zg_6_18_41.2.2.2.2.2.2.2.2.2.2.2.2.1, rfl⟩
theorem zd_6_18_54 : zz_D zy_store_6_18 54 (.baload) 1 55 := ⟨zq_51 zg_6_18_41.2.2.2.2.2.2.2.2.2.2.2.2.2.1, rfl⟩
theorem zd_6_18_55 : zz_D zy_store_6_18 55 (.bastore) 1 56 := ⟨zq_84 zg_6_18_41.2.2.2.2.2.2.2.2.2.2.2.2.2.2.1, rfl⟩
theorem zd_6_18_56 : zz_D zy_store_6_18 56 (.iinc 2 1) 3 59 := ⟨zq_132 zg_6_18_41.2.2.2.2.2.2.2.2.2.2.2.2.2.2.2.1 zg_6_18_41.2.2.2.2.2.2.2.2.2.2.2.2.2.2.2.2.1 zg_6_18_41.2.2.2.2.2.2.2.2.2.2.2.2.2.2.2.2.2.1 (by decide), rfl⟩
theorem zd_6_18_59 : zz_B zy_store_6_18 59 Instr.goto 12 62 := ⟨(-47), zq_167 zg_6_18_41.2.2.2.2.2.2.2.2.2.2.2.2.2.2.2.2.2.2.1 zg_6_18_41.2.2.2.2.2.2.2.2.2.2.2.2.2.2.2.2.2.2.2.1 zg_6_18_41.2.2.2.2.2.2.2.2.2.2.2.2.2.2.2.2.2.2.2.2 (by decide), rfl, rfl⟩
-- TensorForge$Machine store ()V
abbrev zr_store_6_18 : Room := { frames := 0, cells := 0, slots := 0, locals := 0 }
def zp_store_6_18  (S0 : zz_S) : zz_S → Prop := fun S => zz_G S ∧ zz_fr [] [1032] (fun _ _ => False) S0 S
theorem zb_store_6_18_2 {g : mm_G} {l : Launch}  (S0 : zz_S) (n : Nat) (hn : zz_end ≤ n) (G_S0 : zz_G S0) (hl : zz_lc 8 (S0 1031 7) (S0 1031 8) (S0 1031 9) (S0 1031 10) (S0 1031 11) (S0 1031 12) (S0 1031 13) (S0 1031 6)) (x1 : Int) (S : zz_S) (G_S : zz_G S) (F_S : zz_fr [] [1032] (fun _ _ => False) S0 S) (i2_0 : 0 ≤ x1 ∧ x1 ≤ 63) (R : Nat) (hR : (34359738368 + (S0 1031 8 - x1).toNat) * 1099511627776 + 1099511627775 = R) (k12 : ∀ (x1 : Int) (x2 : Int) (S : zz_S), zz_G S → zz_fr [] [1032] (fun _ _ => False) S0 S → (0 ≤ x1 ∧ x1 ≤ 62) → (0 ≤ x2 ∧ x2 ≤ 31) → (0 ≤ x1 ∧ x1 ≤ 63) → (x1 < S0 1031 8) → (34359738368 + (S0 1031 8 - x1).toNat) * 1099511627776 + (17179869184 + (S0 1031 9 - x2).toNat) < R → zz_E g l zy_store_6_18 zr_store_6_18 (zz_QV n (zp_store_6_18  S0)) S n 12 [some (.ref 1031), some (zi x1), some (zi x2)] [] 0 0) : zz_E g l zy_store_6_18 zr_store_6_18 (zz_QV n (zp_store_6_18  S0)) S n 2 [some (.ref 1031), some (zi x1)] [] 0 0 := by
  refine zz_iload_n (x := x1) rfl zd_6_18_2 ?_
  refine zz_aload_n (x := 1031) rfl zd_6_18_3 ?_
  have g2 := zz_G.r G_S0 1031 8 0 63 rfl rfl
  refine zz_geti (z := S0 1031 8) zd_6_18_4 zf_Machine_113 zT_1031 rfl (zz_ltn hn rfl) (zz_rc F_S rfl rfl (fun h => h) rfl) ?_
  refine zz_icmp_ge (by omega) (by omega) zd_6_18_7 (fun c3 => ?_) (fun c3 => ?_)
  · exact zz_vret zd_6_18_68 rfl (Nat.zero_le _) (Nat.zero_le _) ⟨_, rfl, G_S, F_S⟩
  · refine zz_iconst zd_6_18_10 ?_
    refine zz_istore_n [some (.ref 1031), some (zi x1), some (zi 0)] zd_6_18_11 (by decide) rfl ?_
    have g4 := zz_G.r G_S0 1031 9 0 31 rfl rfl
    refine zz_less (ls1 := [some (.ref 1031), some (zi x1), some (zi 0)]) ⟨rfl, ⟨rfl, ⟨rfl, trivial⟩⟩⟩ ?_
    exact k12 x1 0 S G_S F_S (by omega) (by omega) (by omega) (by omega) (by omega)
theorem zb_store_6_18_12 {g : mm_G} {l : Launch}  (S0 : zz_S) (n : Nat) (hn : zz_end ≤ n) (G_S0 : zz_G S0) (hl : zz_lc 8 (S0 1031 7) (S0 1031 8) (S0 1031 9) (S0 1031 10) (S0 1031 11) (S0 1031 12) (S0 1031 13) (S0 1031 6)) (x1 : Int) (x2 : Int) (S : zz_S) (G_S : zz_G S) (F_S : zz_fr [] [1032] (fun _ _ => False) S0 S) (i12_0 : 0 ≤ x1 ∧ x1 ≤ 62) (i12_1 : 0 ≤ x2 ∧ x2 ≤ 31) (i12_2 : 0 ≤ x1 ∧ x1 ≤ 63) (i12_3 : x1 < S0 1031 8) (R : Nat) (hR : (34359738368 + (S0 1031 8 - x1).toNat) * 1099511627776 + (17179869184 + (S0 1031 9 - x2).toNat) = R) (k2 : ∀ (x1 : Int) (S : zz_S), zz_G S → zz_fr [] [1032] (fun _ _ => False) S0 S → (0 ≤ x1 ∧ x1 ≤ 63) → (34359738368 + (S0 1031 8 - x1).toNat) * 1099511627776 + 1099511627775 < R → zz_E g l zy_store_6_18 zr_store_6_18 (zz_QV n (zp_store_6_18  S0)) S n 2 [some (.ref 1031), some (zi x1)] [] 0 0) (k12 : ∀ (x1 : Int) (x2 : Int) (S : zz_S), zz_G S → zz_fr [] [1032] (fun _ _ => False) S0 S → (0 ≤ x1 ∧ x1 ≤ 62) → (0 ≤ x2 ∧ x2 ≤ 31) → (0 ≤ x1 ∧ x1 ≤ 63) → (x1 < S0 1031 8) → (34359738368 + (S0 1031 8 - x1).toNat) * 1099511627776 + (17179869184 + (S0 1031 9 - x2).toNat) < R → zz_E g l zy_store_6_18 zr_store_6_18 (zz_QV n (zp_store_6_18  S0)) S n 12 [some (.ref 1031), some (zi x1), some (zi x2)] [] 0 0) : zz_E g l zy_store_6_18 zr_store_6_18 (zz_QV n (zp_store_6_18  S0)) S n 12 [some (.ref 1031), some (zi x1), some (zi x2)] [] 0 0 := by
  have l0 := hl
  unfold zz_lc at l0
  have lk := l0.2.2.2.2.2.2.2.2.2 rfl
  have l2 := l0.2.1 (by decide)
  clear l0
  have gS := zz_G.r G_S0 1031 6 2 8 rfl rfl
  have gT := zz_G.r G_S0 1031 12 0 1023 rfl rfl
  have m1 : x1 * S0 1031 6 ≤ (S0 1031 8 - 1) * S0 1031 6 := Int.mul_le_mul_of_nonneg_right (by omega) (by omega)
  have m2 : x1 * S0 1031 12 ≤ (S0 1031 8 - 1) * S0 1031 12 := Int.mul_le_mul_of_nonneg_right (by omega) (by omega)
  refine zz_iload_n (x := x2) rfl zd_6_18_12 ?_
  refine zz_aload_n (x := 1031) rfl zd_6_18_13 ?_
  have g5 := zz_G.r G_S0 1031 9 0 31 rfl rfl
  refine zz_geti (z := S0 1031 9) zd_6_18_14 zf_Machine_116 zT_1031 rfl (zz_ltn hn rfl) (zz_rc F_S rfl rfl (fun h => h) rfl) ?_
  refine zz_icmp_ge (by omega) (by omega) zd_6_18_17 (fun c6 => ?_) (fun c6 => ?_)
  · refine zz_iinc [some (.ref 1031), some (zi (x1 + 1)), some (zi x2)] zd_6_18_62 rfl rfl ?_
    refine zz_goto zd_6_18_65 ?_
    have g7 := zz_G.r G_S0 1031 8 0 63 rfl rfl
    refine zz_less (ls1 := [some (.ref 1031), some (zi (x1 + 1))]) ⟨rfl, ⟨rfl, trivial⟩⟩ ?_
    exact k2 (x1 + 1) S G_S F_S (by omega) (by omega)
  · refine zz_aload_n (x := 1031) rfl zd_6_18_20 ?_
    refine zz_getr (kd := 0) (z := 1032) zd_6_18_21 zf_Machine_13 zT_1031 rfl (zz_ltn hn rfl) (zz_G.eq G_S 1031 0 1032 rfl rfl) (by decide) 1032 rfl ?_
    refine zz_aload_n (x := 1031) rfl zd_6_18_24 ?_
    have g8 := zz_G.r G_S0 1031 7 0 4095 rfl rfl
    refine zz_geti (z := S0 1031 7) zd_6_18_25 zf_Machine_110 zT_1031 rfl (zz_ltn hn rfl) (zz_rc F_S rfl rfl (fun h => h) rfl) ?_
    refine zz_iload_n (x := x1) rfl zd_6_18_28 ?_
    refine zz_aload_n (x := 1031) rfl zd_6_18_29 ?_
    have g9 := zz_G.r G_S0 1031 12 0 1023 rfl rfl
    refine zz_geti (z := S0 1031 12) zd_6_18_30 zf_Machine_125 zT_1031 rfl (zz_ltn hn rfl) (zz_rc F_S rfl rfl (fun h => h) rfl) ?_
    refine zz_imul zd_6_18_33 ?_
    have m10 := zz_mulb (a := x1) (b := S0 1031 12) 62 1023 63426 (by omega) (by omega) (by decide)
    refine zz_iadd zd_6_18_34 ?_
    refine zz_iload_n (x := x2) rfl zd_6_18_35 ?_
    refine zz_iadd zd_6_18_36 ?_
    refine zz_aload_n (x := 1031) rfl zd_6_18_37 ?_
    refine zz_getr (kd := 0) (z := 1036) zd_6_18_38 zf_Machine_28 zT_1031 rfl (zz_ltn hn rfl) (zz_G.eq G_S 1031 4 1036 rfl rfl) (by decide) 1036 rfl ?_
    refine zz_aload_n (x := 1031) rfl zd_6_18_41 ?_
    have g11 := zz_G.r G_S0 1031 10 0 511 rfl rfl
    refine zz_geti (z := S0 1031 10) zd_6_18_42 zf_Machine_119 zT_1031 rfl (zz_ltn hn rfl) (zz_rc F_S rfl rfl (fun h => h) rfl) ?_
    refine zz_iload_n (x := x1) rfl zd_6_18_45 ?_
    refine zz_aload_n (x := 1031) rfl zd_6_18_46 ?_
    have g12 := zz_G.r G_S0 1031 6 2 8 rfl rfl
    refine zz_geti (z := S0 1031 6) zd_6_18_47 zf_Machine_36 zT_1031 rfl (zz_ltn hn rfl) (zz_rc F_S rfl rfl (fun h => h) rfl) ?_
    refine zz_imul zd_6_18_50 ?_
    have m13 := zz_mulb (a := x1) (b := S0 1031 6) 62 8 496 (by omega) (by omega) (by decide)
    refine zz_iadd zd_6_18_51 ?_
    refine zz_iload_n (x := x2) rfl zd_6_18_52 ?_
    refine zz_iadd zd_6_18_53 ?_
    have g14 := zz_G.r G_S0 1036 ((((S0 1031 10) + (x1 * (S0 1031 6))) + x2).toNat) (-128) 127 rfl rfl
    refine zz_bald (z := S0 1036 ((((S0 1031 10) + (x1 * (S0 1031 6))) + x2).toNat)) zd_6_18_54 zT_1036 rfl (zz_ltn hn rfl) (by decide) (by omega) (zz_rc F_S (zz_nc1 rfl) rfl (fun h => h) rfl) ?_
    refine zz_bast zd_6_18_55 zT_1032 rfl (zz_ltn hn rfl) (by decide) (by omega) (by omega) (fun S15 qS15 => ?_)
    have G_S15 := zz_G.put G_S qS15 (-128) 127 rfl (by omega)
    have F_S15 := zz_fr.putc F_S qS15 rfl
    refine zz_iinc [some (.ref 1031), some (zi x1), some (zi (x2 + 1))] zd_6_18_56 rfl rfl ?_
    refine zz_goto zd_6_18_59 ?_
    have g16 := zz_G.r G_S0 1031 8 0 63 rfl rfl
    refine zz_less (ls1 := [some (.ref 1031), some (zi x1), some (zi (x2 + 1))]) ⟨rfl, ⟨rfl, ⟨rfl, trivial⟩⟩⟩ ?_
    exact k12 x1 (x2 + 1) S15 G_S15 F_S15 (by omega) (by omega) (by omega) (by omega) (by omega)
theorem zi_store_6_18 {g : mm_G} {l : Launch}  (S0 : zz_S) (n : Nat) (hn : zz_end ≤ n) (G_S0 : zz_G S0) (hl : zz_lc 8 (S0 1031 7) (S0 1031 8) (S0 1031 9) (S0 1031 10) (S0 1031 11) (S0 1031 12) (S0 1031 13) (S0 1031 6)) : ∀ N : Nat, (∀ (x1 : Int) (S : zz_S), zz_G S → zz_fr [] [1032] (fun _ _ => False) S0 S → (0 ≤ x1 ∧ x1 ≤ 63) → (34359738368 + (S0 1031 8 - x1).toNat) * 1099511627776 + 1099511627775 < N → zz_E g l zy_store_6_18 zr_store_6_18 (zz_QV n (zp_store_6_18  S0)) S n 2 [some (.ref 1031), some (zi x1)] [] 0 0) ∧ (∀ (x1 : Int) (x2 : Int) (S : zz_S), zz_G S → zz_fr [] [1032] (fun _ _ => False) S0 S → (0 ≤ x1 ∧ x1 ≤ 62) → (0 ≤ x2 ∧ x2 ≤ 31) → (0 ≤ x1 ∧ x1 ≤ 63) → (x1 < S0 1031 8) → (34359738368 + (S0 1031 8 - x1).toNat) * 1099511627776 + (17179869184 + (S0 1031 9 - x2).toNat) < N → zz_E g l zy_store_6_18 zr_store_6_18 (zz_QV n (zp_store_6_18  S0)) S n 12 [some (.ref 1031), some (zi x1), some (zi x2)] [] 0 0) := by
  intro N
  induction N with
  | zero => exact ⟨fun x1 S _ _ _ h => absurd h (Nat.not_lt_zero _), fun x1 x2 S _ _ _ _ _ _ h => absurd h (Nat.not_lt_zero _)⟩
  | succ N ih =>
    exact ⟨fun x1 S a b j0 hR => zb_store_6_18_2  S0 n hn G_S0 hl x1 S a b j0 _ rfl (fun x1 x2 S a b j0 j1 j2 j3 h => ih.2 x1 x2 S a b j0 j1 j2 j3 (Nat.lt_of_lt_of_le h (Nat.le_of_lt_succ hR))),
      fun x1 x2 S a b j0 j1 j2 j3 hR => zb_store_6_18_12  S0 n hn G_S0 hl x1 x2 S a b j0 j1 j2 j3 _ rfl (fun x1 S a b j0 h => ih.1 x1 S a b j0 (Nat.lt_of_lt_of_le h (Nat.le_of_lt_succ hR))) (fun x1 x2 S a b j0 j1 j2 j3 h => ih.2 x1 x2 S a b j0 j1 j2 j3 (Nat.lt_of_lt_of_le h (Nat.le_of_lt_succ hR)))⟩
theorem zc_store_6_18 {g : mm_G} {l : Launch}  (S0 : zz_S) (n : Nat) (hn : zz_end ≤ n) (G_S0 : zz_G S0) (hl : zz_lc 8 (S0 1031 7) (S0 1031 8) (S0 1031 9) (S0 1031 10) (S0 1031 11) (S0 1031 12) (S0 1031 13) (S0 1031 6)) : mm_Met g l zy_store_6_18 zr_store_6_18 [.ref 1031] (zz_M S0 n) n (zz_QV n (zp_store_6_18  S0)) := by
  refine zz_enter (by decide) (Nat.le_of_ble_eq_true rfl) (zz_less (ls1 := [some (.ref 1031)]) ⟨rfl, trivial⟩ ?_)
  have F_S0 : zz_fr [] [1032] (fun _ _ => False) S0 S0 := zz_fr.refl
  have k2 : ∀ (x1 : Int) (S : zz_S), zz_G S → zz_fr [] [1032] (fun _ _ => False) S0 S → (0 ≤ x1 ∧ x1 ≤ 63) → zz_E g l zy_store_6_18 zr_store_6_18 (zz_QV n (zp_store_6_18  S0)) S n 2 [some (.ref 1031), some (zi x1)] [] 0 0 := fun x1 S a b j0 => (zi_store_6_18 (g := g) (l := l)  S0 n hn G_S0 hl _).1 x1 S a b j0 (Nat.lt_succ_self _)
  refine zz_iconst zd_6_18_0 ?_
  refine zz_istore_n [some (.ref 1031), some (zi 0)] zd_6_18_1 (by decide) rfl ?_
  have g1 := zz_G.r G_S0 1031 8 0 63 rfl rfl
  refine zz_less (ls1 := [some (.ref 1031), some (zi 0)]) ⟨rfl, ⟨rfl, trivial⟩⟩ ?_
  exact k2 0 S0 G_S0 F_S0 (by omega)
theorem zk_Machine_107 : mm_Vl "TensorForge$Machine" 107 3 0 zy_store_6_18 := ⟨zyw_store_6_18, (R_Machine, F_Machine, 14), rfl, mm_tb_1 837 (by decide +kernel) rfl, mm_tb_1 839 (by decide +kernel) rfl, mm_tb_s 34 (by decide +kernel) rfl⟩
theorem zg_6_10_117 : zq_at zy_perform_6_10.2.1 117 167 ∧ zq_at zy_perform_6_10.2.1 118 0 ∧ zq_at zy_perform_6_10.2.1 119 3 := by decide +kernel
theorem zd_6_10_117 : zz_B zy_perform_6_10 117 Instr.goto 120 120 := ⟨3, zq_167 zg_6_10_117.1 zg_6_10_117.2.1 zg_6_10_117.2.2 (by decide), rfl, rfl⟩
-- TensorForge$Machine perform (J)V
abbrev zr_perform_6_10 : Room := { frames := 3, cells := 0, slots := 0, locals := 49 }
def zp_perform_6_10 (p0 : Int) (S0 : zz_S) : zz_S → Prop := fun S => zz_G S ∧ zz_fr [(1031, 7), (1031, 8), (1031, 9), (1031, 10), (1031, 11), (1031, 12), (1031, 13)] [1032, 1033, 1034, 1035, 1036] (fun _ _ => False) S0 S
theorem zc_perform_6_10 {g : mm_G} {l : Launch} (p0 : Int) (S0 : zz_S) (n : Nat) (hn : zz_end ≤ n) (G_S0 : zz_G S0) (hp0 : (-9223372036854775808) ≤ p0 ∧ p0 ≤ 9223372036854775807) (hl : zz_lcl p0 (S0 1031 6)) : mm_Met g l zy_perform_6_10 zr_perform_6_10 [.ref 1031, zl p0] (zz_M S0 n) n (zz_QV n (zp_perform_6_10 p0 S0)) := by
  refine zz_enter (by decide) (Nat.le_of_ble_eq_true rfl) (zz_less (ls1 := [some (.ref 1031), some (zl p0), none]) ⟨rfl, ⟨rfl, trivial⟩⟩ ?_)
  have F_S0 : zz_fr [(1031, 7), (1031, 8), (1031, 9), (1031, 10), (1031, 11), (1031, 12), (1031, 13)] [1032, 1033, 1034, 1035, 1036] (fun _ _ => False) S0 S0 := zz_fr.refl
  refine zz_aload_n (x := 1031) rfl zd_6_10_0 ?_
  refine zz_lload_n (x := p0) rfl zd_6_10_1 ?_
  refine zz_callVV [zl p0] zd_6_10_2 zk_Machine_84 zT_1031 (zz_ltn hn rfl) rfl rfl ⟨Nat.le_of_ble_eq_true rfl, Nat.le_of_ble_eq_true rfl⟩ ⟨rfl, rfl⟩ (Nat.zero_le _) (Nat.zero_le _) (zc_decode_6_11 p0 S0 n hn G_S0 (by omega)) (fun S1 hP => ?_)
  obtain ⟨G_S1, fS1, o3, o4, o5, o6, o7, o8, o9⟩ := hP
  have F_S1 := zz_fr.trans F_S0 fS1 rfl zz_nv
  refine zz_lload_n (x := p0) rfl zd_6_10_5 ?_
  refine zz_iconst zd_6_10_6 ?_
  refine zz_callSI [zl p0, zi 0] zd_6_10_7 zk_Machine_72 rfl rfl ⟨Nat.le_of_ble_eq_true rfl, Nat.le_of_ble_eq_true rfl⟩ ⟨rfl, rfl⟩ (Nat.zero_le _) (Nat.zero_le _) (zc_get_12_2x_0 p0 S1 n hn G_S1 (by omega)) (fun v11 S10 hP => ?_)
  obtain ⟨rfl, o12, o13⟩ := hP
  subst o13
  by_cases c14 : zz_fy p0 0 15 = 1
  · refine zz_swIn 1 46 c14 (by decide) zd_6_10_10 rfl rfl ?_
    refine zz_aload_n (x := 1031) rfl zd_6_10_56 ?_
    refine zz_aload_n (x := 1031) rfl zd_6_10_57 ?_
    refine zz_getr (kd := 0) (z := 1033) zd_6_10_58 zf_Machine_19 zT_1031 rfl (zz_ltn hn rfl) (zz_G.eq G_S1 1031 1 1033 rfl rfl) (by decide) 1033 rfl ?_
    have g15 := zz_G.r G_S1 1031 10 0 511 rfl rfl
    have g16 := zz_G.r G_S1 1031 11 0 511 rfl rfl
    have g17 := zz_G.r G_S1 1031 12 0 1023 rfl rfl
    have g18 := zz_G.r G_S1 1031 13 0 31 rfl rfl
    have g19 := zz_G.r G_S0 1031 6 2 8 rfl rfl
    have e20 : S1 1031 6 = S0 1031 6 := (zz_rc fS1 rfl rfl (fun h => h) rfl)
    have g21 := zz_G.r G_S1 1031 7 0 4095 rfl rfl
    have g22 := zz_G.r G_S1 1031 8 0 63 rfl rfl
    have g23 := zz_G.r G_S1 1031 9 0 31 rfl rfl
    refine zz_callVV [.ref 1033] zd_6_10_61 zk_Machine_88 zT_1031 (zz_ltn hn rfl) rfl rfl ⟨Nat.le_of_ble_eq_true rfl, Nat.le_of_ble_eq_true rfl⟩ ⟨rfl, rfl⟩ (Nat.zero_le _) (Nat.zero_le _) (zc_loadBytes_6_12_1033  S1 n hn G_S1 (by have h9 := hl; unfold zz_lcl at h9; rw [show zz_fy p0 0 15 = 1 by omega, show zz_fy p0 8 4095 = S1 1031 7 by omega, show zz_fy p0 20 63 = S1 1031 8 by omega, show zz_fy p0 26 31 = S1 1031 9 by omega, show zz_fy p0 31 511 = S1 1031 10 by omega, show zz_fy p0 40 511 = S1 1031 11 by omega, show zz_fy p0 49 1023 = S1 1031 12 by omega, show zz_fy p0 59 31 = S1 1031 13 by omega, show S0 1031 6 = S1 1031 6 by omega] at h9; exact h9)) (fun S24 hP => ?_)
    obtain ⟨G_S24, fS24⟩ := hP
    have F_S24 := zz_fr.trans F_S1 fS24 rfl zz_nv
    refine zz_goto zd_6_10_64 ?_
    exact zz_vret zd_6_10_120 rfl (Nat.zero_le _) (Nat.zero_le _) ⟨_, rfl, G_S24, F_S24⟩
  by_cases c26 : zz_fy p0 0 15 = 2
  · refine zz_swIn 2 57 c26 (by decide) zd_6_10_10 rfl rfl ?_
    refine zz_aload_n (x := 1031) rfl zd_6_10_67 ?_
    refine zz_aload_n (x := 1031) rfl zd_6_10_68 ?_
    refine zz_getr (kd := 0) (z := 1034) zd_6_10_69 zf_Machine_22 zT_1031 rfl (zz_ltn hn rfl) (zz_G.eq G_S1 1031 2 1034 rfl rfl) (by decide) 1034 rfl ?_
    have g27 := zz_G.r G_S1 1031 10 0 511 rfl rfl
    have g28 := zz_G.r G_S1 1031 11 0 511 rfl rfl
    have g29 := zz_G.r G_S1 1031 12 0 1023 rfl rfl
    have g30 := zz_G.r G_S1 1031 13 0 31 rfl rfl
    have g31 := zz_G.r G_S0 1031 6 2 8 rfl rfl
    have e32 : S1 1031 6 = S0 1031 6 := (zz_rc fS1 rfl rfl (fun h => h) rfl)
    have g33 := zz_G.r G_S1 1031 7 0 4095 rfl rfl
    have g34 := zz_G.r G_S1 1031 8 0 63 rfl rfl
    have g35 := zz_G.r G_S1 1031 9 0 31 rfl rfl
    refine zz_callVV [.ref 1034] zd_6_10_72 zk_Machine_88 zT_1031 (zz_ltn hn rfl) rfl rfl ⟨Nat.le_of_ble_eq_true rfl, Nat.le_of_ble_eq_true rfl⟩ ⟨rfl, rfl⟩ (Nat.zero_le _) (Nat.zero_le _) (zc_loadBytes_6_12_1034  S1 n hn G_S1 (by have h9 := hl; unfold zz_lcl at h9; rw [show zz_fy p0 0 15 = 2 by omega, show zz_fy p0 8 4095 = S1 1031 7 by omega, show zz_fy p0 20 63 = S1 1031 8 by omega, show zz_fy p0 26 31 = S1 1031 9 by omega, show zz_fy p0 31 511 = S1 1031 10 by omega, show zz_fy p0 40 511 = S1 1031 11 by omega, show zz_fy p0 49 1023 = S1 1031 12 by omega, show zz_fy p0 59 31 = S1 1031 13 by omega, show S0 1031 6 = S1 1031 6 by omega] at h9; exact h9)) (fun S36 hP => ?_)
    obtain ⟨G_S36, fS36⟩ := hP
    have F_S36 := zz_fr.trans F_S1 fS36 rfl zz_nv
    refine zz_goto zd_6_10_75 ?_
    exact zz_vret zd_6_10_120 rfl (Nat.zero_le _) (Nat.zero_le _) ⟨_, rfl, G_S36, F_S36⟩
  by_cases c38 : zz_fy p0 0 15 = 3
  · refine zz_swIn 3 68 c38 (by decide) zd_6_10_10 rfl rfl ?_
    refine zz_aload_n (x := 1031) rfl zd_6_10_78 ?_
    have g39 := zz_G.r G_S1 1031 10 0 511 rfl rfl
    have g40 := zz_G.r G_S1 1031 11 0 511 rfl rfl
    have g41 := zz_G.r G_S1 1031 12 0 1023 rfl rfl
    have g42 := zz_G.r G_S1 1031 13 0 31 rfl rfl
    have g43 := zz_G.r G_S0 1031 6 2 8 rfl rfl
    have e44 : S1 1031 6 = S0 1031 6 := (zz_rc fS1 rfl rfl (fun h => h) rfl)
    have g45 := zz_G.r G_S1 1031 7 0 4095 rfl rfl
    have g46 := zz_G.r G_S1 1031 8 0 63 rfl rfl
    have g47 := zz_G.r G_S1 1031 9 0 31 rfl rfl
    refine zz_callVV [] zd_6_10_79 zk_Machine_92 zT_1031 (zz_ltn hn rfl) rfl rfl ⟨Nat.le_of_ble_eq_true rfl, Nat.le_of_ble_eq_true rfl⟩ ⟨rfl, rfl⟩ (Nat.zero_le _) (Nat.zero_le _) (zc_clearCells_6_13  S1 n hn G_S1 (by have h9 := hl; unfold zz_lcl at h9; rw [show zz_fy p0 0 15 = 3 by omega, show zz_fy p0 8 4095 = S1 1031 7 by omega, show zz_fy p0 20 63 = S1 1031 8 by omega, show zz_fy p0 26 31 = S1 1031 9 by omega, show zz_fy p0 31 511 = S1 1031 10 by omega, show zz_fy p0 40 511 = S1 1031 11 by omega, show zz_fy p0 49 1023 = S1 1031 12 by omega, show zz_fy p0 59 31 = S1 1031 13 by omega, show S0 1031 6 = S1 1031 6 by omega] at h9; exact h9)) (fun S48 hP => ?_)
    obtain ⟨G_S48, fS48⟩ := hP
    have F_S48 := zz_fr.trans F_S1 fS48 rfl zz_nv
    refine zz_goto zd_6_10_82 ?_
    exact zz_vret zd_6_10_120 rfl (Nat.zero_le _) (Nat.zero_le _) ⟨_, rfl, G_S48, F_S48⟩
  by_cases c50 : zz_fy p0 0 15 = 4
  · refine zz_swIn 4 75 c50 (by decide) zd_6_10_10 rfl rfl ?_
    refine zz_aload_n (x := 1031) rfl zd_6_10_85 ?_
    have g51 := zz_G.r G_S1 1031 10 0 511 rfl rfl
    have g52 := zz_G.r G_S1 1031 11 0 511 rfl rfl
    have g53 := zz_G.r G_S1 1031 12 0 1023 rfl rfl
    have g54 := zz_G.r G_S1 1031 13 0 31 rfl rfl
    have g55 := zz_G.r G_S0 1031 6 2 8 rfl rfl
    have e56 : S1 1031 6 = S0 1031 6 := (zz_rc fS1 rfl rfl (fun h => h) rfl)
    have g57 := zz_G.r G_S1 1031 7 0 4095 rfl rfl
    have g58 := zz_G.r G_S1 1031 8 0 63 rfl rfl
    have g59 := zz_G.r G_S1 1031 9 0 31 rfl rfl
    refine zz_callVV [] zd_6_10_86 zk_Machine_95 zT_1031 (zz_ltn hn rfl) rfl rfl ⟨Nat.le_of_ble_eq_true rfl, Nat.le_of_ble_eq_true rfl⟩ ⟨rfl, rfl⟩ (Nat.zero_le _) (Nat.zero_le _) (zc_loadSums_6_14  S1 n hn G_S1 (by have h9 := hl; unfold zz_lcl at h9; rw [show zz_fy p0 0 15 = 4 by omega, show zz_fy p0 8 4095 = S1 1031 7 by omega, show zz_fy p0 20 63 = S1 1031 8 by omega, show zz_fy p0 26 31 = S1 1031 9 by omega, show zz_fy p0 31 511 = S1 1031 10 by omega, show zz_fy p0 40 511 = S1 1031 11 by omega, show zz_fy p0 49 1023 = S1 1031 12 by omega, show zz_fy p0 59 31 = S1 1031 13 by omega, show S0 1031 6 = S1 1031 6 by omega] at h9; exact h9)) (fun S60 hP => ?_)
    obtain ⟨G_S60, fS60⟩ := hP
    have F_S60 := zz_fr.trans F_S1 fS60 rfl zz_nv
    refine zz_goto zd_6_10_89 ?_
    exact zz_vret zd_6_10_120 rfl (Nat.zero_le _) (Nat.zero_le _) ⟨_, rfl, G_S60, F_S60⟩
  by_cases c62 : zz_fy p0 0 15 = 5
  · refine zz_swIn 5 82 c62 (by decide) zd_6_10_10 rfl rfl ?_
    refine zz_aload_n (x := 1031) rfl zd_6_10_92 ?_
    have g63 := zz_G.r G_S1 1031 10 0 511 rfl rfl
    have g64 := zz_G.r G_S1 1031 11 0 511 rfl rfl
    have g65 := zz_G.r G_S1 1031 12 0 1023 rfl rfl
    have g66 := zz_G.r G_S1 1031 13 0 31 rfl rfl
    have g67 := zz_G.r G_S0 1031 6 2 8 rfl rfl
    have e68 : S1 1031 6 = S0 1031 6 := (zz_rc fS1 rfl rfl (fun h => h) rfl)
    have g69 := zz_G.r G_S1 1031 7 0 4095 rfl rfl
    have g70 := zz_G.r G_S1 1031 8 0 63 rfl rfl
    have g71 := zz_G.r G_S1 1031 9 0 31 rfl rfl
    refine zz_callVV [] zd_6_10_93 zk_Machine_98 zT_1031 (zz_ltn hn rfl) rfl rfl ⟨Nat.le_of_ble_eq_true rfl, Nat.le_of_ble_eq_true rfl⟩ ⟨rfl, rfl⟩ (Nat.zero_le _) (Nat.zero_le _) (zc_multiply_6_15  S1 n hn G_S1 (by have h9 := hl; unfold zz_lcl at h9; rw [show zz_fy p0 0 15 = 5 by omega, show zz_fy p0 8 4095 = S1 1031 7 by omega, show zz_fy p0 20 63 = S1 1031 8 by omega, show zz_fy p0 26 31 = S1 1031 9 by omega, show zz_fy p0 31 511 = S1 1031 10 by omega, show zz_fy p0 40 511 = S1 1031 11 by omega, show zz_fy p0 49 1023 = S1 1031 12 by omega, show zz_fy p0 59 31 = S1 1031 13 by omega, show S0 1031 6 = S1 1031 6 by omega] at h9; exact h9)) (fun S72 hP => ?_)
    obtain ⟨G_S72, fS72⟩ := hP
    have F_S72 := zz_fr.trans F_S1 fS72 rfl zz_nv
    refine zz_goto zd_6_10_96 ?_
    exact zz_vret zd_6_10_120 rfl (Nat.zero_le _) (Nat.zero_le _) ⟨_, rfl, G_S72, F_S72⟩
  by_cases c74 : zz_fy p0 0 15 = 6
  · refine zz_swIn 6 89 c74 (by decide) zd_6_10_10 rfl rfl ?_
    refine zz_aload_n (x := 1031) rfl zd_6_10_99 ?_
    have g75 := zz_G.r G_S1 1031 10 0 511 rfl rfl
    have g76 := zz_G.r G_S1 1031 11 0 511 rfl rfl
    have g77 := zz_G.r G_S1 1031 12 0 1023 rfl rfl
    have g78 := zz_G.r G_S1 1031 13 0 31 rfl rfl
    have g79 := zz_G.r G_S0 1031 6 2 8 rfl rfl
    have e80 : S1 1031 6 = S0 1031 6 := (zz_rc fS1 rfl rfl (fun h => h) rfl)
    have g81 := zz_G.r G_S1 1031 7 0 4095 rfl rfl
    have g82 := zz_G.r G_S1 1031 8 0 63 rfl rfl
    have g83 := zz_G.r G_S1 1031 9 0 31 rfl rfl
    refine zz_callVV [] zd_6_10_100 zk_Machine_101 zT_1031 (zz_ltn hn rfl) rfl rfl ⟨Nat.le_of_ble_eq_true rfl, Nat.le_of_ble_eq_true rfl⟩ ⟨rfl, rfl⟩ (Nat.zero_le _) (Nat.zero_le _) (zc_combine_6_16  S1 n hn G_S1 (by have h9 := hl; unfold zz_lcl at h9; rw [show zz_fy p0 0 15 = 6 by omega, show zz_fy p0 8 4095 = S1 1031 7 by omega, show zz_fy p0 20 63 = S1 1031 8 by omega, show zz_fy p0 26 31 = S1 1031 9 by omega, show zz_fy p0 31 511 = S1 1031 10 by omega, show zz_fy p0 40 511 = S1 1031 11 by omega, show zz_fy p0 49 1023 = S1 1031 12 by omega, show zz_fy p0 59 31 = S1 1031 13 by omega, show S0 1031 6 = S1 1031 6 by omega] at h9; exact h9)) (fun S84 hP => ?_)
    obtain ⟨G_S84, fS84⟩ := hP
    have F_S84 := zz_fr.trans F_S1 fS84 rfl zz_nv
    refine zz_goto zd_6_10_103 ?_
    exact zz_vret zd_6_10_120 rfl (Nat.zero_le _) (Nat.zero_le _) ⟨_, rfl, G_S84, F_S84⟩
  by_cases c86 : zz_fy p0 0 15 = 7
  · refine zz_swIn 7 96 c86 (by decide) zd_6_10_10 rfl rfl ?_
    refine zz_aload_n (x := 1031) rfl zd_6_10_106 ?_
    have g87 := zz_G.r G_S1 1031 10 0 511 rfl rfl
    have g88 := zz_G.r G_S1 1031 11 0 511 rfl rfl
    have g89 := zz_G.r G_S1 1031 12 0 1023 rfl rfl
    have g90 := zz_G.r G_S1 1031 13 0 31 rfl rfl
    have g91 := zz_G.r G_S0 1031 6 2 8 rfl rfl
    have e92 : S1 1031 6 = S0 1031 6 := (zz_rc fS1 rfl rfl (fun h => h) rfl)
    have g93 := zz_G.r G_S1 1031 7 0 4095 rfl rfl
    have g94 := zz_G.r G_S1 1031 8 0 63 rfl rfl
    have g95 := zz_G.r G_S1 1031 9 0 31 rfl rfl
    refine zz_callVV [] zd_6_10_107 zk_Machine_104 zT_1031 (zz_ltn hn rfl) rfl rfl ⟨Nat.le_of_ble_eq_true rfl, Nat.le_of_ble_eq_true rfl⟩ ⟨rfl, rfl⟩ (Nat.zero_le _) (Nat.zero_le _) (zc_narrow_6_17  S1 n hn G_S1 (by have h9 := hl; unfold zz_lcl at h9; rw [show zz_fy p0 0 15 = 7 by omega, show zz_fy p0 8 4095 = S1 1031 7 by omega, show zz_fy p0 20 63 = S1 1031 8 by omega, show zz_fy p0 26 31 = S1 1031 9 by omega, show zz_fy p0 31 511 = S1 1031 10 by omega, show zz_fy p0 40 511 = S1 1031 11 by omega, show zz_fy p0 49 1023 = S1 1031 12 by omega, show zz_fy p0 59 31 = S1 1031 13 by omega, show S0 1031 6 = S1 1031 6 by omega] at h9; exact h9)) (fun S96 hP => ?_)
    obtain ⟨G_S96, fS96⟩ := hP
    have F_S96 := zz_fr.trans F_S1 fS96 rfl zz_nv
    refine zz_goto zd_6_10_110 ?_
    exact zz_vret zd_6_10_120 rfl (Nat.zero_le _) (Nat.zero_le _) ⟨_, rfl, G_S96, F_S96⟩
  by_cases c98 : zz_fy p0 0 15 = 8
  · refine zz_swIn 8 103 c98 (by decide) zd_6_10_10 rfl rfl ?_
    refine zz_aload_n (x := 1031) rfl zd_6_10_113 ?_
    have g99 := zz_G.r G_S1 1031 10 0 511 rfl rfl
    have g100 := zz_G.r G_S1 1031 11 0 511 rfl rfl
    have g101 := zz_G.r G_S1 1031 12 0 1023 rfl rfl
    have g102 := zz_G.r G_S1 1031 13 0 31 rfl rfl
    have g103 := zz_G.r G_S0 1031 6 2 8 rfl rfl
    have e104 : S1 1031 6 = S0 1031 6 := (zz_rc fS1 rfl rfl (fun h => h) rfl)
    have g105 := zz_G.r G_S1 1031 7 0 4095 rfl rfl
    have g106 := zz_G.r G_S1 1031 8 0 63 rfl rfl
    have g107 := zz_G.r G_S1 1031 9 0 31 rfl rfl
    refine zz_callVV [] zd_6_10_114 zk_Machine_107 zT_1031 (zz_ltn hn rfl) rfl rfl ⟨Nat.le_of_ble_eq_true rfl, Nat.le_of_ble_eq_true rfl⟩ ⟨rfl, rfl⟩ (Nat.zero_le _) (Nat.zero_le _) (zc_store_6_18  S1 n hn G_S1 (by have h9 := hl; unfold zz_lcl at h9; rw [show zz_fy p0 0 15 = 8 by omega, show zz_fy p0 8 4095 = S1 1031 7 by omega, show zz_fy p0 20 63 = S1 1031 8 by omega, show zz_fy p0 26 31 = S1 1031 9 by omega, show zz_fy p0 31 511 = S1 1031 10 by omega, show zz_fy p0 40 511 = S1 1031 11 by omega, show zz_fy p0 49 1023 = S1 1031 12 by omega, show zz_fy p0 59 31 = S1 1031 13 by omega, show S0 1031 6 = S1 1031 6 by omega] at h9; exact h9)) (fun S108 hP => ?_)
    obtain ⟨G_S108, fS108⟩ := hP
    have F_S108 := zz_fr.trans F_S1 fS108 rfl zz_nv
    refine zz_goto zd_6_10_117 ?_
    exact zz_vret zd_6_10_120 rfl (Nat.zero_le _) (Nat.zero_le _) ⟨_, rfl, G_S108, F_S108⟩
  refine zz_swOut (by omega) (by omega) zd_6_10_10 rfl ?_
  exact zz_vret zd_6_10_120 rfl (Nat.zero_le _) (Nat.zero_le _) ⟨_, rfl, G_S1, F_S1⟩
theorem zk_Run_146 : mm_Vl "TensorForge$Run" 146 3 1 zy_perform_6_10 := ⟨zyw_perform_6_10, (R_Machine, F_Machine, 14), rfl, mm_tb_1 790 (by decide +kernel) rfl, mm_tb_1 791 (by decide +kernel) rfl, mm_tb_1 792 (by decide +kernel) rfl⟩
theorem zg_10_10_117 : zq_at zy_begin_10_10.2.1 117 177 := by decide +kernel
theorem zd_10_10_117 : zz_D zy_begin_10_10 117 (.return_) 1 118 := ⟨zq_177 zg_10_10_117, rfl⟩
-- TensorForge$Run begin (III)V
abbrev zr_begin_10_10 : Room := { frames := 4, cells := 0, slots := 0, locals := 63 }
def zp_begin_10_10 (p0 : Int) (p1 : Int) (p2 : Int) (S0 : zz_S) : zz_S → Prop := fun S => zz_G S ∧ zz_fr [(1031, 7), (1031, 8), (1031, 9), (1031, 10), (1031, 11), (1031, 12), (1031, 13), (1042, 8)] [1032, 1033, 1034, 1035, 1036, 1043, 1045, 1046, 1047, 1048, 1049] (fun _ _ => False) S0 S
theorem zc_begin_10_10 {g : mm_G} {l : Launch} (p0 : Int) (p1 : Int) (p2 : Int) (S0 : zz_S) (n : Nat) (hn : zz_end ≤ n) (G_S0 : zz_G S0) (hp0 : 0 ≤ p0 ∧ p0 ≤ 2) (hp1 : 0 ≤ p1 ∧ p1 ≤ 599) (hp2 : (-2147483648) ≤ p2 ∧ p2 ≤ 2147483647) (hl : zz_lcl (S0 1044 p1.toNat) (S0 1031 6)) : mm_Met g l zy_begin_10_10 zr_begin_10_10 [.ref 1042, zi p0, zi p1, zi p2] (zz_M S0 n) n (zz_QV n (zp_begin_10_10 p0 p1 p2 S0)) := by
  refine zz_enter (by decide) (Nat.le_of_ble_eq_true rfl) (zz_less (ls1 := [some (.ref 1042), some (zi p0), some (zi p1), some (zi p2)]) ⟨rfl, ⟨rfl, ⟨rfl, ⟨rfl, trivial⟩⟩⟩⟩ ?_)
  have F_S0 : zz_fr [(1031, 7), (1031, 8), (1031, 9), (1031, 10), (1031, 11), (1031, 12), (1031, 13), (1042, 8)] [1032, 1033, 1034, 1035, 1036, 1043, 1045, 1046, 1047, 1048, 1049] (fun _ _ => False) S0 S0 := zz_fr.refl
  refine zz_aload_n (x := 1042) rfl zd_10_10_0 ?_
  refine zz_getr (kd := 0) (z := 1044) zd_10_10_1 zf_Run_19 zT_1042 rfl (zz_ltn hn rfl) (zz_G.eq G_S0 1042 2 1044 rfl rfl) (by decide) 1044 rfl ?_
  refine zz_iload_n (x := p1) rfl zd_10_10_4 ?_
  have g1 := zz_G.r G_S0 1044 p1.toNat (-9223372036854775808) 9223372036854775807 rfl rfl
  refine zz_lald (z := S0 1044 p1.toNat) zd_10_10_5 zT_1044 rfl (zz_ltn hn rfl) (by decide) (by omega) rfl ?_
  refine zz_aload_n (x := 1042) rfl zd_10_10_6 ?_
  refine zz_getr (kd := 0) (z := 1031) zd_10_10_7 zf_Run_9 zT_1042 rfl (zz_ltn hn rfl) (zz_G.eq G_S0 1042 0 1031 rfl rfl) (by decide) 1031 rfl ?_
  have g2 := zz_G.r G_S0 1031 6 2 8 rfl rfl
  refine zz_geti (z := S0 1031 6) zd_10_10_10 zf_Run_121 zT_1031 rfl (zz_ltn hn rfl) rfl ?_
  refine zz_callSI [zl (S0 1044 p1.toNat), zi (S0 1031 6)] zd_10_10_13 zk_Run_139 rfl rfl ⟨Nat.le_of_ble_eq_true rfl, Nat.le_of_ble_eq_true rfl⟩ ⟨rfl, rfl⟩ (Nat.zero_le _) (Nat.zero_le _) (zc_cyclesOf_12_11 (S0 1044 p1.toNat) (S0 1031 6) S0 n hn G_S0 (by omega) (by omega)) (fun v4 S3 hP => ?_)
  obtain ⟨rfl, o5⟩ := hP
  refine zz_istore [some (.ref 1042), some (zi p0), some (zi p1), some (zi p2), some (zi v4)] zd_10_10_16 (by decide) rfl ?_
  refine zz_aload_n (x := 1042) rfl zd_10_10_18 ?_
  refine zz_iload_n (x := p0) rfl zd_10_10_19 ?_
  refine zz_aload_n (x := 1042) rfl zd_10_10_20 ?_
  refine zz_getr (kd := 0) (z := 1044) zd_10_10_21 zf_Run_19 zT_1042 rfl (zz_ltn hn rfl) (zz_G.eq G_S0 1042 2 1044 rfl rfl) (by decide) 1044 rfl ?_
  refine zz_iload_n (x := p1) rfl zd_10_10_24 ?_
  refine zz_lald (z := S0 1044 p1.toNat) zd_10_10_25 zT_1044 rfl (zz_ltn hn rfl) (by decide) (by omega) rfl ?_
  refine zz_callVV [zi p0, zl (S0 1044 p1.toNat)] zd_10_10_26 zk_Run_143 zT_1042 (zz_ltn hn rfl) rfl rfl ⟨Nat.le_of_ble_eq_true rfl, Nat.le_of_ble_eq_true rfl⟩ ⟨rfl, rfl⟩ (Nat.zero_le _) (Nat.zero_le _) (zc_popTokens_10_20 p0 (S0 1044 p1.toNat) S0 n hn G_S0 (by omega) (by omega)) (fun S6 hP => ?_)
  obtain ⟨G_S6, fS6⟩ := hP
  have F_S6 := zz_fr.trans F_S0 fS6 rfl zz_nv
  refine zz_aload_n (x := 1042) rfl zd_10_10_29 ?_
  refine zz_getr (kd := 0) (z := 1045) zd_10_10_30 zf_Run_23 zT_1042 rfl (zz_ltn hn rfl) (zz_G.eq G_S6 1042 3 1045 rfl rfl) (by decide) 1045 rfl ?_
  refine zz_iload_n (x := p1) rfl zd_10_10_33 ?_
  refine zz_iload_n (x := p2) rfl zd_10_10_34 ?_
  refine zz_iast zd_10_10_35 zT_1045 rfl (zz_ltn hn rfl) (by decide) (by omega) (fun S8 qS8 => ?_)
  have G_S8 := zz_G.put G_S6 qS8 (-2147483648) 2147483647 rfl (by omega)
  have F_S8 := zz_fr.putc F_S6 qS8 rfl
  refine zz_aload_n (x := 1042) rfl zd_10_10_36 ?_
  refine zz_getr (kd := 0) (z := 1046) zd_10_10_37 zf_Run_26 zT_1042 rfl (zz_ltn hn rfl) (zz_G.eq G_S8 1042 4 1046 rfl rfl) (by decide) 1046 rfl ?_
  refine zz_iload_n (x := p1) rfl zd_10_10_40 ?_
  refine zz_iload_n (x := p2) rfl zd_10_10_41 ?_
  refine zz_iload (x := v4) rfl zd_10_10_42 ?_
  refine zz_iadd zd_10_10_44 ?_
  refine zz_nrm (fun v9 hv9 ev9 => ?_)
  refine zz_iast zd_10_10_45 zT_1046 rfl (zz_ltn hn rfl) (by decide) (by omega) (fun S10 qS10 => ?_)
  have G_S10 := zz_G.put G_S8 qS10 (-2147483648) 2147483647 rfl (by omega)
  have F_S10 := zz_fr.putc F_S8 qS10 rfl
  refine zz_aload_n (x := 1042) rfl zd_10_10_46 ?_
  refine zz_getr (kd := 0) (z := 1043) zd_10_10_47 zf_Run_15 zT_1042 rfl (zz_ltn hn rfl) (zz_G.eq G_S10 1042 1 1043 rfl rfl) (by decide) 1043 rfl ?_
  refine zz_iconst zd_10_10_50 ?_
  refine zz_iload_n (x := p0) rfl zd_10_10_51 ?_
  refine zz_iadd zd_10_10_52 ?_
  refine zz_dup2_11 rfl rfl zd_10_10_53 ?_
  have g11 := zz_G.r G_S6 1043 ((3 + p0).toNat) (-2147483648) 2147483647 rfl rfl
  refine zz_iald (z := S6 1043 ((3 + p0).toNat)) zd_10_10_54 zT_1043 rfl (zz_ltn hn rfl) (by decide) (by omega) (zz_ro qS10 (fun h => absurd h.1 (by decide)) (zz_ro qS8 (fun h => absurd h.1 (by decide)) rfl)) ?_
  refine zz_iload (x := v4) rfl zd_10_10_55 ?_
  refine zz_iadd zd_10_10_57 ?_
  refine zz_nrm (fun v12 hv12 ev12 => ?_)
  refine zz_iast zd_10_10_58 zT_1043 rfl (zz_ltn hn rfl) (by decide) (by omega) (fun S13 qS13 => ?_)
  have G_S13 := zz_G.put G_S10 qS13 (-2147483648) 2147483647 rfl (by omega)
  have F_S13 := zz_fr.putc F_S10 qS13 rfl
  refine zz_aload_n (x := 1042) rfl zd_10_10_59 ?_
  refine zz_getr (kd := 0) (z := 1048) zd_10_10_60 zf_Run_32 zT_1042 rfl (zz_ltn hn rfl) (zz_G.eq G_S13 1042 6 1048 rfl rfl) (by decide) 1048 rfl ?_
  refine zz_iload_n (x := p0) rfl zd_10_10_63 ?_
  refine zz_iload_n (x := p1) rfl zd_10_10_64 ?_
  refine zz_iast zd_10_10_65 zT_1048 rfl (zz_ltn hn rfl) (by decide) (by omega) (fun S14 qS14 => ?_)
  have G_S14 := zz_G.put G_S13 qS14 (-1) 600 rfl (by omega)
  have F_S14 := zz_fr.putc F_S13 qS14 rfl
  refine zz_aload_n (x := 1042) rfl zd_10_10_66 ?_
  refine zz_getr (kd := 0) (z := 1047) zd_10_10_67 zf_Run_29 zT_1042 rfl (zz_ltn hn rfl) (zz_G.eq G_S14 1042 5 1047 rfl rfl) (by decide) 1047 rfl ?_
  refine zz_iload_n (x := p0) rfl zd_10_10_70 ?_
  refine zz_aload_n (x := 1042) rfl zd_10_10_71 ?_
  refine zz_iload_n (x := p0) rfl zd_10_10_72 ?_
  refine zz_iload_n (x := p1) rfl zd_10_10_73 ?_
  refine zz_iconst zd_10_10_74 ?_
  refine zz_iadd zd_10_10_75 ?_
  refine zz_callVI [zi p0, zi (p1 + 1)] zd_10_10_76 zk_Run_98 zT_1042 (zz_ltn hn rfl) rfl rfl ⟨Nat.le_of_ble_eq_true rfl, Nat.le_of_ble_eq_true rfl⟩ ⟨rfl, rfl⟩ (Nat.zero_le _) (Nat.zero_le _) (zc_nextOf_10_6 p0 (p1 + 1) S14 n hn G_S14 (by omega) (by omega)) (fun v16 S15 hP => ?_)
  obtain ⟨rfl, o17⟩ := hP
  refine zz_iast zd_10_10_79 zT_1047 rfl (zz_ltn hn rfl) (by decide) (by omega) (fun S18 qS18 => ?_)
  have G_S18 := zz_G.put G_S14 qS18 (-1) 600 rfl (by omega)
  have F_S18 := zz_fr.putc F_S14 qS18 rfl
  refine zz_aload_n (x := 1042) rfl zd_10_10_80 ?_
  refine zz_getr (kd := 0) (z := 1049) zd_10_10_81 zf_Run_37 zT_1042 rfl (zz_ltn hn rfl) (zz_G.eq G_S18 1042 7 1049 rfl rfl) (by decide) 1049 rfl ?_
  refine zz_iload_n (x := p0) rfl zd_10_10_84 ?_
  have g19 := zz_G.r G_S0 1049 p0.toNat 0 3 rfl rfl
  refine zz_aald (kd := 3) (z := S0 1049 p0.toNat) zd_10_10_85 zT_1049 rfl (zz_ltn hn rfl) (by decide) (by omega) (zz_ro qS18 (fun h => absurd h.1 (by decide)) (zz_ro qS14 (fun h => absurd h.1 (by decide)) (zz_ro qS13 (fun h => absurd h.1 (by decide)) (zz_ro qS10 (fun h => absurd h.1 (by decide)) (zz_ro qS8 (fun h => absurd h.1 (by decide)) (zz_rc fS6 (zz_nc1 rfl) rfl (fun h => h) rfl)))))) (by omega) (zz_rf 5 (S0 1049 p0.toNat)) rfl ?_
  refine zz_astore [some (.ref 1042), some (zi p0), some (zi p1), some (zi p2), some (zi v4), some (.ref (zz_rf 5 (S0 1049 p0.toNat)))] zd_10_10_86 (by decide) rfl ?_
  refine zz_aload_n (x := 1042) rfl zd_10_10_88 ?_
  refine zz_getr (kd := 0) (z := 1049) zd_10_10_89 zf_Run_37 zT_1042 rfl (zz_ltn hn rfl) (zz_G.eq G_S18 1042 7 1049 rfl rfl) (by decide) 1049 rfl ?_
  refine zz_iload_n (x := p0) rfl zd_10_10_92 ?_
  refine zz_aload_n (x := 1042) rfl zd_10_10_93 ?_
  have g20 := zz_G.r G_S0 1042 8 0 3 rfl rfl
  refine zz_getr (kd := 3) (z := S0 1042 8) zd_10_10_94 zf_Run_42 zT_1042 rfl (zz_ltn hn rfl) (zz_ro qS18 (fun h => absurd h.1 (by decide)) (zz_ro qS14 (fun h => absurd h.1 (by decide)) (zz_ro qS13 (fun h => absurd h.1 (by decide)) (zz_ro qS10 (fun h => absurd h.1 (by decide)) (zz_ro qS8 (fun h => absurd h.1 (by decide)) (zz_rc fS6 rfl rfl (fun h => h) rfl)))))) (by omega) (zz_rf 5 (S0 1042 8)) rfl ?_
  refine zz_aast (kd := 3) (S0 1042 8) zd_10_10_97 zT_1049 rfl (ci := 4) rfl (zT_k5 (by omega)) (zz_ltn hn rfl) (zN_k5 hn (by omega)) (by decide) (by omega) (by omega) rfl (fun S21 qS21 => ?_)
  have G_S21 := zz_G.put G_S18 qS21 0 3 rfl (by omega)
  have F_S21 := zz_fr.putc F_S18 qS21 rfl
  refine zz_aload_n (x := 1042) rfl zd_10_10_98 ?_
  refine zz_aload (x := zz_rf 5 (S0 1049 p0.toNat)) rfl zd_10_10_99 ?_
  refine zz_putr (kd := 3) (S0 1049 p0.toNat) zd_10_10_101 zf_Run_42 zT_1042 rfl (zz_ltn hn rfl) (by omega) rfl (fun _ => rfl) (fun _ => rfl) (fun S22 qS22 => ?_)
  have G_S22 := zz_G.put G_S21 qS22 0 3 rfl (by omega)
  have F_S22 := zz_fr.puts F_S21 qS22 rfl
  refine zz_aload_n (x := 1042) rfl zd_10_10_104 ?_
  refine zz_getr (kd := 0) (z := 1031) zd_10_10_105 zf_Run_9 zT_1042 rfl (zz_ltn hn rfl) (zz_G.eq G_S22 1042 0 1031 rfl rfl) (by decide) 1031 rfl ?_
  refine zz_aload_n (x := 1042) rfl zd_10_10_108 ?_
  refine zz_getr (kd := 0) (z := 1044) zd_10_10_109 zf_Run_19 zT_1042 rfl (zz_ltn hn rfl) (zz_G.eq G_S22 1042 2 1044 rfl rfl) (by decide) 1044 rfl ?_
  refine zz_iload_n (x := p1) rfl zd_10_10_112 ?_
  refine zz_lald (z := S0 1044 p1.toNat) zd_10_10_113 zT_1044 rfl (zz_ltn hn rfl) (by decide) (by omega) (zz_ro qS22 (fun h => absurd h.1 (by decide)) (zz_ro qS21 (fun h => absurd h.1 (by decide)) (zz_ro qS18 (fun h => absurd h.1 (by decide)) (zz_ro qS14 (fun h => absurd h.1 (by decide)) (zz_ro qS13 (fun h => absurd h.1 (by decide)) (zz_ro qS10 (fun h => absurd h.1 (by decide)) (zz_ro qS8 (fun h => absurd h.1 (by decide)) (zz_rc fS6 (zz_nc1 rfl) rfl (fun h => h) rfl)))))))) ?_
  have e23 : S22 1031 6 = S0 1031 6 := (zz_ro qS22 (fun h => absurd h.1 (by decide)) (zz_ro qS21 (fun h => absurd h.1 (by decide)) (zz_ro qS18 (fun h => absurd h.1 (by decide)) (zz_ro qS14 (fun h => absurd h.1 (by decide)) (zz_ro qS13 (fun h => absurd h.1 (by decide)) (zz_ro qS10 (fun h => absurd h.1 (by decide)) (zz_ro qS8 (fun h => absurd h.1 (by decide)) (zz_rc fS6 rfl rfl (fun h => h) rfl))))))))
  refine zz_callVV [zl (S0 1044 p1.toNat)] zd_10_10_114 zk_Run_146 zT_1031 (zz_ltn hn rfl) rfl rfl ⟨Nat.le_of_ble_eq_true rfl, Nat.le_of_ble_eq_true rfl⟩ ⟨rfl, rfl⟩ (Nat.zero_le _) (Nat.zero_le _) (zc_perform_6_10 (S0 1044 p1.toNat) S22 n hn G_S22 (by omega) (by rw [show S22 1031 6 = S0 1031 6 by omega]; exact hl)) (fun S24 hP => ?_)
  obtain ⟨G_S24, fS24⟩ := hP
  have F_S24 := zz_fr.trans F_S22 fS24 rfl zz_nv
  exact zz_vret zd_10_10_117 rfl (Nat.zero_le _) (Nat.zero_le _) ⟨_, rfl, G_S24, F_S24⟩
theorem zk_Run_132 : mm_Vl "TensorForge$Run" 132 5 3 zy_begin_10_10 := ⟨zyw_begin_10_10, (R_Run, F_Run, 10), rfl, mm_tb_1 779 (by decide +kernel) rfl, mm_tb_1 781 (by decide +kernel) rfl, mm_tb_s 25 (by decide +kernel) rfl⟩
theorem zg_10_8_77 : zq_at zy_beginAt_10_8.2.1 77 29 ∧ zq_at zy_beginAt_10_8.2.1 78 172 ∧ zq_at zy_beginAt_10_8.2.1 92 2 ∧ zq_at zy_beginAt_10_8.2.1 93 172 := by decide +kernel
theorem zd_10_8_77 : zz_D zy_beginAt_10_8 77 (.iload_n 3) 1 78 := ⟨zq_29 zg_10_8_77.1, rfl⟩
theorem zd_10_8_78 : zz_D zy_beginAt_10_8 78 (.ireturn) 1 79 := ⟨zq_172 zg_10_8_77.2.1, rfl⟩
theorem zd_10_8_92 : zz_D zy_beginAt_10_8 92 (.iconst (-1)) 1 93 := ⟨zq_2 zg_10_8_77.2.2.1, rfl⟩
theorem zd_10_8_93 : zz_D zy_beginAt_10_8 93 (.ireturn) 1 94 := ⟨zq_172 zg_10_8_77.2.2.2, rfl⟩
-- TensorForge$Run beginAt (I)I
abbrev zr_beginAt_10_8 : Room := { frames := 5, cells := 0, slots := 0, locals := 80 }
def zp_beginAt_10_8 (p0 : Int) (S0 : zz_S) : Int → zz_S → Prop := fun r S => zz_G S ∧ zz_fr [(1031, 7), (1031, 8), (1031, 9), (1031, 10), (1031, 11), (1031, 12), (1031, 13), (1042, 8)] [1032, 1033, 1034, 1035, 1036, 1038, 1039, 1040, 1041, 1043, 1045, 1046, 1047, 1048, 1049, 1051, 1052, 1053, 1054, 1056, 1057, 1058, 1059, 1061, 1062, 1063, 1064, 1066, 1067, 1068, 1069] (fun _ _ => False) S0 S ∧ ((-1) ≤ r ∧ r ≤ 599)
theorem zb_beginAt_10_8_2 {g : mm_G} {l : Launch} (p0 : Int) (S0 : zz_S) (n : Nat) (hn : zz_end ≤ n) (G_S0 : zz_G S0) (hp0 : (-2147483648) ≤ p0 ∧ p0 ≤ 2147483647) (hL : ∀ u : Nat, (u : Int) < S0 1042 9 → zz_lcl (S0 1044 u) (S0 1031 6)) (x2 : Int) (S : zz_S) (G_S : zz_G S) (F_S : zz_fr [(1031, 7), (1031, 8), (1031, 9), (1031, 10), (1031, 11), (1031, 12), (1031, 13), (1042, 8)] [1032, 1033, 1034, 1035, 1036, 1038, 1039, 1040, 1041, 1043, 1045, 1046, 1047, 1048, 1049, 1051, 1052, 1053, 1054, 1056, 1057, 1058, 1059, 1061, 1062, 1063, 1064, 1066, 1067, 1068, 1069] (fun _ _ => False) S0 S) (i2_0 : 0 ≤ x2 ∧ x2 ≤ 3) (R : Nat) (hR : (3 - x2).toNat = R) (k2 : ∀ (x2 : Int) (S : zz_S), zz_G S → zz_fr [(1031, 7), (1031, 8), (1031, 9), (1031, 10), (1031, 11), (1031, 12), (1031, 13), (1042, 8)] [1032, 1033, 1034, 1035, 1036, 1038, 1039, 1040, 1041, 1043, 1045, 1046, 1047, 1048, 1049, 1051, 1052, 1053, 1054, 1056, 1057, 1058, 1059, 1061, 1062, 1063, 1064, 1066, 1067, 1068, 1069] (fun _ _ => False) S0 S → (0 ≤ x2 ∧ x2 ≤ 3) → (3 - x2).toNat < R → zz_E g l zy_beginAt_10_8 zr_beginAt_10_8 (zz_QI n (zp_beginAt_10_8 p0 S0)) S n 2 [some (.ref 1042), some (zi p0), some (zi x2)] [] 0 0) : zz_E g l zy_beginAt_10_8 zr_beginAt_10_8 (zz_QI n (zp_beginAt_10_8 p0 S0)) S n 2 [some (.ref 1042), some (zi p0), some (zi x2)] [] 0 0 := by
  refine zz_iload_n (x := x2) rfl zd_10_8_2 ?_
  refine zz_iconst zd_10_8_3 ?_
  refine zz_icmp_ge (by omega) (by omega) zd_10_8_4 (fun c1 => ?_) (fun c1 => ?_)
  · refine zz_iconst zd_10_8_92 ?_
    exact zz_iret zd_10_8_93 rfl (Nat.zero_le _) (Nat.zero_le _) ⟨_, _, rfl, G_S, F_S, by omega⟩
  · refine zz_aload_n (x := 1042) rfl zd_10_8_7 ?_
    refine zz_getr (kd := 0) (z := 1047) zd_10_8_8 zf_Run_29 zT_1042 rfl (zz_ltn hn rfl) (zz_G.eq G_S 1042 5 1047 rfl rfl) (by decide) 1047 rfl ?_
    refine zz_iload_n (x := x2) rfl zd_10_8_11 ?_
    have g2 := zz_G.r G_S 1047 x2.toNat (-1) 600 rfl rfl
    refine zz_iald (z := S 1047 x2.toNat) zd_10_8_12 zT_1047 rfl (zz_ltn hn rfl) (by decide) (by omega) rfl ?_
    refine zz_istore_n [some (.ref 1042), some (zi p0), some (zi x2), some (zi (S 1047 x2.toNat))] zd_10_8_13 (by decide) rfl ?_
    refine zz_iload_n (x := S 1047 x2.toNat) rfl zd_10_8_14 ?_
    refine zz_if_lt (by omega) zd_10_8_15 (fun c3 => ?_) (fun c3 => ?_)
    · refine zz_iinc [some (.ref 1042), some (zi p0), some (zi (x2 + 1)), some (zi (S 1047 x2.toNat))] zd_10_8_86 rfl rfl ?_
      refine zz_goto zd_10_8_89 ?_
      refine zz_less (ls1 := [some (.ref 1042), some (zi p0), some (zi (x2 + 1))]) ⟨rfl, ⟨rfl, ⟨rfl, trivial⟩⟩⟩ ?_
      exact k2 (x2 + 1) S G_S F_S (by omega) (by omega)
    · refine zz_iload_n (x := S 1047 x2.toNat) rfl zd_10_8_18 ?_
      refine zz_aload_n (x := 1042) rfl zd_10_8_19 ?_
      have g4 := zz_G.r G_S0 1042 9 0 600 rfl rfl
      refine zz_geti (z := S0 1042 9) zd_10_8_20 zf_Run_46 zT_1042 rfl (zz_ltn hn rfl) (zz_rc F_S rfl rfl (fun h => h) rfl) ?_
      refine zz_icmp_ge (by omega) (by omega) zd_10_8_23 (fun c5 => ?_) (fun c5 => ?_)
      · refine zz_iinc [some (.ref 1042), some (zi p0), some (zi (x2 + 1)), some (zi (S 1047 x2.toNat))] zd_10_8_86 rfl rfl ?_
        refine zz_goto zd_10_8_89 ?_
        refine zz_less (ls1 := [some (.ref 1042), some (zi p0), some (zi (x2 + 1))]) ⟨rfl, ⟨rfl, ⟨rfl, trivial⟩⟩⟩ ?_
        exact k2 (x2 + 1) S G_S F_S (by omega) (by omega)
      · refine zz_aload_n (x := 1042) rfl zd_10_8_26 ?_
        refine zz_getr (kd := 0) (z := 1048) zd_10_8_27 zf_Run_32 zT_1042 rfl (zz_ltn hn rfl) (zz_G.eq G_S 1042 6 1048 rfl rfl) (by decide) 1048 rfl ?_
        refine zz_iload_n (x := x2) rfl zd_10_8_30 ?_
        have g6 := zz_G.r G_S 1048 x2.toNat (-1) 600 rfl rfl
        refine zz_iald (z := S 1048 x2.toNat) zd_10_8_31 zT_1048 rfl (zz_ltn hn rfl) (by decide) (by omega) rfl ?_
        refine zz_iconst zd_10_8_32 ?_
        refine zz_icmp_ne (by omega) (by omega) zd_10_8_33 (fun c7 => ?_) (fun c7 => ?_)
        · refine zz_iinc [some (.ref 1042), some (zi p0), some (zi (x2 + 1)), some (zi (S 1047 x2.toNat))] zd_10_8_86 rfl rfl ?_
          refine zz_goto zd_10_8_89 ?_
          refine zz_less (ls1 := [some (.ref 1042), some (zi p0), some (zi (x2 + 1))]) ⟨rfl, ⟨rfl, ⟨rfl, trivial⟩⟩⟩ ?_
          exact k2 (x2 + 1) S G_S F_S (by omega) (by omega)
        · refine zz_aload_n (x := 1042) rfl zd_10_8_36 ?_
          refine zz_iload_n (x := x2) rfl zd_10_8_37 ?_
          refine zz_aload_n (x := 1042) rfl zd_10_8_38 ?_
          refine zz_getr (kd := 0) (z := 1044) zd_10_8_39 zf_Run_19 zT_1042 rfl (zz_ltn hn rfl) (zz_G.eq G_S 1042 2 1044 rfl rfl) (by decide) 1044 rfl ?_
          refine zz_iload_n (x := S 1047 x2.toNat) rfl zd_10_8_42 ?_
          have g8 := zz_G.r G_S0 1044 ((S 1047 x2.toNat).toNat) (-9223372036854775808) 9223372036854775807 rfl rfl
          refine zz_lald (z := S0 1044 ((S 1047 x2.toNat).toNat)) zd_10_8_43 zT_1044 rfl (zz_ltn hn rfl) (by decide) (by omega) (zz_rc F_S (zz_nc1 rfl) rfl (fun h => h) rfl) ?_
          refine zz_callVI [zi x2, zl (S0 1044 ((S 1047 x2.toNat).toNat))] zd_10_8_44 zk_Run_117 zT_1042 (zz_ltn hn rfl) rfl rfl ⟨Nat.le_of_ble_eq_true rfl, Nat.le_of_ble_eq_true rfl⟩ ⟨rfl, rfl⟩ (Nat.zero_le _) (Nat.zero_le _) (zc_hasTokens_10_19 x2 (S0 1044 ((S 1047 x2.toNat).toNat)) S n hn G_S (by omega) (by omega)) (fun v10 S9 hP => ?_)
          obtain ⟨rfl, o11⟩ := hP
          rcases (by omega : v10 = 0 ∨ v10 = 1) with rfl | rfl
          · refine zz_if_eq (by omega) zd_10_8_47 (fun c12 => ?_) (fun c12 => ?_)
            · refine zz_iinc [some (.ref 1042), some (zi p0), some (zi (x2 + 1)), some (zi (S 1047 x2.toNat))] zd_10_8_86 rfl rfl ?_
              refine zz_goto zd_10_8_89 ?_
              refine zz_less (ls1 := [some (.ref 1042), some (zi p0), some (zi (x2 + 1))]) ⟨rfl, ⟨rfl, ⟨rfl, trivial⟩⟩⟩ ?_
              exact k2 (x2 + 1) S G_S F_S (by omega) (by omega)
            · exfalso; omega
          · refine zz_if_eq (by omega) zd_10_8_47 (fun c13 => ?_) (fun c13 => ?_)
            · exfalso; omega
            · refine zz_aload_n (x := 1042) rfl zd_10_8_50 ?_
              have g14 := zz_G.r G_S 1042 8 0 3 rfl rfl
              refine zz_getr (kd := 3) (z := S 1042 8) zd_10_8_51 zf_Run_42 zT_1042 rfl (zz_ltn hn rfl) rfl (by omega) (zz_rf 5 (S 1042 8)) rfl ?_
              refine zz_aload_n (x := 1042) rfl zd_10_8_54 ?_
              refine zz_getr (kd := 0) (z := 1044) zd_10_8_55 zf_Run_19 zT_1042 rfl (zz_ltn hn rfl) (zz_G.eq G_S 1042 2 1044 rfl rfl) (by decide) 1044 rfl ?_
              refine zz_iload_n (x := S 1047 x2.toNat) rfl zd_10_8_58 ?_
              refine zz_lald (z := S0 1044 ((S 1047 x2.toNat).toNat)) zd_10_8_59 zT_1044 rfl (zz_ltn hn rfl) (by decide) (by omega) (zz_rc F_S (zz_nc1 rfl) rfl (fun h => h) rfl) ?_
              refine zz_aload_n (x := 1042) rfl zd_10_8_60 ?_
              refine zz_getr (kd := 0) (z := 1031) zd_10_8_61 zf_Run_9 zT_1042 rfl (zz_ltn hn rfl) (zz_G.eq G_S 1042 0 1031 rfl rfl) (by decide) 1031 rfl ?_
              have g15 := zz_G.r G_S0 1031 6 2 8 rfl rfl
              refine zz_geti (z := S0 1031 6) zd_10_8_64 zf_Run_121 zT_1031 rfl (zz_ltn hn rfl) (zz_rc F_S rfl rfl (fun h => h) rfl) ?_
              refine zz_callVV [zl (S0 1044 ((S 1047 x2.toNat).toNat)), zi (S0 1031 6)] zd_10_8_67 zk_Run_124 (zT_k5 (by omega)) (zN_k5 hn (by omega)) rfl rfl ⟨Nat.le_of_ble_eq_true rfl, Nat.le_of_ble_eq_true rfl⟩ ⟨rfl, rfl⟩ (Nat.zero_le _) (Nat.zero_le _) (zc_take_9_2 (S 1042 8) (S0 1044 ((S 1047 x2.toNat).toNat)) (S0 1031 6) S n hn G_S (by omega) (by omega) (by omega)) (fun S16 hP => ?_)
              obtain ⟨G_S16, fS16⟩ := hP
              have g18 := zz_G.r G_S 1042 8 0 3 rfl rfl
              have F_S16 := zz_fr.trans F_S fS16 rfl (fun a i h => by rcases h with h | h | h | h; exact Or.inr (Or.inl (h ▸ zM_k5a1 (z := (S 1042 8)) (by omega) rfl)); exact Or.inr (Or.inl (h ▸ zM_k5a2 (z := (S 1042 8)) (by omega) rfl)); exact Or.inr (Or.inl (h ▸ zM_k5a3 (z := (S 1042 8)) (by omega) rfl)); exact Or.inr (Or.inl (h ▸ zM_k5a4 (z := (S 1042 8)) (by omega) rfl)))
              have b19 := zz_rf5 (z := (S 1042 8)) (by omega)
              refine zz_aload_n (x := 1042) rfl zd_10_8_70 ?_
              refine zz_callVI [] zd_10_8_71 zk_Run_128 zT_1042 (zz_ltn hn rfl) rfl rfl ⟨Nat.le_of_ble_eq_true rfl, Nat.le_of_ble_eq_true rfl⟩ ⟨rfl, rfl⟩ (Nat.zero_le _) (Nat.zero_le _) (zc_races_10_9  S16 n hn G_S16 ) (fun v21 S20 hP => ?_)
              obtain ⟨rfl, o22⟩ := hP
              rcases (by omega : v21 = 0 ∨ v21 = 1) with rfl | rfl
              · refine zz_if_eq (by omega) zd_10_8_74 (fun c23 => ?_) (fun c23 => ?_)
                · refine zz_aload_n (x := 1042) rfl zd_10_8_79 ?_
                  refine zz_iload_n (x := x2) rfl zd_10_8_80 ?_
                  refine zz_iload_n (x := S 1047 x2.toNat) rfl zd_10_8_81 ?_
                  refine zz_iload_n (x := p0) rfl zd_10_8_82 ?_
                  have e24 : S16 1031 6 = S0 1031 6 := (zz_rc fS16 rfl rfl (by first | decide | omega) (zz_rc F_S rfl rfl (fun h => h) rfl))
                  have e25 : S16 1044 (S 1047 x2.toNat).toNat = S0 1044 (S 1047 x2.toNat).toNat := (zz_rc fS16 (zz_nc1 rfl) rfl (by first | decide | omega) (zz_rc F_S (zz_nc1 rfl) rfl (fun h => h) rfl))
                  refine zz_callVV [zi x2, zi (S 1047 x2.toNat), zi p0] zd_10_8_83 zk_Run_132 zT_1042 (zz_ltn hn rfl) rfl rfl ⟨Nat.le_of_ble_eq_true rfl, Nat.le_of_ble_eq_true rfl⟩ ⟨rfl, rfl⟩ (Nat.zero_le _) (Nat.zero_le _) (zc_begin_10_10 x2 (S 1047 x2.toNat) p0 S16 n hn G_S16 (by omega) (by omega) (by omega) (by rw [show S16 1044 (S 1047 x2.toNat).toNat = S0 1044 (S 1047 x2.toNat).toNat by omega, show S16 1031 6 = S0 1031 6 by omega]; exact hL _ (by omega))) (fun S26 hP => ?_)
                  obtain ⟨G_S26, fS26⟩ := hP
                  have F_S26 := zz_fr.trans F_S16 fS26 rfl zz_nv
                  refine zz_iinc [some (.ref 1042), some (zi p0), some (zi (x2 + 1)), some (zi (S 1047 x2.toNat))] zd_10_8_86 rfl rfl ?_
                  refine zz_goto zd_10_8_89 ?_
                  refine zz_less (ls1 := [some (.ref 1042), some (zi p0), some (zi (x2 + 1))]) ⟨rfl, ⟨rfl, ⟨rfl, trivial⟩⟩⟩ ?_
                  exact k2 (x2 + 1) S26 G_S26 F_S26 (by omega) (by omega)
                · exfalso; omega
              · refine zz_if_eq (by omega) zd_10_8_74 (fun c28 => ?_) (fun c28 => ?_)
                · exfalso; omega
                · refine zz_iload_n (x := S 1047 x2.toNat) rfl zd_10_8_77 ?_
                  exact zz_iret zd_10_8_78 rfl (Nat.zero_le _) (Nat.zero_le _) ⟨_, _, rfl, G_S16, F_S16, by omega⟩
theorem zi_beginAt_10_8 {g : mm_G} {l : Launch} (p0 : Int) (S0 : zz_S) (n : Nat) (hn : zz_end ≤ n) (G_S0 : zz_G S0) (hp0 : (-2147483648) ≤ p0 ∧ p0 ≤ 2147483647) (hL : ∀ u : Nat, (u : Int) < S0 1042 9 → zz_lcl (S0 1044 u) (S0 1031 6)) : ∀ N : Nat, (∀ (x2 : Int) (S : zz_S), zz_G S → zz_fr [(1031, 7), (1031, 8), (1031, 9), (1031, 10), (1031, 11), (1031, 12), (1031, 13), (1042, 8)] [1032, 1033, 1034, 1035, 1036, 1038, 1039, 1040, 1041, 1043, 1045, 1046, 1047, 1048, 1049, 1051, 1052, 1053, 1054, 1056, 1057, 1058, 1059, 1061, 1062, 1063, 1064, 1066, 1067, 1068, 1069] (fun _ _ => False) S0 S → (0 ≤ x2 ∧ x2 ≤ 3) → (3 - x2).toNat < N → zz_E g l zy_beginAt_10_8 zr_beginAt_10_8 (zz_QI n (zp_beginAt_10_8 p0 S0)) S n 2 [some (.ref 1042), some (zi p0), some (zi x2)] [] 0 0) := by
  intro N
  induction N with
  | zero => exact fun x2 S _ _ _ h => absurd h (Nat.not_lt_zero _)
  | succ N ih =>
    exact fun x2 S a b j0 hR => zb_beginAt_10_8_2 p0 S0 n hn G_S0 hp0 hL x2 S a b j0 _ rfl (fun x2 S a b j0 h => ih x2 S a b j0 (Nat.lt_of_lt_of_le h (Nat.le_of_lt_succ hR)))
theorem zc_beginAt_10_8 {g : mm_G} {l : Launch} (p0 : Int) (S0 : zz_S) (n : Nat) (hn : zz_end ≤ n) (G_S0 : zz_G S0) (hp0 : (-2147483648) ≤ p0 ∧ p0 ≤ 2147483647) (hL : ∀ u : Nat, (u : Int) < S0 1042 9 → zz_lcl (S0 1044 u) (S0 1031 6)) : mm_Met g l zy_beginAt_10_8 zr_beginAt_10_8 [.ref 1042, zi p0] (zz_M S0 n) n (zz_QI n (zp_beginAt_10_8 p0 S0)) := by
  refine zz_enter (by decide) (Nat.le_of_ble_eq_true rfl) (zz_less (ls1 := [some (.ref 1042), some (zi p0)]) ⟨rfl, ⟨rfl, trivial⟩⟩ ?_)
  have F_S0 : zz_fr [(1031, 7), (1031, 8), (1031, 9), (1031, 10), (1031, 11), (1031, 12), (1031, 13), (1042, 8)] [1032, 1033, 1034, 1035, 1036, 1038, 1039, 1040, 1041, 1043, 1045, 1046, 1047, 1048, 1049, 1051, 1052, 1053, 1054, 1056, 1057, 1058, 1059, 1061, 1062, 1063, 1064, 1066, 1067, 1068, 1069] (fun _ _ => False) S0 S0 := zz_fr.refl
  have k2 : ∀ (x2 : Int) (S : zz_S), zz_G S → zz_fr [(1031, 7), (1031, 8), (1031, 9), (1031, 10), (1031, 11), (1031, 12), (1031, 13), (1042, 8)] [1032, 1033, 1034, 1035, 1036, 1038, 1039, 1040, 1041, 1043, 1045, 1046, 1047, 1048, 1049, 1051, 1052, 1053, 1054, 1056, 1057, 1058, 1059, 1061, 1062, 1063, 1064, 1066, 1067, 1068, 1069] (fun _ _ => False) S0 S → (0 ≤ x2 ∧ x2 ≤ 3) → zz_E g l zy_beginAt_10_8 zr_beginAt_10_8 (zz_QI n (zp_beginAt_10_8 p0 S0)) S n 2 [some (.ref 1042), some (zi p0), some (zi x2)] [] 0 0 := fun x2 S a b j0 => (zi_beginAt_10_8 (g := g) (l := l) p0 S0 n hn G_S0 hp0 hL _) x2 S a b j0 (Nat.lt_succ_self _)
  refine zz_iconst zd_10_8_0 ?_
  refine zz_istore_n [some (.ref 1042), some (zi p0), some (zi 0)] zd_10_8_1 (by decide) rfl ?_
  refine zz_less (ls1 := [some (.ref 1042), some (zi p0), some (zi 0)]) ⟨rfl, ⟨rfl, ⟨rfl, trivial⟩⟩⟩ ?_
  exact k2 0 S0 G_S0 F_S0 (by omega)
theorem zk_Run_66 : mm_Vl "TensorForge$Run" 66 5 1 zy_beginAt_10_8 := ⟨zyw_beginAt_10_8, (R_Run, F_Run, 10), rfl, mm_tb_1 748 (by decide +kernel) rfl, mm_tb_1 750 (by decide +kernel) rfl, mm_tb_s 21 (by decide +kernel) rfl⟩
abbrev zy_soonestEnd_10_11 : mm_Y := (⟨"TensorForge$Run", "soonestEnd", "()I"⟩, prog_10_method_11_code, 4, (some .int))
theorem zyw_soonestEnd_10_11 : mm_Yw zy_soonestEnd_10_11 0 := ⟨mm_tb_1 844 (by decide +kernel) rfl, mm_tb_1 6 (by decide +kernel) rfl, ⟨by decide, by decide⟩, by decide +kernel⟩
theorem zg_10_2_50 : zq_at zy_follow_10_2.2.1 50 54 ∧ zq_at zy_follow_10_2.2.1 51 6 ∧ zq_at zy_follow_10_2.2.1 52 21 ∧ zq_at zy_follow_10_2.2.1 53 6 ∧ zq_at zy_follow_10_2.2.1 54 2 ∧ zq_at zy_follow_10_2.2.1 55 159 ∧ zq_at zy_follow_10_2.2.1 56 0 ∧ zq_at zy_follow_10_2.2.1 57 15 ∧ zq_at zy_follow_10_2.2.1 70 42 ∧ zq_at zy_follow_10_2.2.1 71 182 ∧ zq_at zy_follow_10_2.2.1 72 0 ∧ zq_at zy_follow_10_2.2.1 73 70 := by decide +kernel
theorem zd_10_2_50 : zz_D zy_follow_10_2 50 (.istore 6) 2 52 := ⟨zq_54 zg_10_2_50.1 zg_10_2_50.2.1, rfl⟩
theorem zd_10_2_52 : zz_D zy_follow_10_2 52 (.iload 6) 2 54 := ⟨zq_21 zg_10_2_50.2.2.1 zg_10_2_50.2.2.2.1, rfl⟩
theorem zd_10_2_54 : zz_D zy_follow_10_2 54 (.iconst (-1)) 1 55 := ⟨zq_2 zg_10_2_50.2.2.2.2.1, rfl⟩
theorem zd_10_2_55 : zz_B zy_follow_10_2 55 (Instr.if_icmp .eq) 70 58 := ⟨15, zq_159 zg_10_2_50.2.2.2.2.2.1 zg_10_2_50.2.2.2.2.2.2.1 zg_10_2_50.2.2.2.2.2.2.2.1 (by decide), rfl, rfl⟩
theorem zd_10_2_70 : zz_D zy_follow_10_2 70 (.aload_n 0) 1 71 := ⟨zq_42 zg_10_2_50.2.2.2.2.2.2.2.2.1, rfl⟩
theorem zd_10_2_71 : zz_D zy_follow_10_2 71 (.invokevirtual 70) 3 74 := ⟨zq_182 zg_10_2_50.2.2.2.2.2.2.2.2.2.1 zg_10_2_50.2.2.2.2.2.2.2.2.2.2.1 zg_10_2_50.2.2.2.2.2.2.2.2.2.2.2 rfl, rfl⟩
theorem zg_10_11_0 : zq_at zy_soonestEnd_10_11.2.1 0 2 ∧ zq_at zy_soonestEnd_10_11.2.1 1 60 ∧ zq_at zy_soonestEnd_10_11.2.1 2 3 ∧ zq_at zy_soonestEnd_10_11.2.1 3 61 ∧ zq_at zy_soonestEnd_10_11.2.1 4 28 ∧ zq_at zy_soonestEnd_10_11.2.1 5 6 ∧ zq_at zy_soonestEnd_10_11.2.1 6 162 ∧ zq_at zy_soonestEnd_10_11.2.1 7 0 ∧ zq_at zy_soonestEnd_10_11.2.1 8 50 ∧ zq_at zy_soonestEnd_10_11.2.1 9 42 ∧ zq_at zy_soonestEnd_10_11.2.1 10 180 ∧ zq_at zy_soonestEnd_10_11.2.1 11 0 ∧ zq_at zy_soonestEnd_10_11.2.1 12 32 ∧ zq_at zy_soonestEnd_10_11.2.1 13 28 ∧ zq_at zy_soonestEnd_10_11.2.1 14 46 ∧ zq_at zy_soonestEnd_10_11.2.1 15 62 ∧ zq_at zy_soonestEnd_10_11.2.1 16 29 ∧ zq_at zy_soonestEnd_10_11.2.1 17 155 ∧ zq_at zy_soonestEnd_10_11.2.1 18 0 ∧ zq_at zy_soonestEnd_10_11.2.1 19 33 ∧ zq_at zy_soonestEnd_10_11.2.1 50 132 ∧ zq_at zy_soonestEnd_10_11.2.1 51 2 ∧ zq_at zy_soonestEnd_10_11.2.1 52 1 := by decide +kernel
theorem zd_10_11_0 : zz_D zy_soonestEnd_10_11 0 (.iconst (-1)) 1 1 := ⟨zq_2 zg_10_11_0.1, rfl⟩
theorem zd_10_11_1 : zz_D zy_soonestEnd_10_11 1 (.istore_n 1) 1 2 := ⟨zq_60 zg_10_11_0.2.1, rfl⟩
theorem zd_10_11_2 : zz_D zy_soonestEnd_10_11 2 (.iconst 0) 1 3 := ⟨zq_3 zg_10_11_0.2.2.1, rfl⟩
theorem zd_10_11_3 : zz_D zy_soonestEnd_10_11 3 (.istore_n 2) 1 4 := ⟨zq_61 zg_10_11_0.2.2.2.1, rfl⟩
theorem zd_10_11_4 : zz_D zy_soonestEnd_10_11 4 (.iload_n 2) 1 5 := ⟨zq_28 zg_10_11_0.2.2.2.2.1, rfl⟩
theorem zd_10_11_5 : zz_D zy_soonestEnd_10_11 5 (.iconst 3) 1 6 := ⟨zq_6 zg_10_11_0.2.2.2.2.2.1, rfl⟩
theorem zd_10_11_6 : zz_B zy_soonestEnd_10_11 6 (Instr.if_icmp .ge) 56 9 := ⟨50, zq_162 zg_10_11_0.2.2.2.2.2.2.1 zg_10_11_0.2.2.2.2.2.2.2.1 zg_10_11_0.2.2.2.2.2.2.2.2.1 (by decide), rfl, rfl⟩
theorem zd_10_11_9 : zz_D zy_soonestEnd_10_11 9 (.aload_n 0) 1 10 := ⟨zq_42 zg_10_11_0.2.2.2.2.2.2.2.2.2.1, rfl⟩
theorem zd_10_11_10 : zz_D zy_soonestEnd_10_11 10 (.getfield 32) 3 13 := ⟨zq_180 zg_10_11_0.2.2.2.2.2.2.2.2.2.2.1 zg_10_11_0.2.2.2.2.2.2.2.2.2.2.2.1 zg_10_11_0.2.2.2.2.2.2.2.2.2.2.2.2.1 rfl, rfl⟩
theorem zd_10_11_13 : zz_D zy_soonestEnd_10_11 13 (.iload_n 2) 1 14 := ⟨zq_28 zg_10_11_0.2.2.2.2.2.2.2.2.2.2.2.2.2.1, rfl⟩
theorem zd_10_11_14 : zz_D zy_soonestEnd_10_11 14 (.iaload) 1 15 := ⟨zq_46 zg_10_11_0.2.2.2.2.2.2.2.2.2.2.2.2.2.2.1, rfl⟩
theorem zd_10_11_15 : zz_D zy_soonestEnd_10_11 15 (.istore_n 3) 1 16 := ⟨zq_62 zg_10_11_0.2.2.2.2.2.2.2.2.2.2.2.2.2.2.2.1, rfl⟩
theorem zd_10_11_16 : zz_D zy_soonestEnd_10_11 16 (.iload_n 3) 1 17 := ⟨zq_29 zg_10_11_0.2.2.2.2.2.2.2.2.2.2.2.2.2.2.2.2.1, rfl⟩
theorem zd_10_11_17 : zz_B zy_soonestEnd_10_11 17 (Instr.ifCond .lt) 50 20 := ⟨33, zq_155 zg_10_11_0.2.2.2.2.2.2.2.2.2.2.2.2.2.2.2.2.2.1 zg_10_11_0.2.2.2.2.2.2.2.2.2.2.2.2.2.2.2.2.2.2.1 zg_10_11_0.2.2.2.2.2.2.2.2.2.2.2.2.2.2.2.2.2.2.2.1 (by decide), rfl, rfl⟩
theorem zd_10_11_50 : zz_D zy_soonestEnd_10_11 50 (.iinc 2 1) 3 53 := ⟨zq_132 zg_10_11_0.2.2.2.2.2.2.2.2.2.2.2.2.2.2.2.2.2.2.2.2.1 zg_10_11_0.2.2.2.2.2.2.2.2.2.2.2.2.2.2.2.2.2.2.2.2.2.1 zg_10_11_0.2.2.2.2.2.2.2.2.2.2.2.2.2.2.2.2.2.2.2.2.2.2 (by decide), rfl⟩
theorem zg_10_11_53 : zq_at zy_soonestEnd_10_11.2.1 53 167 ∧ zq_at zy_soonestEnd_10_11.2.1 54 255 ∧ zq_at zy_soonestEnd_10_11.2.1 55 207 ∧ zq_at zy_soonestEnd_10_11.2.1 20 29 ∧ zq_at zy_soonestEnd_10_11.2.1 21 42 ∧ zq_at zy_soonestEnd_10_11.2.1 22 180 ∧ zq_at zy_soonestEnd_10_11.2.1 23 0 ∧ zq_at zy_soonestEnd_10_11.2.1 24 46 ∧ zq_at zy_soonestEnd_10_11.2.1 25 162 ∧ zq_at zy_soonestEnd_10_11.2.1 26 0 ∧ zq_at zy_soonestEnd_10_11.2.1 27 25 ∧ zq_at zy_soonestEnd_10_11.2.1 28 27 ∧ zq_at zy_soonestEnd_10_11.2.1 29 2 ∧ zq_at zy_soonestEnd_10_11.2.1 30 159 ∧ zq_at zy_soonestEnd_10_11.2.1 31 0 ∧ zq_at zy_soonestEnd_10_11.2.1 32 13 ∧ zq_at zy_soonestEnd_10_11.2.1 43 42 ∧ zq_at zy_soonestEnd_10_11.2.1 44 180 ∧ zq_at zy_soonestEnd_10_11.2.1 45 0 ∧ zq_at zy_soonestEnd_10_11.2.1 46 26 ∧ zq_at zy_soonestEnd_10_11.2.1 47 29 ∧ zq_at zy_soonestEnd_10_11.2.1 48 46 ∧ zq_at zy_soonestEnd_10_11.2.1 49 60 ∧ zq_at zy_soonestEnd_10_11.2.1 33 42 := by decide +kernel
theorem zd_10_11_53 : zz_B zy_soonestEnd_10_11 53 Instr.goto 4 56 := ⟨(-49), zq_167 zg_10_11_53.1 zg_10_11_53.2.1 zg_10_11_53.2.2.1 (by decide), rfl, rfl⟩
theorem zd_10_11_20 : zz_D zy_soonestEnd_10_11 20 (.iload_n 3) 1 21 := ⟨zq_29 zg_10_11_53.2.2.2.1, rfl⟩
theorem zd_10_11_21 : zz_D zy_soonestEnd_10_11 21 (.aload_n 0) 1 22 := ⟨zq_42 zg_10_11_53.2.2.2.2.1, rfl⟩
theorem zd_10_11_22 : zz_D zy_soonestEnd_10_11 22 (.getfield 46) 3 25 := ⟨zq_180 zg_10_11_53.2.2.2.2.2.1 zg_10_11_53.2.2.2.2.2.2.1 zg_10_11_53.2.2.2.2.2.2.2.1 rfl, rfl⟩
theorem zd_10_11_25 : zz_B zy_soonestEnd_10_11 25 (Instr.if_icmp .ge) 50 28 := ⟨25, zq_162 zg_10_11_53.2.2.2.2.2.2.2.2.1 zg_10_11_53.2.2.2.2.2.2.2.2.2.1 zg_10_11_53.2.2.2.2.2.2.2.2.2.2.1 (by decide), rfl, rfl⟩
theorem zd_10_11_28 : zz_D zy_soonestEnd_10_11 28 (.iload_n 1) 1 29 := ⟨zq_27 zg_10_11_53.2.2.2.2.2.2.2.2.2.2.2.1, rfl⟩
theorem zd_10_11_29 : zz_D zy_soonestEnd_10_11 29 (.iconst (-1)) 1 30 := ⟨zq_2 zg_10_11_53.2.2.2.2.2.2.2.2.2.2.2.2.1, rfl⟩
theorem zd_10_11_30 : zz_B zy_soonestEnd_10_11 30 (Instr.if_icmp .eq) 43 33 := ⟨13, zq_159 zg_10_11_53.2.2.2.2.2.2.2.2.2.2.2.2.2.1 zg_10_11_53.2.2.2.2.2.2.2.2.2.2.2.2.2.2.1 zg_10_11_53.2.2.2.2.2.2.2.2.2.2.2.2.2.2.2.1 (by decide), rfl, rfl⟩
theorem zd_10_11_43 : zz_D zy_soonestEnd_10_11 43 (.aload_n 0) 1 44 := ⟨zq_42 zg_10_11_53.2.2.2.2.2.2.2.2.2.2.2.2.2.2.2.2.1, rfl⟩
theorem zd_10_11_44 : zz_D zy_soonestEnd_10_11 44 (.getfield 26) 3 47 := ⟨zq_180 zg_10_11_53.2.2.2.2.2.2.2.2.2.2.2.2.2.2.2.2.2.1 zg_10_11_53.2.2.2.2.2.2.2.2.2.2.2.2.2.2.2.2.2.2.1 zg_10_11_53.2.2.2.2.2.2.2.2.2.2.2.2.2.2.2.2.2.2.2.1 rfl, rfl⟩
theorem zd_10_11_47 : zz_D zy_soonestEnd_10_11 47 (.iload_n 3) 1 48 := ⟨zq_29 zg_10_11_53.2.2.2.2.2.2.2.2.2.2.2.2.2.2.2.2.2.2.2.2.1, rfl⟩
theorem zd_10_11_48 : zz_D zy_soonestEnd_10_11 48 (.iaload) 1 49 := ⟨zq_46 zg_10_11_53.2.2.2.2.2.2.2.2.2.2.2.2.2.2.2.2.2.2.2.2.2.1, rfl⟩
theorem zd_10_11_49 : zz_D zy_soonestEnd_10_11 49 (.istore_n 1) 1 50 := ⟨zq_60 zg_10_11_53.2.2.2.2.2.2.2.2.2.2.2.2.2.2.2.2.2.2.2.2.2.2.1, rfl⟩
theorem zd_10_11_33 : zz_D zy_soonestEnd_10_11 33 (.aload_n 0) 1 34 := ⟨zq_42 zg_10_11_53.2.2.2.2.2.2.2.2.2.2.2.2.2.2.2.2.2.2.2.2.2.2.2, rfl⟩
theorem zg_10_11_34 : zq_at zy_soonestEnd_10_11.2.1 34 180 ∧ zq_at zy_soonestEnd_10_11.2.1 35 0 ∧ zq_at zy_soonestEnd_10_11.2.1 36 26 ∧ zq_at zy_soonestEnd_10_11.2.1 37 29 ∧ zq_at zy_soonestEnd_10_11.2.1 38 46 ∧ zq_at zy_soonestEnd_10_11.2.1 39 27 ∧ zq_at zy_soonestEnd_10_11.2.1 40 162 ∧ zq_at zy_soonestEnd_10_11.2.1 41 0 ∧ zq_at zy_soonestEnd_10_11.2.1 42 10 ∧ zq_at zy_soonestEnd_10_11.2.1 56 27 ∧ zq_at zy_soonestEnd_10_11.2.1 57 172 := by decide +kernel
theorem zd_10_11_34 : zz_D zy_soonestEnd_10_11 34 (.getfield 26) 3 37 := ⟨zq_180 zg_10_11_34.1 zg_10_11_34.2.1 zg_10_11_34.2.2.1 rfl, rfl⟩
theorem zd_10_11_37 : zz_D zy_soonestEnd_10_11 37 (.iload_n 3) 1 38 := ⟨zq_29 zg_10_11_34.2.2.2.1, rfl⟩
theorem zd_10_11_38 : zz_D zy_soonestEnd_10_11 38 (.iaload) 1 39 := ⟨zq_46 zg_10_11_34.2.2.2.2.1, rfl⟩
theorem zd_10_11_39 : zz_D zy_soonestEnd_10_11 39 (.iload_n 1) 1 40 := ⟨zq_27 zg_10_11_34.2.2.2.2.2.1, rfl⟩
theorem zd_10_11_40 : zz_B zy_soonestEnd_10_11 40 (Instr.if_icmp .ge) 50 43 := ⟨10, zq_162 zg_10_11_34.2.2.2.2.2.2.1 zg_10_11_34.2.2.2.2.2.2.2.1 zg_10_11_34.2.2.2.2.2.2.2.2.1 (by decide), rfl, rfl⟩
theorem zd_10_11_56 : zz_D zy_soonestEnd_10_11 56 (.iload_n 1) 1 57 := ⟨zq_27 zg_10_11_34.2.2.2.2.2.2.2.2.2.1, rfl⟩
theorem zd_10_11_57 : zz_D zy_soonestEnd_10_11 57 (.ireturn) 1 58 := ⟨zq_172 zg_10_11_34.2.2.2.2.2.2.2.2.2.2, rfl⟩

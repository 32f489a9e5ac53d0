-- TensorForgeModel unit ()I
abbrev zr_unit_14_19 : Room := { frames := 0, cells := 0, slots := 0, locals := 0 }
def zp_unit_14_19  (S0 : zz_S) : Int → zz_S → Prop := fun r S => S0 = S ∧ ((-2147483648) ≤ r ∧ r ≤ 2147483647) ∧ ((S0 1087 0 = 9 ∧ r = S0 1087 11) ∨ (S0 1087 0 < 5 ∧ r = 0) ∨ (5 ≤ S0 1087 0 ∧ S0 1087 0 < 8 ∧ r = 1) ∨ (8 ≤ S0 1087 0 ∧ S0 1087 0 ≠ 9 ∧ r = 2))
theorem zc_unit_14_19 {g : mm_G} {l : Launch}  (S0 : zz_S) (n : Nat) (hn : zz_end ≤ n) (G_S0 : zz_G S0)  : mm_Met g l zy_unit_14_19 zr_unit_14_19 [.ref 1079] (zz_M S0 n) n (zz_QI n (zp_unit_14_19  S0)) := by
  refine zz_enter (by decide) (Nat.le_of_ble_eq_true rfl) (zz_less (ls1 := [some (.ref 1079)]) ⟨rfl, trivial⟩ ?_)
  refine zz_aload_n (x := 1079) rfl zd_14_19_0 ?_
  refine zz_getr (kd := 0) (z := 1087) zd_14_19_1 zf_Md_36 zT_1079 rfl (zz_ltn hn rfl) (zz_G.eq G_S0 1079 11 1087 rfl rfl) (by decide) 1087 rfl ?_
  refine zz_iconst zd_14_19_4 ?_
  have g1 := zz_G.r G_S0 1087 0 (-2147483648) 2147483647 rfl rfl
  refine zz_iald (z := S0 1087 0) zd_14_19_5 zT_1087 rfl (zz_ltn hn rfl) (by decide) (by decide) rfl ?_
  refine zz_bipush (by decide) zd_14_19_6 ?_
  refine zz_icmp_ne (by omega) (by omega) zd_14_19_8 (fun c2 => ?_) (fun c2 => ?_)
  · refine zz_aload_n (x := 1079) rfl zd_14_19_21 ?_
    refine zz_getr (kd := 0) (z := 1087) zd_14_19_22 zf_Md_36 zT_1079 rfl (zz_ltn hn rfl) (zz_G.eq G_S0 1079 11 1087 rfl rfl) (by decide) 1087 rfl ?_
    refine zz_iconst zd_14_19_25 ?_
    refine zz_iald (z := S0 1087 0) zd_14_19_26 zT_1087 rfl (zz_ltn hn rfl) (by decide) (by decide) rfl ?_
    refine zz_iconst zd_14_19_27 ?_
    refine zz_icmp_ge (by omega) (by omega) zd_14_19_28 (fun c3 => ?_) (fun c3 => ?_)
    · refine zz_aload_n (x := 1079) rfl zd_14_19_35 ?_
      refine zz_getr (kd := 0) (z := 1087) zd_14_19_36 zf_Md_36 zT_1079 rfl (zz_ltn hn rfl) (zz_G.eq G_S0 1079 11 1087 rfl rfl) (by decide) 1087 rfl ?_
      refine zz_iconst zd_14_19_39 ?_
      refine zz_iald (z := S0 1087 0) zd_14_19_40 zT_1087 rfl (zz_ltn hn rfl) (by decide) (by decide) rfl ?_
      refine zz_bipush (by decide) zd_14_19_41 ?_
      refine zz_icmp_ge (by omega) (by omega) zd_14_19_43 (fun c4 => ?_) (fun c4 => ?_)
      · refine zz_iconst zd_14_19_50 ?_
        exact zz_iret zd_14_19_51 rfl (Nat.zero_le _) (Nat.zero_le _) ⟨_, _, rfl, rfl, by omega, by omega⟩
      · refine zz_iconst zd_14_19_46 ?_
        refine zz_goto zd_14_19_47 ?_
        exact zz_iret zd_14_19_51 rfl (Nat.zero_le _) (Nat.zero_le _) ⟨_, _, rfl, rfl, by omega, by omega⟩
    · refine zz_iconst zd_14_19_31 ?_
      refine zz_goto zd_14_19_32 ?_
      exact zz_iret zd_14_19_51 rfl (Nat.zero_le _) (Nat.zero_le _) ⟨_, _, rfl, rfl, by omega, by omega⟩
  · refine zz_aload_n (x := 1079) rfl zd_14_19_11 ?_
    refine zz_getr (kd := 0) (z := 1087) zd_14_19_12 zf_Md_36 zT_1079 rfl (zz_ltn hn rfl) (zz_G.eq G_S0 1079 11 1087 rfl rfl) (by decide) 1087 rfl ?_
    refine zz_bipush (by decide) zd_14_19_15 ?_
    have g5 := zz_G.r G_S0 1087 11 (-2147483648) 2147483647 rfl rfl
    refine zz_iald (z := S0 1087 11) zd_14_19_17 zT_1087 rfl (zz_ltn hn rfl) (by decide) (by decide) rfl ?_
    refine zz_goto zd_14_19_18 ?_
    exact zz_iret zd_14_19_51 rfl (Nat.zero_le _) (Nat.zero_le _) ⟨_, _, rfl, rfl, by omega, by omega⟩
abbrev zy_rowsEnd_14_21 : mm_Y := (⟨"TensorForgeModel", "rowsEnd", "(II)I"⟩, prog_14_method_21_code, 3, (some .int))
theorem zyw_rowsEnd_14_21 : mm_Yw zy_rowsEnd_14_21 2 := ⟨mm_tb_1 1914 (by decide +kernel) rfl, mm_tb_1 12 (by decide +kernel) rfl, ⟨by decide, by decide⟩, by decide +kernel⟩
theorem zg_14_21_0 : zq_at zy_rowsEnd_14_21.2.1 0 27 ∧ zq_at zy_rowsEnd_14_21.2.1 1 42 ∧ zq_at zy_rowsEnd_14_21.2.1 2 180 ∧ zq_at zy_rowsEnd_14_21.2.1 3 0 ∧ zq_at zy_rowsEnd_14_21.2.1 4 36 ∧ zq_at zy_rowsEnd_14_21.2.1 5 16 ∧ zq_at zy_rowsEnd_14_21.2.1 6 6 ∧ zq_at zy_rowsEnd_14_21.2.1 7 46 ∧ zq_at zy_rowsEnd_14_21.2.1 8 4 ∧ zq_at zy_rowsEnd_14_21.2.1 9 100 ∧ zq_at zy_rowsEnd_14_21.2.1 10 42 ∧ zq_at zy_rowsEnd_14_21.2.1 11 180 ∧ zq_at zy_rowsEnd_14_21.2.1 12 0 ∧ zq_at zy_rowsEnd_14_21.2.1 13 7 ∧ zq_at zy_rowsEnd_14_21.2.1 14 104 ∧ zq_at zy_rowsEnd_14_21.2.1 15 96 ∧ zq_at zy_rowsEnd_14_21.2.1 16 28 ∧ zq_at zy_rowsEnd_14_21.2.1 17 96 ∧ zq_at zy_rowsEnd_14_21.2.1 18 4 ∧ zq_at zy_rowsEnd_14_21.2.1 19 100 ∧ zq_at zy_rowsEnd_14_21.2.1 20 172 := by decide +kernel
theorem zd_14_21_0 : zz_D zy_rowsEnd_14_21 0 (.iload_n 1) 1 1 := ⟨zq_27 zg_14_21_0.1, rfl⟩
theorem zd_14_21_1 : zz_D zy_rowsEnd_14_21 1 (.aload_n 0) 1 2 := ⟨zq_42 zg_14_21_0.2.1, rfl⟩
theorem zd_14_21_2 : zz_D zy_rowsEnd_14_21 2 (.getfield 36) 3 5 := ⟨zq_180 zg_14_21_0.2.2.1 zg_14_21_0.2.2.2.1 zg_14_21_0.2.2.2.2.1 rfl, rfl⟩
theorem zd_14_21_5 : zz_D zy_rowsEnd_14_21 5 (.bipush 6) 2 7 := ⟨zq_16 zg_14_21_0.2.2.2.2.2.1 zg_14_21_0.2.2.2.2.2.2.1 (by decide), rfl⟩
theorem zd_14_21_7 : zz_D zy_rowsEnd_14_21 7 (.iaload) 1 8 := ⟨zq_46 zg_14_21_0.2.2.2.2.2.2.2.1, rfl⟩
theorem zd_14_21_8 : zz_D zy_rowsEnd_14_21 8 (.iconst 1) 1 9 := ⟨zq_4 zg_14_21_0.2.2.2.2.2.2.2.2.1, rfl⟩
theorem zd_14_21_9 : zz_D zy_rowsEnd_14_21 9 (.isub) 1 10 := ⟨zq_100 zg_14_21_0.2.2.2.2.2.2.2.2.2.1, rfl⟩
theorem zd_14_21_10 : zz_D zy_rowsEnd_14_21 10 (.aload_n 0) 1 11 := ⟨zq_42 zg_14_21_0.2.2.2.2.2.2.2.2.2.2.1, rfl⟩
theorem zd_14_21_11 : zz_D zy_rowsEnd_14_21 11 (.getfield 7) 3 14 := ⟨zq_180 zg_14_21_0.2.2.2.2.2.2.2.2.2.2.2.1 zg_14_21_0.2.2.2.2.2.2.2.2.2.2.2.2.1 zg_14_21_0.2.2.2.2.2.2.2.2.2.2.2.2.2.1 rfl, rfl⟩
theorem zd_14_21_14 : zz_D zy_rowsEnd_14_21 14 (.imul) 1 15 := ⟨zq_104 zg_14_21_0.2.2.2.2.2.2.2.2.2.2.2.2.2.2.1, rfl⟩
theorem zd_14_21_15 : zz_D zy_rowsEnd_14_21 15 (.iadd) 1 16 := ⟨zq_96 zg_14_21_0.2.2.2.2.2.2.2.2.2.2.2.2.2.2.2.1, rfl⟩
theorem zd_14_21_16 : zz_D zy_rowsEnd_14_21 16 (.iload_n 2) 1 17 := ⟨zq_28 zg_14_21_0.2.2.2.2.2.2.2.2.2.2.2.2.2.2.2.2.1, rfl⟩
theorem zd_14_21_17 : zz_D zy_rowsEnd_14_21 17 (.iadd) 1 18 := ⟨zq_96 zg_14_21_0.2.2.2.2.2.2.2.2.2.2.2.2.2.2.2.2.2.1, rfl⟩
theorem zd_14_21_18 : zz_D zy_rowsEnd_14_21 18 (.iconst 1) 1 19 := ⟨zq_4 zg_14_21_0.2.2.2.2.2.2.2.2.2.2.2.2.2.2.2.2.2.2.1, rfl⟩
theorem zd_14_21_19 : zz_D zy_rowsEnd_14_21 19 (.isub) 1 20 := ⟨zq_100 zg_14_21_0.2.2.2.2.2.2.2.2.2.2.2.2.2.2.2.2.2.2.2.1, rfl⟩
theorem zd_14_21_20 : zz_D zy_rowsEnd_14_21 20 (.ireturn) 1 21 := ⟨zq_172 zg_14_21_0.2.2.2.2.2.2.2.2.2.2.2.2.2.2.2.2.2.2.2.2, rfl⟩
-- TensorForgeModel rowsEnd (II)I
abbrev zr_rowsEnd_14_21 : Room := { frames := 0, cells := 0, slots := 0, locals := 0 }
def zp_rowsEnd_14_21 (p0 : Int) (p1 : Int) (S0 : zz_S) : Int → zz_S → Prop := fun r S => S0 = S ∧ ((-600) ≤ r ∧ r ≤ 1100) ∧ (r = (p0 + (S0 1087 6 - 1) * (S0 1079 1) + p1 - 1))
theorem zc_rowsEnd_14_21 {g : mm_G} {l : Launch} (p0 : Int) (p1 : Int) (S0 : zz_S) (n : Nat) (hn : zz_end ≤ n) (G_S0 : zz_G S0) (hp0 : 0 ≤ p0 ∧ p0 ≤ 511) (hp1 : 0 ≤ p1 ∧ p1 ≤ 31) (hsS0_1087_6 : 0 ≤ S0 1087 6 ∧ S0 1087 6 ≤ 63) : mm_Met g l zy_rowsEnd_14_21 zr_rowsEnd_14_21 [.ref 1079, zi p0, zi p1] (zz_M S0 n) n (zz_QI n (zp_rowsEnd_14_21 p0 p1 S0)) := by
  refine zz_enter (by decide) (Nat.le_of_ble_eq_true rfl) (zz_less (ls1 := [some (.ref 1079), some (zi p0), some (zi p1)]) ⟨rfl, ⟨rfl, ⟨rfl, trivial⟩⟩⟩ ?_)
  refine zz_iload_n (x := p0) rfl zd_14_21_0 ?_
  refine zz_aload_n (x := 1079) rfl zd_14_21_1 ?_
  refine zz_getr (kd := 0) (z := 1087) zd_14_21_2 zf_Md_36 zT_1079 rfl (zz_ltn hn rfl) (zz_G.eq G_S0 1079 11 1087 rfl rfl) (by decide) 1087 rfl ?_
  refine zz_bipush (by decide) zd_14_21_5 ?_
  have g1 := zz_G.r G_S0 1087 6 (-2147483648) 2147483647 rfl rfl
  refine zz_iald (z := S0 1087 6) zd_14_21_7 zT_1087 rfl (zz_ltn hn rfl) (by decide) (by decide) rfl ?_
  refine zz_iconst zd_14_21_8 ?_
  refine zz_isub zd_14_21_9 ?_
  refine zz_aload_n (x := 1079) rfl zd_14_21_10 ?_
  have g2 := zz_G.r G_S0 1079 1 2 8 rfl rfl
  refine zz_geti (z := S0 1079 1) zd_14_21_11 zf_Md_7 zT_1079 rfl (zz_ltn hn rfl) rfl ?_
  refine zz_imul zd_14_21_14 ?_
  have m3 := zz_mulh (a := (S0 1087 6) - 1) (b := S0 1079 1) (-1) 62 8 (-8) 496 (by omega) (by omega) (by decide) (by decide) (by decide) (by decide)
  refine zz_iadd zd_14_21_15 ?_
  refine zz_iload_n (x := p1) rfl zd_14_21_16 ?_
  refine zz_iadd zd_14_21_17 ?_
  refine zz_iconst zd_14_21_18 ?_
  refine zz_isub zd_14_21_19 ?_
  refine zz_nme (fun v4 ev4 => ?_)
  exact zz_iret zd_14_21_20 rfl (Nat.zero_le _) (Nat.zero_le _) ⟨_, _, rfl, rfl, by omega, by omega⟩
abbrev zy_reaches_14_22 : mm_Y := (⟨"TensorForgeModel", "reaches", "()V"⟩, prog_14_method_22_code, 5, none)
theorem zyw_reaches_14_22 : mm_Yw zy_reaches_14_22 0 := ⟨mm_tb_1 1906 (by decide +kernel) rfl, mm_tb_1 12 (by decide +kernel) rfl, ⟨by decide, by decide⟩, by decide +kernel⟩
theorem zf_Md_39 : mm_Fl "TensorForgeModel" 39 11 12 (.array .int) true := ⟨R_Md, F_Md, 69, t_Md, rfl, i_Md, by decide, mm_tb_1 1623 (by decide +kernel) rfl, rfl, t_Md_ok, n_Md, rfl, by decide +kernel⟩
abbrev zy_reach_14_20 : mm_Y := (⟨"TensorForgeModel", "reach", "([IIII)V"⟩, prog_14_method_20_code, 5, none)
theorem zyw_reach_14_20 : mm_Yw zy_reach_14_20 4 := ⟨mm_tb_1 1910 (by decide +kernel) rfl, mm_tb_1 12 (by decide +kernel) rfl, ⟨by decide, by decide⟩, by decide +kernel⟩
theorem zg_14_22_0 : zq_at zy_reaches_14_22.2.1 0 3 ∧ zq_at zy_reaches_14_22.2.1 1 60 ∧ zq_at zy_reaches_14_22.2.1 2 27 ∧ zq_at zy_reaches_14_22.2.1 3 8 ∧ zq_at zy_reaches_14_22.2.1 4 162 ∧ zq_at zy_reaches_14_22.2.1 5 0 ∧ zq_at zy_reaches_14_22.2.1 6 31 ∧ zq_at zy_reaches_14_22.2.1 7 42 ∧ zq_at zy_reaches_14_22.2.1 8 42 ∧ zq_at zy_reaches_14_22.2.1 9 180 ∧ zq_at zy_reaches_14_22.2.1 10 0 ∧ zq_at zy_reaches_14_22.2.1 11 39 ∧ zq_at zy_reaches_14_22.2.1 12 27 ∧ zq_at zy_reaches_14_22.2.1 13 3 ∧ zq_at zy_reaches_14_22.2.1 14 2 ∧ zq_at zy_reaches_14_22.2.1 15 182 ∧ zq_at zy_reaches_14_22.2.1 16 0 ∧ zq_at zy_reaches_14_22.2.1 17 227 := by decide +kernel
theorem zd_14_22_0 : zz_D zy_reaches_14_22 0 (.iconst 0) 1 1 := ⟨zq_3 zg_14_22_0.1, rfl⟩
theorem zd_14_22_1 : zz_D zy_reaches_14_22 1 (.istore_n 1) 1 2 := ⟨zq_60 zg_14_22_0.2.1, rfl⟩
theorem zd_14_22_2 : zz_D zy_reaches_14_22 2 (.iload_n 1) 1 3 := ⟨zq_27 zg_14_22_0.2.2.1, rfl⟩
theorem zd_14_22_3 : zz_D zy_reaches_14_22 3 (.iconst 5) 1 4 := ⟨zq_8 zg_14_22_0.2.2.2.1, rfl⟩
theorem zd_14_22_4 : zz_B zy_reaches_14_22 4 (Instr.if_icmp .ge) 35 7 := ⟨31, zq_162 zg_14_22_0.2.2.2.2.1 zg_14_22_0.2.2.2.2.2.1 zg_14_22_0.2.2.2.2.2.2.1 (by decide), rfl, rfl⟩
theorem zd_14_22_7 : zz_D zy_reaches_14_22 7 (.aload_n 0) 1 8 := ⟨zq_42 zg_14_22_0.2.2.2.2.2.2.2.1, rfl⟩
theorem zd_14_22_8 : zz_D zy_reaches_14_22 8 (.aload_n 0) 1 9 := ⟨zq_42 zg_14_22_0.2.2.2.2.2.2.2.2.1, rfl⟩
theorem zd_14_22_9 : zz_D zy_reaches_14_22 9 (.getfield 39) 3 12 := ⟨zq_180 zg_14_22_0.2.2.2.2.2.2.2.2.2.1 zg_14_22_0.2.2.2.2.2.2.2.2.2.2.1 zg_14_22_0.2.2.2.2.2.2.2.2.2.2.2.1 rfl, rfl⟩
theorem zd_14_22_12 : zz_D zy_reaches_14_22 12 (.iload_n 1) 1 13 := ⟨zq_27 zg_14_22_0.2.2.2.2.2.2.2.2.2.2.2.2.1, rfl⟩
theorem zd_14_22_13 : zz_D zy_reaches_14_22 13 (.iconst 0) 1 14 := ⟨zq_3 zg_14_22_0.2.2.2.2.2.2.2.2.2.2.2.2.2.1, rfl⟩
theorem zd_14_22_14 : zz_D zy_reaches_14_22 14 (.iconst (-1)) 1 15 := ⟨zq_2 zg_14_22_0.2.2.2.2.2.2.2.2.2.2.2.2.2.2.1, rfl⟩
theorem zd_14_22_15 : zz_D zy_reaches_14_22 15 (.invokevirtual 227) 3 18 := ⟨zq_182 zg_14_22_0.2.2.2.2.2.2.2.2.2.2.2.2.2.2.2.1 zg_14_22_0.2.2.2.2.2.2.2.2.2.2.2.2.2.2.2.2.1 zg_14_22_0.2.2.2.2.2.2.2.2.2.2.2.2.2.2.2.2.2 rfl, rfl⟩
theorem zg_14_20_0 : zq_at zy_reach_14_20.2.1 0 43 ∧ zq_at zy_reach_14_20.2.1 1 5 ∧ zq_at zy_reach_14_20.2.1 2 28 ∧ zq_at zy_reach_14_20.2.1 3 104 ∧ zq_at zy_reach_14_20.2.1 4 29 ∧ zq_at zy_reach_14_20.2.1 5 79 ∧ zq_at zy_reach_14_20.2.1 6 43 ∧ zq_at zy_reach_14_20.2.1 7 5 ∧ zq_at zy_reach_14_20.2.1 8 28 ∧ zq_at zy_reach_14_20.2.1 9 104 ∧ zq_at zy_reach_14_20.2.1 10 4 ∧ zq_at zy_reach_14_20.2.1 11 96 ∧ zq_at zy_reach_14_20.2.1 12 21 ∧ zq_at zy_reach_14_20.2.1 13 4 ∧ zq_at zy_reach_14_20.2.1 14 79 ∧ zq_at zy_reach_14_20.2.1 15 177 := by decide +kernel
theorem zd_14_20_0 : zz_D zy_reach_14_20 0 (.aload_n 1) 1 1 := ⟨zq_43 zg_14_20_0.1, rfl⟩
theorem zd_14_20_1 : zz_D zy_reach_14_20 1 (.iconst 2) 1 2 := ⟨zq_5 zg_14_20_0.2.1, rfl⟩
theorem zd_14_20_2 : zz_D zy_reach_14_20 2 (.iload_n 2) 1 3 := ⟨zq_28 zg_14_20_0.2.2.1, rfl⟩
theorem zd_14_20_3 : zz_D zy_reach_14_20 3 (.imul) 1 4 := ⟨zq_104 zg_14_20_0.2.2.2.1, rfl⟩
theorem zd_14_20_4 : zz_D zy_reach_14_20 4 (.iload_n 3) 1 5 := ⟨zq_29 zg_14_20_0.2.2.2.2.1, rfl⟩
theorem zd_14_20_5 : zz_D zy_reach_14_20 5 (.iastore) 1 6 := ⟨zq_79 zg_14_20_0.2.2.2.2.2.1, rfl⟩
theorem zd_14_20_6 : zz_D zy_reach_14_20 6 (.aload_n 1) 1 7 := ⟨zq_43 zg_14_20_0.2.2.2.2.2.2.1, rfl⟩
theorem zd_14_20_7 : zz_D zy_reach_14_20 7 (.iconst 2) 1 8 := ⟨zq_5 zg_14_20_0.2.2.2.2.2.2.2.1, rfl⟩
theorem zd_14_20_8 : zz_D zy_reach_14_20 8 (.iload_n 2) 1 9 := ⟨zq_28 zg_14_20_0.2.2.2.2.2.2.2.2.1, rfl⟩
theorem zd_14_20_9 : zz_D zy_reach_14_20 9 (.imul) 1 10 := ⟨zq_104 zg_14_20_0.2.2.2.2.2.2.2.2.2.1, rfl⟩
theorem zd_14_20_10 : zz_D zy_reach_14_20 10 (.iconst 1) 1 11 := ⟨zq_4 zg_14_20_0.2.2.2.2.2.2.2.2.2.2.1, rfl⟩
theorem zd_14_20_11 : zz_D zy_reach_14_20 11 (.iadd) 1 12 := ⟨zq_96 zg_14_20_0.2.2.2.2.2.2.2.2.2.2.2.1, rfl⟩
theorem zd_14_20_12 : zz_D zy_reach_14_20 12 (.iload 4) 2 14 := ⟨zq_21 zg_14_20_0.2.2.2.2.2.2.2.2.2.2.2.2.1 zg_14_20_0.2.2.2.2.2.2.2.2.2.2.2.2.2.1, rfl⟩
theorem zd_14_20_14 : zz_D zy_reach_14_20 14 (.iastore) 1 15 := ⟨zq_79 zg_14_20_0.2.2.2.2.2.2.2.2.2.2.2.2.2.2.1, rfl⟩
theorem zd_14_20_15 : zz_D zy_reach_14_20 15 (.return_) 1 16 := ⟨zq_177 zg_14_20_0.2.2.2.2.2.2.2.2.2.2.2.2.2.2.2, rfl⟩
-- TensorForgeModel reach ([IIII)V
abbrev zr_reach_14_20x_1088_0 : Room := { frames := 0, cells := 0, slots := 0, locals := 0 }
def zp_reach_14_20x_1088_0 (p2 : Int) (p3 : Int) (S0 : zz_S) : zz_S → Prop := fun S => zz_G S ∧ zz_fr [(1088, 0), (1088, 1)] [] (fun _ _ => False) S0 S ∧ (S 1088 0 = p2) ∧ (S 1088 1 = p3)
theorem zc_reach_14_20x_1088_0 {g : mm_G} {l : Launch} (p2 : Int) (p3 : Int) (S0 : zz_S) (n : Nat) (hn : zz_end ≤ n) (G_S0 : zz_G S0) (hp2 : (-2147483648) ≤ p2 ∧ p2 ≤ 2147483647) (hp3 : (-2147483648) ≤ p3 ∧ p3 ≤ 2147483647) : mm_Met g l zy_reach_14_20 zr_reach_14_20x_1088_0 [.ref 1079, .ref 1088, zi 0, zi p2, zi p3] (zz_M S0 n) n (zz_QV n (zp_reach_14_20x_1088_0 p2 p3 S0)) := by
  refine zz_enter (by decide) (Nat.le_of_ble_eq_true rfl) (zz_less (ls1 := [some (.ref 1079), some (.ref 1088), some (zi 0), some (zi p2), some (zi p3)]) ⟨rfl, ⟨rfl, ⟨rfl, ⟨rfl, ⟨rfl, trivial⟩⟩⟩⟩⟩ ?_)
  have F_S0 : zz_fr [(1088, 0), (1088, 1)] [] (fun _ _ => False) S0 S0 := zz_fr.refl
  refine zz_aload_n (x := 1088) rfl zd_14_20_0 ?_
  refine zz_iconst zd_14_20_1 ?_
  refine zz_iload_n (x := 0) rfl zd_14_20_2 ?_
  refine zz_imul zd_14_20_3 ?_
  refine zz_eqv (v := 0) (by decide) ?_
  refine zz_iload_n (x := p2) rfl zd_14_20_4 ?_
  refine zz_iast zd_14_20_5 zT_1088 rfl (zz_ltn hn rfl) (by decide) (by decide) (fun S1 qS1 => ?_)
  have G_S1 := zz_G.put G_S0 qS1 (-2147483648) 2147483647 rfl (by omega)
  have F_S1 := zz_fr.puts F_S0 qS1 rfl
  refine zz_aload_n (x := 1088) rfl zd_14_20_6 ?_
  refine zz_iconst zd_14_20_7 ?_
  refine zz_iload_n (x := 0) rfl zd_14_20_8 ?_
  refine zz_imul zd_14_20_9 ?_
  refine zz_eqv (v := 0) (by decide) ?_
  refine zz_iconst zd_14_20_10 ?_
  refine zz_iadd zd_14_20_11 ?_
  refine zz_eqv (v := 1) (by decide) ?_
  refine zz_iload (x := p3) rfl zd_14_20_12 ?_
  refine zz_iast zd_14_20_14 zT_1088 rfl (zz_ltn hn rfl) (by decide) (by decide) (fun S2 qS2 => ?_)
  have G_S2 := zz_G.put G_S1 qS2 (-2147483648) 2147483647 rfl (by omega)
  have F_S2 := zz_fr.puts F_S1 qS2 rfl
  have e3 : S2 1088 0 = p2 := (zz_ro qS2 (fun h => absurd h.2 (by decide)) (zz_rs qS1))
  have e4 : S2 1088 1 = p3 := (zz_rs qS2)
  exact zz_vret zd_14_20_15 rfl (Nat.zero_le _) (Nat.zero_le _) ⟨_, rfl, G_S2, F_S2, by omega, by omega⟩
theorem zk_Md_227 : mm_Vl "TensorForgeModel" 227 11 4 zy_reach_14_20 := ⟨zyw_reach_14_20, (R_Md, F_Md, 69), rfl, mm_tb_1 1907 (by decide +kernel) rfl, mm_tb_1 1909 (by decide +kernel) rfl, mm_tb_s 92 (by decide +kernel) rfl⟩
theorem zf_Md_42 : mm_Fl "TensorForgeModel" 42 11 13 (.array .int) true := ⟨R_Md, F_Md, 69, t_Md, rfl, i_Md, by decide, mm_tb_1 1624 (by decide +kernel) rfl, rfl, t_Md_ok, n_Md, rfl, by decide +kernel⟩
theorem zg_14_22_18 : zq_at zy_reaches_14_22.2.1 18 42 ∧ zq_at zy_reaches_14_22.2.1 19 42 ∧ zq_at zy_reaches_14_22.2.1 20 180 ∧ zq_at zy_reaches_14_22.2.1 21 0 ∧ zq_at zy_reaches_14_22.2.1 22 42 ∧ zq_at zy_reaches_14_22.2.1 23 27 ∧ zq_at zy_reaches_14_22.2.1 24 3 ∧ zq_at zy_reaches_14_22.2.1 25 2 ∧ zq_at zy_reaches_14_22.2.1 26 182 ∧ zq_at zy_reaches_14_22.2.1 27 0 ∧ zq_at zy_reaches_14_22.2.1 28 227 := by decide +kernel
theorem zd_14_22_18 : zz_D zy_reaches_14_22 18 (.aload_n 0) 1 19 := ⟨zq_42 zg_14_22_18.1, rfl⟩
theorem zd_14_22_19 : zz_D zy_reaches_14_22 19 (.aload_n 0) 1 20 := ⟨zq_42 zg_14_22_18.2.1, rfl⟩
theorem zd_14_22_20 : zz_D zy_reaches_14_22 20 (.getfield 42) 3 23 := ⟨zq_180 zg_14_22_18.2.2.1 zg_14_22_18.2.2.2.1 zg_14_22_18.2.2.2.2.1 rfl, rfl⟩
theorem zd_14_22_23 : zz_D zy_reaches_14_22 23 (.iload_n 1) 1 24 := ⟨zq_27 zg_14_22_18.2.2.2.2.2.1, rfl⟩
theorem zd_14_22_24 : zz_D zy_reaches_14_22 24 (.iconst 0) 1 25 := ⟨zq_3 zg_14_22_18.2.2.2.2.2.2.1, rfl⟩
theorem zd_14_22_25 : zz_D zy_reaches_14_22 25 (.iconst (-1)) 1 26 := ⟨zq_2 zg_14_22_18.2.2.2.2.2.2.2.1, rfl⟩
theorem zd_14_22_26 : zz_D zy_reaches_14_22 26 (.invokevirtual 227) 3 29 := ⟨zq_182 zg_14_22_18.2.2.2.2.2.2.2.2.1 zg_14_22_18.2.2.2.2.2.2.2.2.2.1 zg_14_22_18.2.2.2.2.2.2.2.2.2.2 rfl, rfl⟩
-- TensorForgeModel reach ([IIII)V
abbrev zr_reach_14_20x_1089_0 : Room := { frames := 0, cells := 0, slots := 0, locals := 0 }
def zp_reach_14_20x_1089_0 (p2 : Int) (p3 : Int) (S0 : zz_S) : zz_S → Prop := fun S => zz_G S ∧ zz_fr [(1089, 0), (1089, 1)] [] (fun _ _ => False) S0 S ∧ (S 1089 0 = p2) ∧ (S 1089 1 = p3)
theorem zc_reach_14_20x_1089_0 {g : mm_G} {l : Launch} (p2 : Int) (p3 : Int) (S0 : zz_S) (n : Nat) (hn : zz_end ≤ n) (G_S0 : zz_G S0) (hp2 : (-2147483648) ≤ p2 ∧ p2 ≤ 2147483647) (hp3 : (-2147483648) ≤ p3 ∧ p3 ≤ 2147483647) : mm_Met g l zy_reach_14_20 zr_reach_14_20x_1089_0 [.ref 1079, .ref 1089, zi 0, zi p2, zi p3] (zz_M S0 n) n (zz_QV n (zp_reach_14_20x_1089_0 p2 p3 S0)) := by
  refine zz_enter (by decide) (Nat.le_of_ble_eq_true rfl) (zz_less (ls1 := [some (.ref 1079), some (.ref 1089), some (zi 0), some (zi p2), some (zi p3)]) ⟨rfl, ⟨rfl, ⟨rfl, ⟨rfl, ⟨rfl, trivial⟩⟩⟩⟩⟩ ?_)
  have F_S0 : zz_fr [(1089, 0), (1089, 1)] [] (fun _ _ => False) S0 S0 := zz_fr.refl
  refine zz_aload_n (x := 1089) rfl zd_14_20_0 ?_
  refine zz_iconst zd_14_20_1 ?_
  refine zz_iload_n (x := 0) rfl zd_14_20_2 ?_
  refine zz_imul zd_14_20_3 ?_
  refine zz_eqv (v := 0) (by decide) ?_
  refine zz_iload_n (x := p2) rfl zd_14_20_4 ?_
  refine zz_iast zd_14_20_5 zT_1089 rfl (zz_ltn hn rfl) (by decide) (by decide) (fun S1 qS1 => ?_)
  have G_S1 := zz_G.put G_S0 qS1 (-2147483648) 2147483647 rfl (by omega)
  have F_S1 := zz_fr.puts F_S0 qS1 rfl
  refine zz_aload_n (x := 1089) rfl zd_14_20_6 ?_
  refine zz_iconst zd_14_20_7 ?_
  refine zz_iload_n (x := 0) rfl zd_14_20_8 ?_
  refine zz_imul zd_14_20_9 ?_
  refine zz_eqv (v := 0) (by decide) ?_
  refine zz_iconst zd_14_20_10 ?_
  refine zz_iadd zd_14_20_11 ?_
  refine zz_eqv (v := 1) (by decide) ?_
  refine zz_iload (x := p3) rfl zd_14_20_12 ?_
  refine zz_iast zd_14_20_14 zT_1089 rfl (zz_ltn hn rfl) (by decide) (by decide) (fun S2 qS2 => ?_)
  have G_S2 := zz_G.put G_S1 qS2 (-2147483648) 2147483647 rfl (by omega)
  have F_S2 := zz_fr.puts F_S1 qS2 rfl
  have e3 : S2 1089 0 = p2 := (zz_ro qS2 (fun h => absurd h.2 (by decide)) (zz_rs qS1))
  have e4 : S2 1089 1 = p3 := (zz_rs qS2)
  exact zz_vret zd_14_20_15 rfl (Nat.zero_le _) (Nat.zero_le _) ⟨_, rfl, G_S2, F_S2, by omega, by omega⟩
theorem zg_14_22_29 : zq_at zy_reaches_14_22.2.1 29 132 ∧ zq_at zy_reaches_14_22.2.1 30 1 ∧ zq_at zy_reaches_14_22.2.1 31 1 ∧ zq_at zy_reaches_14_22.2.1 32 167 ∧ zq_at zy_reaches_14_22.2.1 33 255 ∧ zq_at zy_reaches_14_22.2.1 34 226 := by decide +kernel
theorem zd_14_22_29 : zz_D zy_reaches_14_22 29 (.iinc 1 1) 3 32 := ⟨zq_132 zg_14_22_29.1 zg_14_22_29.2.1 zg_14_22_29.2.2.1 (by decide), rfl⟩
theorem zd_14_22_32 : zz_B zy_reaches_14_22 32 Instr.goto 2 35 := ⟨(-30), zq_167 zg_14_22_29.2.2.2.1 zg_14_22_29.2.2.2.2.1 zg_14_22_29.2.2.2.2.2 (by decide), rfl, rfl⟩
-- TensorForgeModel reach ([IIII)V
abbrev zr_reach_14_20x_1088_1 : Room := { frames := 0, cells := 0, slots := 0, locals := 0 }
def zp_reach_14_20x_1088_1 (p2 : Int) (p3 : Int) (S0 : zz_S) : zz_S → Prop := fun S => zz_G S ∧ zz_fr [(1088, 2), (1088, 3)] [] (fun _ _ => False) S0 S ∧ (S 1088 2 = p2) ∧ (S 1088 3 = p3)
theorem zc_reach_14_20x_1088_1 {g : mm_G} {l : Launch} (p2 : Int) (p3 : Int) (S0 : zz_S) (n : Nat) (hn : zz_end ≤ n) (G_S0 : zz_G S0) (hp2 : (-2147483648) ≤ p2 ∧ p2 ≤ 2147483647) (hp3 : (-2147483648) ≤ p3 ∧ p3 ≤ 2147483647) : mm_Met g l zy_reach_14_20 zr_reach_14_20x_1088_1 [.ref 1079, .ref 1088, zi 1, zi p2, zi p3] (zz_M S0 n) n (zz_QV n (zp_reach_14_20x_1088_1 p2 p3 S0)) := by
  refine zz_enter (by decide) (Nat.le_of_ble_eq_true rfl) (zz_less (ls1 := [some (.ref 1079), some (.ref 1088), some (zi 1), some (zi p2), some (zi p3)]) ⟨rfl, ⟨rfl, ⟨rfl, ⟨rfl, ⟨rfl, trivial⟩⟩⟩⟩⟩ ?_)
  have F_S0 : zz_fr [(1088, 2), (1088, 3)] [] (fun _ _ => False) S0 S0 := zz_fr.refl
  refine zz_aload_n (x := 1088) rfl zd_14_20_0 ?_
  refine zz_iconst zd_14_20_1 ?_
  refine zz_iload_n (x := 1) rfl zd_14_20_2 ?_
  refine zz_imul zd_14_20_3 ?_
  refine zz_eqv (v := 2) (by decide) ?_
  refine zz_iload_n (x := p2) rfl zd_14_20_4 ?_
  refine zz_iast zd_14_20_5 zT_1088 rfl (zz_ltn hn rfl) (by decide) (by decide) (fun S1 qS1 => ?_)
  have G_S1 := zz_G.put G_S0 qS1 (-2147483648) 2147483647 rfl (by omega)
  have F_S1 := zz_fr.puts F_S0 qS1 rfl
  refine zz_aload_n (x := 1088) rfl zd_14_20_6 ?_
  refine zz_iconst zd_14_20_7 ?_
  refine zz_iload_n (x := 1) rfl zd_14_20_8 ?_
  refine zz_imul zd_14_20_9 ?_
  refine zz_eqv (v := 2) (by decide) ?_
  refine zz_iconst zd_14_20_10 ?_
  refine zz_iadd zd_14_20_11 ?_
  refine zz_eqv (v := 3) (by decide) ?_
  refine zz_iload (x := p3) rfl zd_14_20_12 ?_
  refine zz_iast zd_14_20_14 zT_1088 rfl (zz_ltn hn rfl) (by decide) (by decide) (fun S2 qS2 => ?_)
  have G_S2 := zz_G.put G_S1 qS2 (-2147483648) 2147483647 rfl (by omega)
  have F_S2 := zz_fr.puts F_S1 qS2 rfl
  have e3 : S2 1088 2 = p2 := (zz_ro qS2 (fun h => absurd h.2 (by decide)) (zz_rs qS1))
  have e4 : S2 1088 3 = p3 := (zz_rs qS2)
  exact zz_vret zd_14_20_15 rfl (Nat.zero_le _) (Nat.zero_le _) ⟨_, rfl, G_S2, F_S2, by omega, by omega⟩
-- TensorForgeModel reach ([IIII)V
abbrev zr_reach_14_20x_1089_1 : Room := { frames := 0, cells := 0, slots := 0, locals := 0 }
def zp_reach_14_20x_1089_1 (p2 : Int) (p3 : Int) (S0 : zz_S) : zz_S → Prop := fun S => zz_G S ∧ zz_fr [(1089, 2), (1089, 3)] [] (fun _ _ => False) S0 S ∧ (S 1089 2 = p2) ∧ (S 1089 3 = p3)
theorem zc_reach_14_20x_1089_1 {g : mm_G} {l : Launch} (p2 : Int) (p3 : Int) (S0 : zz_S) (n : Nat) (hn : zz_end ≤ n) (G_S0 : zz_G S0) (hp2 : (-2147483648) ≤ p2 ∧ p2 ≤ 2147483647) (hp3 : (-2147483648) ≤ p3 ∧ p3 ≤ 2147483647) : mm_Met g l zy_reach_14_20 zr_reach_14_20x_1089_1 [.ref 1079, .ref 1089, zi 1, zi p2, zi p3] (zz_M S0 n) n (zz_QV n (zp_reach_14_20x_1089_1 p2 p3 S0)) := by
  refine zz_enter (by decide) (Nat.le_of_ble_eq_true rfl) (zz_less (ls1 := [some (.ref 1079), some (.ref 1089), some (zi 1), some (zi p2), some (zi p3)]) ⟨rfl, ⟨rfl, ⟨rfl, ⟨rfl, ⟨rfl, trivial⟩⟩⟩⟩⟩ ?_)
  have F_S0 : zz_fr [(1089, 2), (1089, 3)] [] (fun _ _ => False) S0 S0 := zz_fr.refl
  refine zz_aload_n (x := 1089) rfl zd_14_20_0 ?_
  refine zz_iconst zd_14_20_1 ?_
  refine zz_iload_n (x := 1) rfl zd_14_20_2 ?_
  refine zz_imul zd_14_20_3 ?_
  refine zz_eqv (v := 2) (by decide) ?_
  refine zz_iload_n (x := p2) rfl zd_14_20_4 ?_
  refine zz_iast zd_14_20_5 zT_1089 rfl (zz_ltn hn rfl) (by decide) (by decide) (fun S1 qS1 => ?_)
  have G_S1 := zz_G.put G_S0 qS1 (-2147483648) 2147483647 rfl (by omega)
  have F_S1 := zz_fr.puts F_S0 qS1 rfl
  refine zz_aload_n (x := 1089) rfl zd_14_20_6 ?_
  refine zz_iconst zd_14_20_7 ?_
  refine zz_iload_n (x := 1) rfl zd_14_20_8 ?_
  refine zz_imul zd_14_20_9 ?_
  refine zz_eqv (v := 2) (by decide) ?_
  refine zz_iconst zd_14_20_10 ?_
  refine zz_iadd zd_14_20_11 ?_
  refine zz_eqv (v := 3) (by decide) ?_
  refine zz_iload (x := p3) rfl zd_14_20_12 ?_
  refine zz_iast zd_14_20_14 zT_1089 rfl (zz_ltn hn rfl) (by decide) (by decide) (fun S2 qS2 => ?_)
  have G_S2 := zz_G.put G_S1 qS2 (-2147483648) 2147483647 rfl (by omega)
  have F_S2 := zz_fr.puts F_S1 qS2 rfl
  have e3 : S2 1089 2 = p2 := (zz_ro qS2 (fun h => absurd h.2 (by decide)) (zz_rs qS1))
  have e4 : S2 1089 3 = p3 := (zz_rs qS2)
  exact zz_vret zd_14_20_15 rfl (Nat.zero_le _) (Nat.zero_le _) ⟨_, rfl, G_S2, F_S2, by omega, by omega⟩
-- TensorForgeModel reach ([IIII)V
abbrev zr_reach_14_20x_1088_2 : Room := { frames := 0, cells := 0, slots := 0, locals := 0 }
def zp_reach_14_20x_1088_2 (p2 : Int) (p3 : Int) (S0 : zz_S) : zz_S → Prop := fun S => zz_G S ∧ zz_fr [(1088, 4), (1088, 5)] [] (fun _ _ => False) S0 S ∧ (S 1088 4 = p2) ∧ (S 1088 5 = p3)
theorem zc_reach_14_20x_1088_2 {g : mm_G} {l : Launch} (p2 : Int) (p3 : Int) (S0 : zz_S) (n : Nat) (hn : zz_end ≤ n) (G_S0 : zz_G S0) (hp2 : (-2147483648) ≤ p2 ∧ p2 ≤ 2147483647) (hp3 : (-2147483648) ≤ p3 ∧ p3 ≤ 2147483647) : mm_Met g l zy_reach_14_20 zr_reach_14_20x_1088_2 [.ref 1079, .ref 1088, zi 2, zi p2, zi p3] (zz_M S0 n) n (zz_QV n (zp_reach_14_20x_1088_2 p2 p3 S0)) := by
  refine zz_enter (by decide) (Nat.le_of_ble_eq_true rfl) (zz_less (ls1 := [some (.ref 1079), some (.ref 1088), some (zi 2), some (zi p2), some (zi p3)]) ⟨rfl, ⟨rfl, ⟨rfl, ⟨rfl, ⟨rfl, trivial⟩⟩⟩⟩⟩ ?_)
  have F_S0 : zz_fr [(1088, 4), (1088, 5)] [] (fun _ _ => False) S0 S0 := zz_fr.refl
  refine zz_aload_n (x := 1088) rfl zd_14_20_0 ?_
  refine zz_iconst zd_14_20_1 ?_
  refine zz_iload_n (x := 2) rfl zd_14_20_2 ?_
  refine zz_imul zd_14_20_3 ?_
  refine zz_eqv (v := 4) (by decide) ?_
  refine zz_iload_n (x := p2) rfl zd_14_20_4 ?_
  refine zz_iast zd_14_20_5 zT_1088 rfl (zz_ltn hn rfl) (by decide) (by decide) (fun S1 qS1 => ?_)
  have G_S1 := zz_G.put G_S0 qS1 (-2147483648) 2147483647 rfl (by omega)
  have F_S1 := zz_fr.puts F_S0 qS1 rfl
  refine zz_aload_n (x := 1088) rfl zd_14_20_6 ?_
  refine zz_iconst zd_14_20_7 ?_
  refine zz_iload_n (x := 2) rfl zd_14_20_8 ?_
  refine zz_imul zd_14_20_9 ?_
  refine zz_eqv (v := 4) (by decide) ?_
  refine zz_iconst zd_14_20_10 ?_
  refine zz_iadd zd_14_20_11 ?_
  refine zz_eqv (v := 5) (by decide) ?_
  refine zz_iload (x := p3) rfl zd_14_20_12 ?_
  refine zz_iast zd_14_20_14 zT_1088 rfl (zz_ltn hn rfl) (by decide) (by decide) (fun S2 qS2 => ?_)
  have G_S2 := zz_G.put G_S1 qS2 (-2147483648) 2147483647 rfl (by omega)
  have F_S2 := zz_fr.puts F_S1 qS2 rfl
  have e3 : S2 1088 4 = p2 := (zz_ro qS2 (fun h => absurd h.2 (by decide)) (zz_rs qS1))
  have e4 : S2 1088 5 = p3 := (zz_rs qS2)
  exact zz_vret zd_14_20_15 rfl (Nat.zero_le _) (Nat.zero_le _) ⟨_, rfl, G_S2, F_S2, by omega, by omega⟩
-- TensorForgeModel reach ([IIII)V
abbrev zr_reach_14_20x_1089_2 : Room := { frames := 0, cells := 0, slots := 0, locals := 0 }
def zp_reach_14_20x_1089_2 (p2 : Int) (p3 : Int) (S0 : zz_S) : zz_S → Prop := fun S => zz_G S ∧ zz_fr [(1089, 4), (1089, 5)] [] (fun _ _ => False) S0 S ∧ (S 1089 4 = p2) ∧ (S 1089 5 = p3)
theorem zc_reach_14_20x_1089_2 {g : mm_G} {l : Launch} (p2 : Int) (p3 : Int) (S0 : zz_S) (n : Nat) (hn : zz_end ≤ n) (G_S0 : zz_G S0) (hp2 : (-2147483648) ≤ p2 ∧ p2 ≤ 2147483647) (hp3 : (-2147483648) ≤ p3 ∧ p3 ≤ 2147483647) : mm_Met g l zy_reach_14_20 zr_reach_14_20x_1089_2 [.ref 1079, .ref 1089, zi 2, zi p2, zi p3] (zz_M S0 n) n (zz_QV n (zp_reach_14_20x_1089_2 p2 p3 S0)) := by
  refine zz_enter (by decide) (Nat.le_of_ble_eq_true rfl) (zz_less (ls1 := [some (.ref 1079), some (.ref 1089), some (zi 2), some (zi p2), some (zi p3)]) ⟨rfl, ⟨rfl, ⟨rfl, ⟨rfl, ⟨rfl, trivial⟩⟩⟩⟩⟩ ?_)
  have F_S0 : zz_fr [(1089, 4), (1089, 5)] [] (fun _ _ => False) S0 S0 := zz_fr.refl
  refine zz_aload_n (x := 1089) rfl zd_14_20_0 ?_
  refine zz_iconst zd_14_20_1 ?_
  refine zz_iload_n (x := 2) rfl zd_14_20_2 ?_
  refine zz_imul zd_14_20_3 ?_
  refine zz_eqv (v := 4) (by decide) ?_
  refine zz_iload_n (x := p2) rfl zd_14_20_4 ?_
  refine zz_iast zd_14_20_5 zT_1089 rfl (zz_ltn hn rfl) (by decide) (by decide) (fun S1 qS1 => ?_)
  have G_S1 := zz_G.put G_S0 qS1 (-2147483648) 2147483647 rfl (by omega)
  have F_S1 := zz_fr.puts F_S0 qS1 rfl
  refine zz_aload_n (x := 1089) rfl zd_14_20_6 ?_
  refine zz_iconst zd_14_20_7 ?_
  refine zz_iload_n (x := 2) rfl zd_14_20_8 ?_
  refine zz_imul zd_14_20_9 ?_
  refine zz_eqv (v := 4) (by decide) ?_
  refine zz_iconst zd_14_20_10 ?_
  refine zz_iadd zd_14_20_11 ?_
  refine zz_eqv (v := 5) (by decide) ?_
  refine zz_iload (x := p3) rfl zd_14_20_12 ?_
  refine zz_iast zd_14_20_14 zT_1089 rfl (zz_ltn hn rfl) (by decide) (by decide) (fun S2 qS2 => ?_)
  have G_S2 := zz_G.put G_S1 qS2 (-2147483648) 2147483647 rfl (by omega)
  have F_S2 := zz_fr.puts F_S1 qS2 rfl
  have e3 : S2 1089 4 = p2 := (zz_ro qS2 (fun h => absurd h.2 (by decide)) (zz_rs qS1))
  have e4 : S2 1089 5 = p3 := (zz_rs qS2)
  exact zz_vret zd_14_20_15 rfl (Nat.zero_le _) (Nat.zero_le _) ⟨_, rfl, G_S2, F_S2, by omega, by omega⟩
-- TensorForgeModel reach ([IIII)V
abbrev zr_reach_14_20x_1088_3 : Room := { frames := 0, cells := 0, slots := 0, locals := 0 }
def zp_reach_14_20x_1088_3 (p2 : Int) (p3 : Int) (S0 : zz_S) : zz_S → Prop := fun S => zz_G S ∧ zz_fr [(1088, 6), (1088, 7)] [] (fun _ _ => False) S0 S ∧ (S 1088 6 = p2) ∧ (S 1088 7 = p3)
theorem zc_reach_14_20x_1088_3 {g : mm_G} {l : Launch} (p2 : Int) (p3 : Int) (S0 : zz_S) (n : Nat) (hn : zz_end ≤ n) (G_S0 : zz_G S0) (hp2 : (-2147483648) ≤ p2 ∧ p2 ≤ 2147483647) (hp3 : (-2147483648) ≤ p3 ∧ p3 ≤ 2147483647) : mm_Met g l zy_reach_14_20 zr_reach_14_20x_1088_3 [.ref 1079, .ref 1088, zi 3, zi p2, zi p3] (zz_M S0 n) n (zz_QV n (zp_reach_14_20x_1088_3 p2 p3 S0)) := by
  refine zz_enter (by decide) (Nat.le_of_ble_eq_true rfl) (zz_less (ls1 := [some (.ref 1079), some (.ref 1088), some (zi 3), some (zi p2), some (zi p3)]) ⟨rfl, ⟨rfl, ⟨rfl, ⟨rfl, ⟨rfl, trivial⟩⟩⟩⟩⟩ ?_)
  have F_S0 : zz_fr [(1088, 6), (1088, 7)] [] (fun _ _ => False) S0 S0 := zz_fr.refl
  refine zz_aload_n (x := 1088) rfl zd_14_20_0 ?_
  refine zz_iconst zd_14_20_1 ?_
  refine zz_iload_n (x := 3) rfl zd_14_20_2 ?_
  refine zz_imul zd_14_20_3 ?_
  refine zz_eqv (v := 6) (by decide) ?_
  refine zz_iload_n (x := p2) rfl zd_14_20_4 ?_
  refine zz_iast zd_14_20_5 zT_1088 rfl (zz_ltn hn rfl) (by decide) (by decide) (fun S1 qS1 => ?_)
  have G_S1 := zz_G.put G_S0 qS1 (-2147483648) 2147483647 rfl (by omega)
  have F_S1 := zz_fr.puts F_S0 qS1 rfl
  refine zz_aload_n (x := 1088) rfl zd_14_20_6 ?_
  refine zz_iconst zd_14_20_7 ?_
  refine zz_iload_n (x := 3) rfl zd_14_20_8 ?_
  refine zz_imul zd_14_20_9 ?_
  refine zz_eqv (v := 6) (by decide) ?_
  refine zz_iconst zd_14_20_10 ?_
  refine zz_iadd zd_14_20_11 ?_
  refine zz_eqv (v := 7) (by decide) ?_
  refine zz_iload (x := p3) rfl zd_14_20_12 ?_
  refine zz_iast zd_14_20_14 zT_1088 rfl (zz_ltn hn rfl) (by decide) (by decide) (fun S2 qS2 => ?_)
  have G_S2 := zz_G.put G_S1 qS2 (-2147483648) 2147483647 rfl (by omega)
  have F_S2 := zz_fr.puts F_S1 qS2 rfl
  have e3 : S2 1088 6 = p2 := (zz_ro qS2 (fun h => absurd h.2 (by decide)) (zz_rs qS1))
  have e4 : S2 1088 7 = p3 := (zz_rs qS2)
  exact zz_vret zd_14_20_15 rfl (Nat.zero_le _) (Nat.zero_le _) ⟨_, rfl, G_S2, F_S2, by omega, by omega⟩
-- TensorForgeModel reach ([IIII)V
abbrev zr_reach_14_20x_1089_3 : Room := { frames := 0, cells := 0, slots := 0, locals := 0 }
def zp_reach_14_20x_1089_3 (p2 : Int) (p3 : Int) (S0 : zz_S) : zz_S → Prop := fun S => zz_G S ∧ zz_fr [(1089, 6), (1089, 7)] [] (fun _ _ => False) S0 S ∧ (S 1089 6 = p2) ∧ (S 1089 7 = p3)
theorem zc_reach_14_20x_1089_3 {g : mm_G} {l : Launch} (p2 : Int) (p3 : Int) (S0 : zz_S) (n : Nat) (hn : zz_end ≤ n) (G_S0 : zz_G S0) (hp2 : (-2147483648) ≤ p2 ∧ p2 ≤ 2147483647) (hp3 : (-2147483648) ≤ p3 ∧ p3 ≤ 2147483647) : mm_Met g l zy_reach_14_20 zr_reach_14_20x_1089_3 [.ref 1079, .ref 1089, zi 3, zi p2, zi p3] (zz_M S0 n) n (zz_QV n (zp_reach_14_20x_1089_3 p2 p3 S0)) := by
  refine zz_enter (by decide) (Nat.le_of_ble_eq_true rfl) (zz_less (ls1 := [some (.ref 1079), some (.ref 1089), some (zi 3), some (zi p2), some (zi p3)]) ⟨rfl, ⟨rfl, ⟨rfl, ⟨rfl, ⟨rfl, trivial⟩⟩⟩⟩⟩ ?_)
  have F_S0 : zz_fr [(1089, 6), (1089, 7)] [] (fun _ _ => False) S0 S0 := zz_fr.refl
  refine zz_aload_n (x := 1089) rfl zd_14_20_0 ?_
  refine zz_iconst zd_14_20_1 ?_
  refine zz_iload_n (x := 3) rfl zd_14_20_2 ?_
  refine zz_imul zd_14_20_3 ?_
  refine zz_eqv (v := 6) (by decide) ?_
  refine zz_iload_n (x := p2) rfl zd_14_20_4 ?_
  refine zz_iast zd_14_20_5 zT_1089 rfl (zz_ltn hn rfl) (by decide) (by decide) (fun S1 qS1 => ?_)
  have G_S1 := zz_G.put G_S0 qS1 (-2147483648) 2147483647 rfl (by omega)
  have F_S1 := zz_fr.puts F_S0 qS1 rfl
  refine zz_aload_n (x := 1089) rfl zd_14_20_6 ?_
  refine zz_iconst zd_14_20_7 ?_
  refine zz_iload_n (x := 3) rfl zd_14_20_8 ?_
  refine zz_imul zd_14_20_9 ?_
  refine zz_eqv (v := 6) (by decide) ?_
  refine zz_iconst zd_14_20_10 ?_
  refine zz_iadd zd_14_20_11 ?_
  refine zz_eqv (v := 7) (by decide) ?_
  refine zz_iload (x := p3) rfl zd_14_20_12 ?_
  refine zz_iast zd_14_20_14 zT_1089 rfl (zz_ltn hn rfl) (by decide) (by decide) (fun S2 qS2 => ?_)
  have G_S2 := zz_G.put G_S1 qS2 (-2147483648) 2147483647 rfl (by omega)
  have F_S2 := zz_fr.puts F_S1 qS2 rfl
  have e3 : S2 1089 6 = p2 := (zz_ro qS2 (fun h => absurd h.2 (by decide)) (zz_rs qS1))
  have e4 : S2 1089 7 = p3 := (zz_rs qS2)
  exact zz_vret zd_14_20_15 rfl (Nat.zero_le _) (Nat.zero_le _) ⟨_, rfl, G_S2, F_S2, by omega, by omega⟩
-- TensorForgeModel reach ([IIII)V
abbrev zr_reach_14_20x_1088_4 : Room := { frames := 0, cells := 0, slots := 0, locals := 0 }
def zp_reach_14_20x_1088_4 (p2 : Int) (p3 : Int) (S0 : zz_S) : zz_S → Prop := fun S => zz_G S ∧ zz_fr [(1088, 8), (1088, 9)] [] (fun _ _ => False) S0 S ∧ (S 1088 8 = p2) ∧ (S 1088 9 = p3)
theorem zc_reach_14_20x_1088_4 {g : mm_G} {l : Launch} (p2 : Int) (p3 : Int) (S0 : zz_S) (n : Nat) (hn : zz_end ≤ n) (G_S0 : zz_G S0) (hp2 : (-2147483648) ≤ p2 ∧ p2 ≤ 2147483647) (hp3 : (-2147483648) ≤ p3 ∧ p3 ≤ 2147483647) : mm_Met g l zy_reach_14_20 zr_reach_14_20x_1088_4 [.ref 1079, .ref 1088, zi 4, zi p2, zi p3] (zz_M S0 n) n (zz_QV n (zp_reach_14_20x_1088_4 p2 p3 S0)) := by
  refine zz_enter (by decide) (Nat.le_of_ble_eq_true rfl) (zz_less (ls1 := [some (.ref 1079), some (.ref 1088), some (zi 4), some (zi p2), some (zi p3)]) ⟨rfl, ⟨rfl, ⟨rfl, ⟨rfl, ⟨rfl, trivial⟩⟩⟩⟩⟩ ?_)
  have F_S0 : zz_fr [(1088, 8), (1088, 9)] [] (fun _ _ => False) S0 S0 := zz_fr.refl
  refine zz_aload_n (x := 1088) rfl zd_14_20_0 ?_
  refine zz_iconst zd_14_20_1 ?_
  refine zz_iload_n (x := 4) rfl zd_14_20_2 ?_
  refine zz_imul zd_14_20_3 ?_
  refine zz_eqv (v := 8) (by decide) ?_
  refine zz_iload_n (x := p2) rfl zd_14_20_4 ?_
  refine zz_iast zd_14_20_5 zT_1088 rfl (zz_ltn hn rfl) (by decide) (by decide) (fun S1 qS1 => ?_)
  have G_S1 := zz_G.put G_S0 qS1 (-2147483648) 2147483647 rfl (by omega)
  have F_S1 := zz_fr.puts F_S0 qS1 rfl
  refine zz_aload_n (x := 1088) rfl zd_14_20_6 ?_
  refine zz_iconst zd_14_20_7 ?_
  refine zz_iload_n (x := 4) rfl zd_14_20_8 ?_
  refine zz_imul zd_14_20_9 ?_
  refine zz_eqv (v := 8) (by decide) ?_
  refine zz_iconst zd_14_20_10 ?_
  refine zz_iadd zd_14_20_11 ?_
  refine zz_eqv (v := 9) (by decide) ?_
  refine zz_iload (x := p3) rfl zd_14_20_12 ?_
  refine zz_iast zd_14_20_14 zT_1088 rfl (zz_ltn hn rfl) (by decide) (by decide) (fun S2 qS2 => ?_)
  have G_S2 := zz_G.put G_S1 qS2 (-2147483648) 2147483647 rfl (by omega)
  have F_S2 := zz_fr.puts F_S1 qS2 rfl
  have e3 : S2 1088 8 = p2 := (zz_ro qS2 (fun h => absurd h.2 (by decide)) (zz_rs qS1))
  have e4 : S2 1088 9 = p3 := (zz_rs qS2)
  exact zz_vret zd_14_20_15 rfl (Nat.zero_le _) (Nat.zero_le _) ⟨_, rfl, G_S2, F_S2, by omega, by omega⟩
-- TensorForgeModel reach ([IIII)V
abbrev zr_reach_14_20x_1089_4 : Room := { frames := 0, cells := 0, slots := 0, locals := 0 }
def zp_reach_14_20x_1089_4 (p2 : Int) (p3 : Int) (S0 : zz_S) : zz_S → Prop := fun S => zz_G S ∧ zz_fr [(1089, 8), (1089, 9)] [] (fun _ _ => False) S0 S ∧ (S 1089 8 = p2) ∧ (S 1089 9 = p3)
theorem zc_reach_14_20x_1089_4 {g : mm_G} {l : Launch} (p2 : Int) (p3 : Int) (S0 : zz_S) (n : Nat) (hn : zz_end ≤ n) (G_S0 : zz_G S0) (hp2 : (-2147483648) ≤ p2 ∧ p2 ≤ 2147483647) (hp3 : (-2147483648) ≤ p3 ∧ p3 ≤ 2147483647) : mm_Met g l zy_reach_14_20 zr_reach_14_20x_1089_4 [.ref 1079, .ref 1089, zi 4, zi p2, zi p3] (zz_M S0 n) n (zz_QV n (zp_reach_14_20x_1089_4 p2 p3 S0)) := by
  refine zz_enter (by decide) (Nat.le_of_ble_eq_true rfl) (zz_less (ls1 := [some (.ref 1079), some (.ref 1089), some (zi 4), some (zi p2), some (zi p3)]) ⟨rfl, ⟨rfl, ⟨rfl, ⟨rfl, ⟨rfl, trivial⟩⟩⟩⟩⟩ ?_)
  have F_S0 : zz_fr [(1089, 8), (1089, 9)] [] (fun _ _ => False) S0 S0 := zz_fr.refl
  refine zz_aload_n (x := 1089) rfl zd_14_20_0 ?_
  refine zz_iconst zd_14_20_1 ?_
  refine zz_iload_n (x := 4) rfl zd_14_20_2 ?_
  refine zz_imul zd_14_20_3 ?_
  refine zz_eqv (v := 8) (by decide) ?_
  refine zz_iload_n (x := p2) rfl zd_14_20_4 ?_
  refine zz_iast zd_14_20_5 zT_1089 rfl (zz_ltn hn rfl) (by decide) (by decide) (fun S1 qS1 => ?_)
  have G_S1 := zz_G.put G_S0 qS1 (-2147483648) 2147483647 rfl (by omega)
  have F_S1 := zz_fr.puts F_S0 qS1 rfl
  refine zz_aload_n (x := 1089) rfl zd_14_20_6 ?_
  refine zz_iconst zd_14_20_7 ?_
  refine zz_iload_n (x := 4) rfl zd_14_20_8 ?_
  refine zz_imul zd_14_20_9 ?_
  refine zz_eqv (v := 8) (by decide) ?_
  refine zz_iconst zd_14_20_10 ?_
  refine zz_iadd zd_14_20_11 ?_
  refine zz_eqv (v := 9) (by decide) ?_
  refine zz_iload (x := p3) rfl zd_14_20_12 ?_
  refine zz_iast zd_14_20_14 zT_1089 rfl (zz_ltn hn rfl) (by decide) (by decide) (fun S2 qS2 => ?_)
  have G_S2 := zz_G.put G_S1 qS2 (-2147483648) 2147483647 rfl (by omega)
  have F_S2 := zz_fr.puts F_S1 qS2 rfl
  have e3 : S2 1089 8 = p2 := (zz_ro qS2 (fun h => absurd h.2 (by decide)) (zz_rs qS1))
  have e4 : S2 1089 9 = p3 := (zz_rs qS2)
  exact zz_vret zd_14_20_15 rfl (Nat.zero_le _) (Nat.zero_le _) ⟨_, rfl, G_S2, F_S2, by omega, by omega⟩
theorem zd_14_22_91 : zz_W zy_reaches_14_22 91 403 1 8 #[45, 45, 90, 109, 151, 267, 328, 363] := ⟨45, by decide +kernel⟩
theorem zk_Md_231 : mm_Vl "TensorForgeModel" 231 11 2 zy_rowsEnd_14_21 := ⟨zyw_rowsEnd_14_21, (R_Md, F_Md, 69), rfl, mm_tb_1 1911 (by decide +kernel) rfl, mm_tb_1 1913 (by decide +kernel) rfl, mm_tb_s 93 (by decide +kernel) rfl⟩
theorem zg_14_22_35 : zq_at zy_reaches_14_22.2.1 35 42 ∧ zq_at zy_reaches_14_22.2.1 36 180 ∧ zq_at zy_reaches_14_22.2.1 37 0 ∧ zq_at zy_reaches_14_22.2.1 38 36 ∧ zq_at zy_reaches_14_22.2.1 39 16 ∧ zq_at zy_reaches_14_22.2.1 40 7 ∧ zq_at zy_reaches_14_22.2.1 41 46 ∧ zq_at zy_reaches_14_22.2.1 42 60 ∧ zq_at zy_reaches_14_22.2.1 43 42 ∧ zq_at zy_reaches_14_22.2.1 44 180 ∧ zq_at zy_reaches_14_22.2.1 45 0 ∧ zq_at zy_reaches_14_22.2.1 46 36 ∧ zq_at zy_reaches_14_22.2.1 47 16 ∧ zq_at zy_reaches_14_22.2.1 48 8 ∧ zq_at zy_reaches_14_22.2.1 49 46 ∧ zq_at zy_reaches_14_22.2.1 50 61 ∧ zq_at zy_reaches_14_22.2.1 51 42 ∧ zq_at zy_reaches_14_22.2.1 52 180 ∧ zq_at zy_reaches_14_22.2.1 53 0 ∧ zq_at zy_reaches_14_22.2.1 54 36 ∧ zq_at zy_reaches_14_22.2.1 55 16 ∧ zq_at zy_reaches_14_22.2.1 56 9 ∧ zq_at zy_reaches_14_22.2.1 57 46 ∧ zq_at zy_reaches_14_22.2.1 58 62 := by decide +kernel
theorem zd_14_22_35 : zz_D zy_reaches_14_22 35 (.aload_n 0) 1 36 := ⟨zq_42 zg_14_22_35.1, rfl⟩
theorem zd_14_22_36 : zz_D zy_reaches_14_22 36 (.getfield 36) 3 39 := ⟨zq_180 zg_14_22_35.2.1 zg_14_22_35.2.2.1 zg_14_22_35.2.2.2.1 rfl, rfl⟩
theorem zd_14_22_39 : zz_D zy_reaches_14_22 39 (.bipush 7) 2 41 := ⟨zq_16 zg_14_22_35.2.2.2.2.1 zg_14_22_35.2.2.2.2.2.1 (by decide), rfl⟩
theorem zd_14_22_41 : zz_D zy_reaches_14_22 41 (.iaload) 1 42 := ⟨zq_46 zg_14_22_35.2.2.2.2.2.2.1, rfl⟩
theorem zd_14_22_42 : zz_D zy_reaches_14_22 42 (.istore_n 1) 1 43 := ⟨zq_60 zg_14_22_35.2.2.2.2.2.2.2.1, rfl⟩
theorem zd_14_22_43 : zz_D zy_reaches_14_22 43 (.aload_n 0) 1 44 := ⟨zq_42 zg_14_22_35.2.2.2.2.2.2.2.2.1, rfl⟩
theorem zd_14_22_44 : zz_D zy_reaches_14_22 44 (.getfield 36) 3 47 := ⟨zq_180 zg_14_22_35.2.2.2.2.2.2.2.2.2.1 zg_14_22_35.2.2.2.2.2.2.2.2.2.2.1 zg_14_22_35.2.2.2.2.2.2.2.2.2.2.2.1 rfl, rfl⟩
theorem zd_14_22_47 : zz_D zy_reaches_14_22 47 (.bipush 8) 2 49 := ⟨zq_16 zg_14_22_35.2.2.2.2.2.2.2.2.2.2.2.2.1 zg_14_22_35.2.2.2.2.2.2.2.2.2.2.2.2.2.1 (by decide), rfl⟩
theorem zd_14_22_49 : zz_D zy_reaches_14_22 49 (.iaload) 1 50 := ⟨zq_46 zg_14_22_35.2.2.2.2.2.2.2.2.2.2.2.2.2.2.1, rfl⟩
theorem zd_14_22_50 : zz_D zy_reaches_14_22 50 (.istore_n 2) 1 51 := ⟨zq_61 zg_14_22_35.2.2.2.2.2.2.2.2.2.2.2.2.2.2.2.1, rfl⟩
theorem zd_14_22_51 : zz_D zy_reaches_14_22 51 (.aload_n 0) 1 52 := ⟨zq_42 zg_14_22_35.2.2.2.2.2.2.2.2.2.2.2.2.2.2.2.2.1, rfl⟩
theorem zd_14_22_52 : zz_D zy_reaches_14_22 52 (.getfield 36) 3 55 := ⟨zq_180 zg_14_22_35.2.2.2.2.2.2.2.2.2.2.2.2.2.2.2.2.2.1 zg_14_22_35.2.2.2.2.2.2.2.2.2.2.2.2.2.2.2.2.2.2.1 zg_14_22_35.2.2.2.2.2.2.2.2.2.2.2.2.2.2.2.2.2.2.2.1 rfl, rfl⟩
theorem zd_14_22_55 : zz_D zy_reaches_14_22 55 (.bipush 9) 2 57 := ⟨zq_16 zg_14_22_35.2.2.2.2.2.2.2.2.2.2.2.2.2.2.2.2.2.2.2.2.1 zg_14_22_35.2.2.2.2.2.2.2.2.2.2.2.2.2.2.2.2.2.2.2.2.2.1 (by decide), rfl⟩
theorem zd_14_22_57 : zz_D zy_reaches_14_22 57 (.iaload) 1 58 := ⟨zq_46 zg_14_22_35.2.2.2.2.2.2.2.2.2.2.2.2.2.2.2.2.2.2.2.2.2.2.1, rfl⟩
theorem zd_14_22_58 : zz_D zy_reaches_14_22 58 (.istore_n 3) 1 59 := ⟨zq_62 zg_14_22_35.2.2.2.2.2.2.2.2.2.2.2.2.2.2.2.2.2.2.2.2.2.2.2, rfl⟩
theorem zg_14_22_59 : zq_at zy_reaches_14_22.2.1 59 42 ∧ zq_at zy_reaches_14_22.2.1 60 180 ∧ zq_at zy_reaches_14_22.2.1 61 0 ∧ zq_at zy_reaches_14_22.2.1 62 36 ∧ zq_at zy_reaches_14_22.2.1 63 8 ∧ zq_at zy_reaches_14_22.2.1 64 46 ∧ zq_at zy_reaches_14_22.2.1 65 42 ∧ zq_at zy_reaches_14_22.2.1 66 180 ∧ zq_at zy_reaches_14_22.2.1 67 0 ∧ zq_at zy_reaches_14_22.2.1 68 36 ∧ zq_at zy_reaches_14_22.2.1 69 16 ∧ zq_at zy_reaches_14_22.2.1 70 6 ∧ zq_at zy_reaches_14_22.2.1 71 46 ∧ zq_at zy_reaches_14_22.2.1 72 4 ∧ zq_at zy_reaches_14_22.2.1 73 100 ∧ zq_at zy_reaches_14_22.2.1 74 42 ∧ zq_at zy_reaches_14_22.2.1 75 180 ∧ zq_at zy_reaches_14_22.2.1 76 0 ∧ zq_at zy_reaches_14_22.2.1 77 36 ∧ zq_at zy_reaches_14_22.2.1 78 16 ∧ zq_at zy_reaches_14_22.2.1 79 10 ∧ zq_at zy_reaches_14_22.2.1 80 46 ∧ zq_at zy_reaches_14_22.2.1 81 104 ∧ zq_at zy_reaches_14_22.2.1 82 96 := by decide +kernel
theorem zd_14_22_59 : zz_D zy_reaches_14_22 59 (.aload_n 0) 1 60 := ⟨zq_42 zg_14_22_59.1, rfl⟩
theorem zd_14_22_60 : zz_D zy_reaches_14_22 60 (.getfield 36) 3 63 := ⟨zq_180 zg_14_22_59.2.1 zg_14_22_59.2.2.1 zg_14_22_59.2.2.2.1 rfl, rfl⟩
theorem zd_14_22_63 : zz_D zy_reaches_14_22 63 (.iconst 5) 1 64 := ⟨zq_8 zg_14_22_59.2.2.2.2.1, rfl⟩
theorem zd_14_22_64 : zz_D zy_reaches_14_22 64 (.iaload) 1 65 := ⟨zq_46 zg_14_22_59.2.2.2.2.2.1, rfl⟩
theorem zd_14_22_65 : zz_D zy_reaches_14_22 65 (.aload_n 0) 1 66 := ⟨zq_42 zg_14_22_59.2.2.2.2.2.2.1, rfl⟩
theorem zd_14_22_66 : zz_D zy_reaches_14_22 66 (.getfield 36) 3 69 := ⟨zq_180 zg_14_22_59.2.2.2.2.2.2.2.1 zg_14_22_59.2.2.2.2.2.2.2.2.1 zg_14_22_59.2.2.2.2.2.2.2.2.2.1 rfl, rfl⟩
theorem zd_14_22_69 : zz_D zy_reaches_14_22 69 (.bipush 6) 2 71 := ⟨zq_16 zg_14_22_59.2.2.2.2.2.2.2.2.2.2.1 zg_14_22_59.2.2.2.2.2.2.2.2.2.2.2.1 (by decide), rfl⟩
theorem zd_14_22_71 : zz_D zy_reaches_14_22 71 (.iaload) 1 72 := ⟨zq_46 zg_14_22_59.2.2.2.2.2.2.2.2.2.2.2.2.1, rfl⟩
theorem zd_14_22_72 : zz_D zy_reaches_14_22 72 (.iconst 1) 1 73 := ⟨zq_4 zg_14_22_59.2.2.2.2.2.2.2.2.2.2.2.2.2.1, rfl⟩
theorem zd_14_22_73 : zz_D zy_reaches_14_22 73 (.isub) 1 74 := ⟨zq_100 zg_14_22_59.2.2.2.2.2.2.2.2.2.2.2.2.2.2.1, rfl⟩
theorem zd_14_22_74 : zz_D zy_reaches_14_22 74 (.aload_n 0) 1 75 := ⟨zq_42 zg_14_22_59.2.2.2.2.2.2.2.2.2.2.2.2.2.2.2.1, rfl⟩
theorem zd_14_22_75 : zz_D zy_reaches_14_22 75 (.getfield 36) 3 78 := ⟨zq_180 zg_14_22_59.2.2.2.2.2.2.2.2.2.2.2.2.2.2.2.2.1 zg_14_22_59.2.2.2.2.2.2.2.2.2.2.2.2.2.2.2.2.2.1 zg_14_22_59.2.2.2.2.2.2.2.2.2.2.2.2.2.2.2.2.2.2.1 rfl, rfl⟩
theorem zd_14_22_78 : zz_D zy_reaches_14_22 78 (.bipush 10) 2 80 := ⟨zq_16 zg_14_22_59.2.2.2.2.2.2.2.2.2.2.2.2.2.2.2.2.2.2.2.1 zg_14_22_59.2.2.2.2.2.2.2.2.2.2.2.2.2.2.2.2.2.2.2.2.1 (by decide), rfl⟩
theorem zd_14_22_80 : zz_D zy_reaches_14_22 80 (.iaload) 1 81 := ⟨zq_46 zg_14_22_59.2.2.2.2.2.2.2.2.2.2.2.2.2.2.2.2.2.2.2.2.2.1, rfl⟩
theorem zd_14_22_81 : zz_D zy_reaches_14_22 81 (.imul) 1 82 := ⟨zq_104 zg_14_22_59.2.2.2.2.2.2.2.2.2.2.2.2.2.2.2.2.2.2.2.2.2.2.1, rfl⟩
theorem zd_14_22_82 : zz_D zy_reaches_14_22 82 (.iadd) 1 83 := ⟨zq_96 zg_14_22_59.2.2.2.2.2.2.2.2.2.2.2.2.2.2.2.2.2.2.2.2.2.2.2, rfl⟩
theorem zg_14_22_83 : zq_at zy_reaches_14_22.2.1 83 54 ∧ zq_at zy_reaches_14_22.2.1 84 4 ∧ zq_at zy_reaches_14_22.2.1 85 42 ∧ zq_at zy_reaches_14_22.2.1 86 180 ∧ zq_at zy_reaches_14_22.2.1 87 0 ∧ zq_at zy_reaches_14_22.2.1 88 36 ∧ zq_at zy_reaches_14_22.2.1 89 3 ∧ zq_at zy_reaches_14_22.2.1 90 46 ∧ zq_at zy_reaches_14_22.2.1 136 42 ∧ zq_at zy_reaches_14_22.2.1 137 42 ∧ zq_at zy_reaches_14_22.2.1 138 180 ∧ zq_at zy_reaches_14_22.2.1 139 0 ∧ zq_at zy_reaches_14_22.2.1 140 39 ∧ zq_at zy_reaches_14_22.2.1 141 3 ∧ zq_at zy_reaches_14_22.2.1 142 42 ∧ zq_at zy_reaches_14_22.2.1 143 180 ∧ zq_at zy_reaches_14_22.2.1 144 0 ∧ zq_at zy_reaches_14_22.2.1 145 36 ∧ zq_at zy_reaches_14_22.2.1 146 8 ∧ zq_at zy_reaches_14_22.2.1 147 46 ∧ zq_at zy_reaches_14_22.2.1 148 21 ∧ zq_at zy_reaches_14_22.2.1 149 4 ∧ zq_at zy_reaches_14_22.2.1 150 27 ∧ zq_at zy_reaches_14_22.2.1 151 96 := by decide +kernel
theorem zd_14_22_83 : zz_D zy_reaches_14_22 83 (.istore 4) 2 85 := ⟨zq_54 zg_14_22_83.1 zg_14_22_83.2.1, rfl⟩
theorem zd_14_22_85 : zz_D zy_reaches_14_22 85 (.aload_n 0) 1 86 := ⟨zq_42 zg_14_22_83.2.2.1, rfl⟩
theorem zd_14_22_86 : zz_D zy_reaches_14_22 86 (.getfield 36) 3 89 := ⟨zq_180 zg_14_22_83.2.2.2.1 zg_14_22_83.2.2.2.2.1 zg_14_22_83.2.2.2.2.2.1 rfl, rfl⟩
theorem zd_14_22_89 : zz_D zy_reaches_14_22 89 (.iconst 0) 1 90 := ⟨zq_3 zg_14_22_83.2.2.2.2.2.2.1, rfl⟩
theorem zd_14_22_90 : zz_D zy_reaches_14_22 90 (.iaload) 1 91 := ⟨zq_46 zg_14_22_83.2.2.2.2.2.2.2.1, rfl⟩
theorem zd_14_22_136 : zz_D zy_reaches_14_22 136 (.aload_n 0) 1 137 := ⟨zq_42 zg_14_22_83.2.2.2.2.2.2.2.2.1, rfl⟩
theorem zd_14_22_137 : zz_D zy_reaches_14_22 137 (.aload_n 0) 1 138 := ⟨zq_42 zg_14_22_83.2.2.2.2.2.2.2.2.2.1, rfl⟩
theorem zd_14_22_138 : zz_D zy_reaches_14_22 138 (.getfield 39) 3 141 := ⟨zq_180 zg_14_22_83.2.2.2.2.2.2.2.2.2.2.1 zg_14_22_83.2.2.2.2.2.2.2.2.2.2.2.1 zg_14_22_83.2.2.2.2.2.2.2.2.2.2.2.2.1 rfl, rfl⟩
theorem zd_14_22_141 : zz_D zy_reaches_14_22 141 (.iconst 0) 1 142 := ⟨zq_3 zg_14_22_83.2.2.2.2.2.2.2.2.2.2.2.2.2.1, rfl⟩
theorem zd_14_22_142 : zz_D zy_reaches_14_22 142 (.aload_n 0) 1 143 := ⟨zq_42 zg_14_22_83.2.2.2.2.2.2.2.2.2.2.2.2.2.2.1, rfl⟩
theorem zd_14_22_143 : zz_D zy_reaches_14_22 143 (.getfield 36) 3 146 := ⟨zq_180 zg_14_22_83.2.2.2.2.2.2.2.2.2.2.2.2.2.2.2.1 zg_14_22_83.2.2.2.2.2.2.2.2.2.2.2.2.2.2.2.2.1 zg_14_22_83.2.2.2.2.2.2.2.2.2.2.2.2.2.2.2.2.2.1 rfl, rfl⟩
theorem zd_14_22_146 : zz_D zy_reaches_14_22 146 (.iconst 5) 1 147 := ⟨zq_8 zg_14_22_83.2.2.2.2.2.2.2.2.2.2.2.2.2.2.2.2.2.2.1, rfl⟩
theorem zd_14_22_147 : zz_D zy_reaches_14_22 147 (.iaload) 1 148 := ⟨zq_46 zg_14_22_83.2.2.2.2.2.2.2.2.2.2.2.2.2.2.2.2.2.2.2.1, rfl⟩
theorem zd_14_22_148 : zz_D zy_reaches_14_22 148 (.iload 4) 2 150 := ⟨zq_21 zg_14_22_83.2.2.2.2.2.2.2.2.2.2.2.2.2.2.2.2.2.2.2.2.1 zg_14_22_83.2.2.2.2.2.2.2.2.2.2.2.2.2.2.2.2.2.2.2.2.2.1, rfl⟩
theorem zd_14_22_150 : zz_D zy_reaches_14_22 150 (.iload_n 1) 1 151 := ⟨zq_27 zg_14_22_83.2.2.2.2.2.2.2.2.2.2.2.2.2.2.2.2.2.2.2.2.2.2.1, rfl⟩
theorem zd_14_22_151 : zz_D zy_reaches_14_22 151 (.iadd) 1 152 := ⟨zq_96 zg_14_22_83.2.2.2.2.2.2.2.2.2.2.2.2.2.2.2.2.2.2.2.2.2.2.2, rfl⟩
theorem zg_14_22_152 : zq_at zy_reaches_14_22.2.1 152 4 ∧ zq_at zy_reaches_14_22.2.1 153 100 ∧ zq_at zy_reaches_14_22.2.1 154 182 ∧ zq_at zy_reaches_14_22.2.1 155 0 ∧ zq_at zy_reaches_14_22.2.1 156 227 ∧ zq_at zy_reaches_14_22.2.1 157 42 ∧ zq_at zy_reaches_14_22.2.1 158 42 ∧ zq_at zy_reaches_14_22.2.1 159 180 ∧ zq_at zy_reaches_14_22.2.1 160 0 ∧ zq_at zy_reaches_14_22.2.1 161 42 ∧ zq_at zy_reaches_14_22.2.1 162 42 ∧ zq_at zy_reaches_14_22.2.1 163 180 ∧ zq_at zy_reaches_14_22.2.1 164 0 ∧ zq_at zy_reaches_14_22.2.1 165 36 ∧ zq_at zy_reaches_14_22.2.1 166 3 ∧ zq_at zy_reaches_14_22.2.1 167 46 ∧ zq_at zy_reaches_14_22.2.1 168 28 ∧ zq_at zy_reaches_14_22.2.1 169 42 ∧ zq_at zy_reaches_14_22.2.1 170 28 ∧ zq_at zy_reaches_14_22.2.1 171 27 ∧ zq_at zy_reaches_14_22.2.1 172 182 ∧ zq_at zy_reaches_14_22.2.1 173 0 ∧ zq_at zy_reaches_14_22.2.1 174 231 := by decide +kernel
theorem zd_14_22_152 : zz_D zy_reaches_14_22 152 (.iconst 1) 1 153 := ⟨zq_4 zg_14_22_152.1, rfl⟩
theorem zd_14_22_153 : zz_D zy_reaches_14_22 153 (.isub) 1 154 := ⟨zq_100 zg_14_22_152.2.1, rfl⟩
theorem zd_14_22_154 : zz_D zy_reaches_14_22 154 (.invokevirtual 227) 3 157 := ⟨zq_182 zg_14_22_152.2.2.1 zg_14_22_152.2.2.2.1 zg_14_22_152.2.2.2.2.1 rfl, rfl⟩
theorem zd_14_22_157 : zz_D zy_reaches_14_22 157 (.aload_n 0) 1 158 := ⟨zq_42 zg_14_22_152.2.2.2.2.2.1, rfl⟩
theorem zd_14_22_158 : zz_D zy_reaches_14_22 158 (.aload_n 0) 1 159 := ⟨zq_42 zg_14_22_152.2.2.2.2.2.2.1, rfl⟩
theorem zd_14_22_159 : zz_D zy_reaches_14_22 159 (.getfield 42) 3 162 := ⟨zq_180 zg_14_22_152.2.2.2.2.2.2.2.1 zg_14_22_152.2.2.2.2.2.2.2.2.1 zg_14_22_152.2.2.2.2.2.2.2.2.2.1 rfl, rfl⟩
theorem zd_14_22_162 : zz_D zy_reaches_14_22 162 (.aload_n 0) 1 163 := ⟨zq_42 zg_14_22_152.2.2.2.2.2.2.2.2.2.2.1, rfl⟩
theorem zd_14_22_163 : zz_D zy_reaches_14_22 163 (.getfield 36) 3 166 := ⟨zq_180 zg_14_22_152.2.2.2.2.2.2.2.2.2.2.2.1 zg_14_22_152.2.2.2.2.2.2.2.2.2.2.2.2.1 zg_14_22_152.2.2.2.2.2.2.2.2.2.2.2.2.2.1 rfl, rfl⟩
theorem zd_14_22_166 : zz_D zy_reaches_14_22 166 (.iconst 0) 1 167 := ⟨zq_3 zg_14_22_152.2.2.2.2.2.2.2.2.2.2.2.2.2.2.1, rfl⟩
theorem zd_14_22_167 : zz_D zy_reaches_14_22 167 (.iaload) 1 168 := ⟨zq_46 zg_14_22_152.2.2.2.2.2.2.2.2.2.2.2.2.2.2.2.1, rfl⟩
theorem zd_14_22_168 : zz_D zy_reaches_14_22 168 (.iload_n 2) 1 169 := ⟨zq_28 zg_14_22_152.2.2.2.2.2.2.2.2.2.2.2.2.2.2.2.2.1, rfl⟩
theorem zd_14_22_169 : zz_D zy_reaches_14_22 169 (.aload_n 0) 1 170 := ⟨zq_42 zg_14_22_152.2.2.2.2.2.2.2.2.2.2.2.2.2.2.2.2.2.1, rfl⟩
theorem zd_14_22_170 : zz_D zy_reaches_14_22 170 (.iload_n 2) 1 171 := ⟨zq_28 zg_14_22_152.2.2.2.2.2.2.2.2.2.2.2.2.2.2.2.2.2.2.1, rfl⟩
theorem zd_14_22_171 : zz_D zy_reaches_14_22 171 (.iload_n 1) 1 172 := ⟨zq_27 zg_14_22_152.2.2.2.2.2.2.2.2.2.2.2.2.2.2.2.2.2.2.2.1, rfl⟩
theorem zd_14_22_172 : zz_D zy_reaches_14_22 172 (.invokevirtual 231) 3 175 := ⟨zq_182 zg_14_22_152.2.2.2.2.2.2.2.2.2.2.2.2.2.2.2.2.2.2.2.2.1 zg_14_22_152.2.2.2.2.2.2.2.2.2.2.2.2.2.2.2.2.2.2.2.2.2.1 zg_14_22_152.2.2.2.2.2.2.2.2.2.2.2.2.2.2.2.2.2.2.2.2.2.2 rfl, rfl⟩
theorem zg_14_22_175 : zq_at zy_reaches_14_22.2.1 175 182 ∧ zq_at zy_reaches_14_22.2.1 176 0 ∧ zq_at zy_reaches_14_22.2.1 177 227 ∧ zq_at zy_reaches_14_22.2.1 178 167 ∧ zq_at zy_reaches_14_22.2.1 179 1 ∧ zq_at zy_reaches_14_22.2.1 180 60 ∧ zq_at zy_reaches_14_22.2.1 494 177 ∧ zq_at zy_reaches_14_22.2.1 181 42 ∧ zq_at zy_reaches_14_22.2.1 182 42 ∧ zq_at zy_reaches_14_22.2.1 183 180 ∧ zq_at zy_reaches_14_22.2.1 184 0 ∧ zq_at zy_reaches_14_22.2.1 185 42 ∧ zq_at zy_reaches_14_22.2.1 186 4 ∧ zq_at zy_reaches_14_22.2.1 187 28 ∧ zq_at zy_reaches_14_22.2.1 188 42 ∧ zq_at zy_reaches_14_22.2.1 189 28 ∧ zq_at zy_reaches_14_22.2.1 190 27 ∧ zq_at zy_reaches_14_22.2.1 191 182 ∧ zq_at zy_reaches_14_22.2.1 192 0 ∧ zq_at zy_reaches_14_22.2.1 193 231 ∧ zq_at zy_reaches_14_22.2.1 194 182 ∧ zq_at zy_reaches_14_22.2.1 195 0 ∧ zq_at zy_reaches_14_22.2.1 196 227 := by decide +kernel
theorem zd_14_22_175 : zz_D zy_reaches_14_22 175 (.invokevirtual 227) 3 178 := ⟨zq_182 zg_14_22_175.1 zg_14_22_175.2.1 zg_14_22_175.2.2.1 rfl, rfl⟩
theorem zd_14_22_178 : zz_B zy_reaches_14_22 178 Instr.goto 494 181 := ⟨316, zq_167 zg_14_22_175.2.2.2.1 zg_14_22_175.2.2.2.2.1 zg_14_22_175.2.2.2.2.2.1 (by decide), rfl, rfl⟩
theorem zd_14_22_494 : zz_D zy_reaches_14_22 494 (.return_) 1 495 := ⟨zq_177 zg_14_22_175.2.2.2.2.2.2.1, rfl⟩
theorem zd_14_22_181 : zz_D zy_reaches_14_22 181 (.aload_n 0) 1 182 := ⟨zq_42 zg_14_22_175.2.2.2.2.2.2.2.1, rfl⟩
theorem zd_14_22_182 : zz_D zy_reaches_14_22 182 (.aload_n 0) 1 183 := ⟨zq_42 zg_14_22_175.2.2.2.2.2.2.2.2.1, rfl⟩
theorem zd_14_22_183 : zz_D zy_reaches_14_22 183 (.getfield 42) 3 186 := ⟨zq_180 zg_14_22_175.2.2.2.2.2.2.2.2.2.1 zg_14_22_175.2.2.2.2.2.2.2.2.2.2.1 zg_14_22_175.2.2.2.2.2.2.2.2.2.2.2.1 rfl, rfl⟩
theorem zd_14_22_186 : zz_D zy_reaches_14_22 186 (.iconst 1) 1 187 := ⟨zq_4 zg_14_22_175.2.2.2.2.2.2.2.2.2.2.2.2.1, rfl⟩
theorem zd_14_22_187 : zz_D zy_reaches_14_22 187 (.iload_n 2) 1 188 := ⟨zq_28 zg_14_22_175.2.2.2.2.2.2.2.2.2.2.2.2.2.1, rfl⟩
theorem zd_14_22_188 : zz_D zy_reaches_14_22 188 (.aload_n 0) 1 189 := ⟨zq_42 zg_14_22_175.2.2.2.2.2.2.2.2.2.2.2.2.2.2.1, rfl⟩
theorem zd_14_22_189 : zz_D zy_reaches_14_22 189 (.iload_n 2) 1 190 := ⟨zq_28 zg_14_22_175.2.2.2.2.2.2.2.2.2.2.2.2.2.2.2.1, rfl⟩
theorem zd_14_22_190 : zz_D zy_reaches_14_22 190 (.iload_n 1) 1 191 := ⟨zq_27 zg_14_22_175.2.2.2.2.2.2.2.2.2.2.2.2.2.2.2.2.1, rfl⟩
theorem zd_14_22_191 : zz_D zy_reaches_14_22 191 (.invokevirtual 231) 3 194 := ⟨zq_182 zg_14_22_175.2.2.2.2.2.2.2.2.2.2.2.2.2.2.2.2.2.1 zg_14_22_175.2.2.2.2.2.2.2.2.2.2.2.2.2.2.2.2.2.2.1 zg_14_22_175.2.2.2.2.2.2.2.2.2.2.2.2.2.2.2.2.2.2.2.1 rfl, rfl⟩
theorem zd_14_22_194 : zz_D zy_reaches_14_22 194 (.invokevirtual 227) 3 197 := ⟨zq_182 zg_14_22_175.2.2.2.2.2.2.2.2.2.2.2.2.2.2.2.2.2.2.2.2.1 zg_14_22_175.2.2.2.2.2.2.2.2.2.2.2.2.2.2.2.2.2.2.2.2.2.1 zg_14_22_175.2.2.2.2.2.2.2.2.2.2.2.2.2.2.2.2.2.2.2.2.2.2 rfl, rfl⟩
theorem zg_14_22_197 : zq_at zy_reaches_14_22.2.1 197 167 ∧ zq_at zy_reaches_14_22.2.1 198 1 ∧ zq_at zy_reaches_14_22.2.1 199 41 ∧ zq_at zy_reaches_14_22.2.1 200 42 ∧ zq_at zy_reaches_14_22.2.1 201 42 ∧ zq_at zy_reaches_14_22.2.1 202 180 ∧ zq_at zy_reaches_14_22.2.1 203 0 ∧ zq_at zy_reaches_14_22.2.1 204 39 ∧ zq_at zy_reaches_14_22.2.1 205 3 ∧ zq_at zy_reaches_14_22.2.1 206 42 ∧ zq_at zy_reaches_14_22.2.1 207 180 ∧ zq_at zy_reaches_14_22.2.1 208 0 ∧ zq_at zy_reaches_14_22.2.1 209 36 ∧ zq_at zy_reaches_14_22.2.1 210 8 ∧ zq_at zy_reaches_14_22.2.1 211 46 ∧ zq_at zy_reaches_14_22.2.1 212 21 ∧ zq_at zy_reaches_14_22.2.1 213 4 ∧ zq_at zy_reaches_14_22.2.1 214 7 ∧ zq_at zy_reaches_14_22.2.1 215 27 ∧ zq_at zy_reaches_14_22.2.1 216 104 ∧ zq_at zy_reaches_14_22.2.1 217 96 ∧ zq_at zy_reaches_14_22.2.1 218 4 ∧ zq_at zy_reaches_14_22.2.1 219 100 := by decide +kernel
theorem zd_14_22_197 : zz_B zy_reaches_14_22 197 Instr.goto 494 200 := ⟨297, zq_167 zg_14_22_197.1 zg_14_22_197.2.1 zg_14_22_197.2.2.1 (by decide), rfl, rfl⟩
theorem zd_14_22_200 : zz_D zy_reaches_14_22 200 (.aload_n 0) 1 201 := ⟨zq_42 zg_14_22_197.2.2.2.1, rfl⟩
theorem zd_14_22_201 : zz_D zy_reaches_14_22 201 (.aload_n 0) 1 202 := ⟨zq_42 zg_14_22_197.2.2.2.2.1, rfl⟩
theorem zd_14_22_202 : zz_D zy_reaches_14_22 202 (.getfield 39) 3 205 := ⟨zq_180 zg_14_22_197.2.2.2.2.2.1 zg_14_22_197.2.2.2.2.2.2.1 zg_14_22_197.2.2.2.2.2.2.2.1 rfl, rfl⟩
theorem zd_14_22_205 : zz_D zy_reaches_14_22 205 (.iconst 0) 1 206 := ⟨zq_3 zg_14_22_197.2.2.2.2.2.2.2.2.1, rfl⟩
theorem zd_14_22_206 : zz_D zy_reaches_14_22 206 (.aload_n 0) 1 207 := ⟨zq_42 zg_14_22_197.2.2.2.2.2.2.2.2.2.1, rfl⟩
theorem zd_14_22_207 : zz_D zy_reaches_14_22 207 (.getfield 36) 3 210 := ⟨zq_180 zg_14_22_197.2.2.2.2.2.2.2.2.2.2.1 zg_14_22_197.2.2.2.2.2.2.2.2.2.2.2.1 zg_14_22_197.2.2.2.2.2.2.2.2.2.2.2.2.1 rfl, rfl⟩
theorem zd_14_22_210 : zz_D zy_reaches_14_22 210 (.iconst 5) 1 211 := ⟨zq_8 zg_14_22_197.2.2.2.2.2.2.2.2.2.2.2.2.2.1, rfl⟩
theorem zd_14_22_211 : zz_D zy_reaches_14_22 211 (.iaload) 1 212 := ⟨zq_46 zg_14_22_197.2.2.2.2.2.2.2.2.2.2.2.2.2.2.1, rfl⟩
theorem zd_14_22_212 : zz_D zy_reaches_14_22 212 (.iload 4) 2 214 := ⟨zq_21 zg_14_22_197.2.2.2.2.2.2.2.2.2.2.2.2.2.2.2.1 zg_14_22_197.2.2.2.2.2.2.2.2.2.2.2.2.2.2.2.2.1, rfl⟩
theorem zd_14_22_214 : zz_D zy_reaches_14_22 214 (.iconst 4) 1 215 := ⟨zq_7 zg_14_22_197.2.2.2.2.2.2.2.2.2.2.2.2.2.2.2.2.2.1, rfl⟩
theorem zd_14_22_215 : zz_D zy_reaches_14_22 215 (.iload_n 1) 1 216 := ⟨zq_27 zg_14_22_197.2.2.2.2.2.2.2.2.2.2.2.2.2.2.2.2.2.2.1, rfl⟩
theorem zd_14_22_216 : zz_D zy_reaches_14_22 216 (.imul) 1 217 := ⟨zq_104 zg_14_22_197.2.2.2.2.2.2.2.2.2.2.2.2.2.2.2.2.2.2.2.1, rfl⟩
theorem zd_14_22_217 : zz_D zy_reaches_14_22 217 (.iadd) 1 218 := ⟨zq_96 zg_14_22_197.2.2.2.2.2.2.2.2.2.2.2.2.2.2.2.2.2.2.2.2.1, rfl⟩
theorem zd_14_22_218 : zz_D zy_reaches_14_22 218 (.iconst 1) 1 219 := ⟨zq_4 zg_14_22_197.2.2.2.2.2.2.2.2.2.2.2.2.2.2.2.2.2.2.2.2.2.1, rfl⟩
theorem zd_14_22_219 : zz_D zy_reaches_14_22 219 (.isub) 1 220 := ⟨zq_100 zg_14_22_197.2.2.2.2.2.2.2.2.2.2.2.2.2.2.2.2.2.2.2.2.2.2, rfl⟩
theorem zg_14_22_220 : zq_at zy_reaches_14_22.2.1 220 182 ∧ zq_at zy_reaches_14_22.2.1 221 0 ∧ zq_at zy_reaches_14_22.2.1 222 227 ∧ zq_at zy_reaches_14_22.2.1 223 42 ∧ zq_at zy_reaches_14_22.2.1 224 42 ∧ zq_at zy_reaches_14_22.2.1 225 180 ∧ zq_at zy_reaches_14_22.2.1 226 0 ∧ zq_at zy_reaches_14_22.2.1 227 42 ∧ zq_at zy_reaches_14_22.2.1 228 6 ∧ zq_at zy_reaches_14_22.2.1 229 28 ∧ zq_at zy_reaches_14_22.2.1 230 42 ∧ zq_at zy_reaches_14_22.2.1 231 28 ∧ zq_at zy_reaches_14_22.2.1 232 27 ∧ zq_at zy_reaches_14_22.2.1 233 182 ∧ zq_at zy_reaches_14_22.2.1 234 0 ∧ zq_at zy_reaches_14_22.2.1 235 231 ∧ zq_at zy_reaches_14_22.2.1 236 182 ∧ zq_at zy_reaches_14_22.2.1 237 0 ∧ zq_at zy_reaches_14_22.2.1 238 227 ∧ zq_at zy_reaches_14_22.2.1 239 167 ∧ zq_at zy_reaches_14_22.2.1 240 0 ∧ zq_at zy_reaches_14_22.2.1 241 255 ∧ zq_at zy_reaches_14_22.2.1 242 42 ∧ zq_at zy_reaches_14_22.2.1 243 42 := by decide +kernel
theorem zd_14_22_220 : zz_D zy_reaches_14_22 220 (.invokevirtual 227) 3 223 := ⟨zq_182 zg_14_22_220.1 zg_14_22_220.2.1 zg_14_22_220.2.2.1 rfl, rfl⟩
theorem zd_14_22_223 : zz_D zy_reaches_14_22 223 (.aload_n 0) 1 224 := ⟨zq_42 zg_14_22_220.2.2.2.1, rfl⟩
theorem zd_14_22_224 : zz_D zy_reaches_14_22 224 (.aload_n 0) 1 225 := ⟨zq_42 zg_14_22_220.2.2.2.2.1, rfl⟩
theorem zd_14_22_225 : zz_D zy_reaches_14_22 225 (.getfield 42) 3 228 := ⟨zq_180 zg_14_22_220.2.2.2.2.2.1 zg_14_22_220.2.2.2.2.2.2.1 zg_14_22_220.2.2.2.2.2.2.2.1 rfl, rfl⟩
theorem zd_14_22_228 : zz_D zy_reaches_14_22 228 (.iconst 3) 1 229 := ⟨zq_6 zg_14_22_220.2.2.2.2.2.2.2.2.1, rfl⟩
theorem zd_14_22_229 : zz_D zy_reaches_14_22 229 (.iload_n 2) 1 230 := ⟨zq_28 zg_14_22_220.2.2.2.2.2.2.2.2.2.1, rfl⟩
theorem zd_14_22_230 : zz_D zy_reaches_14_22 230 (.aload_n 0) 1 231 := ⟨zq_42 zg_14_22_220.2.2.2.2.2.2.2.2.2.2.1, rfl⟩
theorem zd_14_22_231 : zz_D zy_reaches_14_22 231 (.iload_n 2) 1 232 := ⟨zq_28 zg_14_22_220.2.2.2.2.2.2.2.2.2.2.2.1, rfl⟩
theorem zd_14_22_232 : zz_D zy_reaches_14_22 232 (.iload_n 1) 1 233 := ⟨zq_27 zg_14_22_220.2.2.2.2.2.2.2.2.2.2.2.2.1, rfl⟩
theorem zd_14_22_233 : zz_D zy_reaches_14_22 233 (.invokevirtual 231) 3 236 := ⟨zq_182 zg_14_22_220.2.2.2.2.2.2.2.2.2.2.2.2.2.1 zg_14_22_220.2.2.2.2.2.2.2.2.2.2.2.2.2.2.1 zg_14_22_220.2.2.2.2.2.2.2.2.2.2.2.2.2.2.2.1 rfl, rfl⟩
theorem zd_14_22_236 : zz_D zy_reaches_14_22 236 (.invokevirtual 227) 3 239 := ⟨zq_182 zg_14_22_220.2.2.2.2.2.2.2.2.2.2.2.2.2.2.2.2.1 zg_14_22_220.2.2.2.2.2.2.2.2.2.2.2.2.2.2.2.2.2.1 zg_14_22_220.2.2.2.2.2.2.2.2.2.2.2.2.2.2.2.2.2.2.1 rfl, rfl⟩
theorem zd_14_22_239 : zz_B zy_reaches_14_22 239 Instr.goto 494 242 := ⟨255, zq_167 zg_14_22_220.2.2.2.2.2.2.2.2.2.2.2.2.2.2.2.2.2.2.2.1 zg_14_22_220.2.2.2.2.2.2.2.2.2.2.2.2.2.2.2.2.2.2.2.2.1 zg_14_22_220.2.2.2.2.2.2.2.2.2.2.2.2.2.2.2.2.2.2.2.2.2.1 (by decide), rfl, rfl⟩
theorem zd_14_22_242 : zz_D zy_reaches_14_22 242 (.aload_n 0) 1 243 := ⟨zq_42 zg_14_22_220.2.2.2.2.2.2.2.2.2.2.2.2.2.2.2.2.2.2.2.2.2.2.1, rfl⟩
theorem zd_14_22_243 : zz_D zy_reaches_14_22 243 (.aload_n 0) 1 244 := ⟨zq_42 zg_14_22_220.2.2.2.2.2.2.2.2.2.2.2.2.2.2.2.2.2.2.2.2.2.2.2, rfl⟩
theorem zg_14_22_244 : zq_at zy_reaches_14_22.2.1 244 180 ∧ zq_at zy_reaches_14_22.2.1 245 0 ∧ zq_at zy_reaches_14_22.2.1 246 39 ∧ zq_at zy_reaches_14_22.2.1 247 4 ∧ zq_at zy_reaches_14_22.2.1 248 28 ∧ zq_at zy_reaches_14_22.2.1 249 42 ∧ zq_at zy_reaches_14_22.2.1 250 28 ∧ zq_at zy_reaches_14_22.2.1 251 42 ∧ zq_at zy_reaches_14_22.2.1 252 180 ∧ zq_at zy_reaches_14_22.2.1 253 0 ∧ zq_at zy_reaches_14_22.2.1 254 36 ∧ zq_at zy_reaches_14_22.2.1 255 16 ∧ zq_at zy_reaches_14_22.2.1 256 11 ∧ zq_at zy_reaches_14_22.2.1 257 46 ∧ zq_at zy_reaches_14_22.2.1 258 5 ∧ zq_at zy_reaches_14_22.2.1 259 108 ∧ zq_at zy_reaches_14_22.2.1 260 182 ∧ zq_at zy_reaches_14_22.2.1 261 0 ∧ zq_at zy_reaches_14_22.2.1 262 231 ∧ zq_at zy_reaches_14_22.2.1 263 182 ∧ zq_at zy_reaches_14_22.2.1 264 0 ∧ zq_at zy_reaches_14_22.2.1 265 227 ∧ zq_at zy_reaches_14_22.2.1 266 42 ∧ zq_at zy_reaches_14_22.2.1 267 42 := by decide +kernel
theorem zd_14_22_244 : zz_D zy_reaches_14_22 244 (.getfield 39) 3 247 := ⟨zq_180 zg_14_22_244.1 zg_14_22_244.2.1 zg_14_22_244.2.2.1 rfl, rfl⟩
theorem zd_14_22_247 : zz_D zy_reaches_14_22 247 (.iconst 1) 1 248 := ⟨zq_4 zg_14_22_244.2.2.2.1, rfl⟩
theorem zd_14_22_248 : zz_D zy_reaches_14_22 248 (.iload_n 2) 1 249 := ⟨zq_28 zg_14_22_244.2.2.2.2.1, rfl⟩
theorem zd_14_22_249 : zz_D zy_reaches_14_22 249 (.aload_n 0) 1 250 := ⟨zq_42 zg_14_22_244.2.2.2.2.2.1, rfl⟩
theorem zd_14_22_250 : zz_D zy_reaches_14_22 250 (.iload_n 2) 1 251 := ⟨zq_28 zg_14_22_244.2.2.2.2.2.2.1, rfl⟩
theorem zd_14_22_251 : zz_D zy_reaches_14_22 251 (.aload_n 0) 1 252 := ⟨zq_42 zg_14_22_244.2.2.2.2.2.2.2.1, rfl⟩
theorem zd_14_22_252 : zz_D zy_reaches_14_22 252 (.getfield 36) 3 255 := ⟨zq_180 zg_14_22_244.2.2.2.2.2.2.2.2.1 zg_14_22_244.2.2.2.2.2.2.2.2.2.1 zg_14_22_244.2.2.2.2.2.2.2.2.2.2.1 rfl, rfl⟩
theorem zd_14_22_255 : zz_D zy_reaches_14_22 255 (.bipush 11) 2 257 := ⟨zq_16 zg_14_22_244.2.2.2.2.2.2.2.2.2.2.2.1 zg_14_22_244.2.2.2.2.2.2.2.2.2.2.2.2.1 (by decide), rfl⟩
theorem zd_14_22_257 : zz_D zy_reaches_14_22 257 (.iaload) 1 258 := ⟨zq_46 zg_14_22_244.2.2.2.2.2.2.2.2.2.2.2.2.2.1, rfl⟩
theorem zd_14_22_258 : zz_D zy_reaches_14_22 258 (.iconst 2) 1 259 := ⟨zq_5 zg_14_22_244.2.2.2.2.2.2.2.2.2.2.2.2.2.2.1, rfl⟩
theorem zd_14_22_259 : zz_D zy_reaches_14_22 259 (.idiv) 1 260 := ⟨zq_108 zg_14_22_244.2.2.2.2.2.2.2.2.2.2.2.2.2.2.2.1, rfl⟩
theorem zd_14_22_260 : zz_D zy_reaches_14_22 260 (.invokevirtual 231) 3 263 := ⟨zq_182 zg_14_22_244.2.2.2.2.2.2.2.2.2.2.2.2.2.2.2.2.1 zg_14_22_244.2.2.2.2.2.2.2.2.2.2.2.2.2.2.2.2.2.1 zg_14_22_244.2.2.2.2.2.2.2.2.2.2.2.2.2.2.2.2.2.2.1 rfl, rfl⟩
theorem zd_14_22_263 : zz_D zy_reaches_14_22 263 (.invokevirtual 227) 3 266 := ⟨zq_182 zg_14_22_244.2.2.2.2.2.2.2.2.2.2.2.2.2.2.2.2.2.2.2.1 zg_14_22_244.2.2.2.2.2.2.2.2.2.2.2.2.2.2.2.2.2.2.2.2.1 zg_14_22_244.2.2.2.2.2.2.2.2.2.2.2.2.2.2.2.2.2.2.2.2.2.1 rfl, rfl⟩
theorem zd_14_22_266 : zz_D zy_reaches_14_22 266 (.aload_n 0) 1 267 := ⟨zq_42 zg_14_22_244.2.2.2.2.2.2.2.2.2.2.2.2.2.2.2.2.2.2.2.2.2.2.1, rfl⟩
theorem zd_14_22_267 : zz_D zy_reaches_14_22 267 (.aload_n 0) 1 268 := ⟨zq_42 zg_14_22_244.2.2.2.2.2.2.2.2.2.2.2.2.2.2.2.2.2.2.2.2.2.2.2, rfl⟩
theorem zg_14_22_268 : zq_at zy_reaches_14_22.2.1 268 180 ∧ zq_at zy_reaches_14_22.2.1 269 0 ∧ zq_at zy_reaches_14_22.2.1 270 39 ∧ zq_at zy_reaches_14_22.2.1 271 5 ∧ zq_at zy_reaches_14_22.2.1 272 42 ∧ zq_at zy_reaches_14_22.2.1 273 180 ∧ zq_at zy_reaches_14_22.2.1 274 0 ∧ zq_at zy_reaches_14_22.2.1 275 36 ∧ zq_at zy_reaches_14_22.2.1 276 16 ∧ zq_at zy_reaches_14_22.2.1 277 10 ∧ zq_at zy_reaches_14_22.2.1 278 46 ∧ zq_at zy_reaches_14_22.2.1 279 42 ∧ zq_at zy_reaches_14_22.2.1 280 180 ∧ zq_at zy_reaches_14_22.2.1 281 0 ∧ zq_at zy_reaches_14_22.2.1 282 36 ∧ zq_at zy_reaches_14_22.2.1 283 16 ∧ zq_at zy_reaches_14_22.2.1 284 10 ∧ zq_at zy_reaches_14_22.2.1 285 46 ∧ zq_at zy_reaches_14_22.2.1 286 42 ∧ zq_at zy_reaches_14_22.2.1 287 180 ∧ zq_at zy_reaches_14_22.2.1 288 0 ∧ zq_at zy_reaches_14_22.2.1 289 36 ∧ zq_at zy_reaches_14_22.2.1 290 16 ∧ zq_at zy_reaches_14_22.2.1 291 11 := by decide +kernel
theorem zd_14_22_268 : zz_D zy_reaches_14_22 268 (.getfield 39) 3 271 := ⟨zq_180 zg_14_22_268.1 zg_14_22_268.2.1 zg_14_22_268.2.2.1 rfl, rfl⟩
theorem zd_14_22_271 : zz_D zy_reaches_14_22 271 (.iconst 2) 1 272 := ⟨zq_5 zg_14_22_268.2.2.2.1, rfl⟩
theorem zd_14_22_272 : zz_D zy_reaches_14_22 272 (.aload_n 0) 1 273 := ⟨zq_42 zg_14_22_268.2.2.2.2.1, rfl⟩
theorem zd_14_22_273 : zz_D zy_reaches_14_22 273 (.getfield 36) 3 276 := ⟨zq_180 zg_14_22_268.2.2.2.2.2.1 zg_14_22_268.2.2.2.2.2.2.1 zg_14_22_268.2.2.2.2.2.2.2.1 rfl, rfl⟩
theorem zd_14_22_276 : zz_D zy_reaches_14_22 276 (.bipush 10) 2 278 := ⟨zq_16 zg_14_22_268.2.2.2.2.2.2.2.2.1 zg_14_22_268.2.2.2.2.2.2.2.2.2.1 (by decide), rfl⟩
theorem zd_14_22_278 : zz_D zy_reaches_14_22 278 (.iaload) 1 279 := ⟨zq_46 zg_14_22_268.2.2.2.2.2.2.2.2.2.2.1, rfl⟩
theorem zd_14_22_279 : zz_D zy_reaches_14_22 279 (.aload_n 0) 1 280 := ⟨zq_42 zg_14_22_268.2.2.2.2.2.2.2.2.2.2.2.1, rfl⟩
theorem zd_14_22_280 : zz_D zy_reaches_14_22 280 (.getfield 36) 3 283 := ⟨zq_180 zg_14_22_268.2.2.2.2.2.2.2.2.2.2.2.2.1 zg_14_22_268.2.2.2.2.2.2.2.2.2.2.2.2.2.1 zg_14_22_268.2.2.2.2.2.2.2.2.2.2.2.2.2.2.1 rfl, rfl⟩
theorem zd_14_22_283 : zz_D zy_reaches_14_22 283 (.bipush 10) 2 285 := ⟨zq_16 zg_14_22_268.2.2.2.2.2.2.2.2.2.2.2.2.2.2.2.1 zg_14_22_268.2.2.2.2.2.2.2.2.2.2.2.2.2.2.2.2.1 (by decide), rfl⟩
theorem zd_14_22_285 : zz_D zy_reaches_14_22 285 (.iaload) 1 286 := ⟨zq_46 zg_14_22_268.2.2.2.2.2.2.2.2.2.2.2.2.2.2.2.2.2.1, rfl⟩
theorem zd_14_22_286 : zz_D zy_reaches_14_22 286 (.aload_n 0) 1 287 := ⟨zq_42 zg_14_22_268.2.2.2.2.2.2.2.2.2.2.2.2.2.2.2.2.2.2.1, rfl⟩
theorem zd_14_22_287 : zz_D zy_reaches_14_22 287 (.getfield 36) 3 290 := ⟨zq_180 zg_14_22_268.2.2.2.2.2.2.2.2.2.2.2.2.2.2.2.2.2.2.2.1 zg_14_22_268.2.2.2.2.2.2.2.2.2.2.2.2.2.2.2.2.2.2.2.2.1 zg_14_22_268.2.2.2.2.2.2.2.2.2.2.2.2.2.2.2.2.2.2.2.2.2.1 rfl, rfl⟩
theorem zd_14_22_290 : zz_D zy_reaches_14_22 290 (.bipush 11) 2 292 := ⟨zq_16 zg_14_22_268.2.2.2.2.2.2.2.2.2.2.2.2.2.2.2.2.2.2.2.2.2.2.1 zg_14_22_268.2.2.2.2.2.2.2.2.2.2.2.2.2.2.2.2.2.2.2.2.2.2.2 (by decide), rfl⟩
theorem zg_14_22_292 : zq_at zy_reaches_14_22.2.1 292 46 ∧ zq_at zy_reaches_14_22.2.1 293 5 ∧ zq_at zy_reaches_14_22.2.1 294 108 ∧ zq_at zy_reaches_14_22.2.1 295 4 ∧ zq_at zy_reaches_14_22.2.1 296 100 ∧ zq_at zy_reaches_14_22.2.1 297 42 ∧ zq_at zy_reaches_14_22.2.1 298 180 ∧ zq_at zy_reaches_14_22.2.1 299 0 ∧ zq_at zy_reaches_14_22.2.1 300 7 ∧ zq_at zy_reaches_14_22.2.1 301 104 ∧ zq_at zy_reaches_14_22.2.1 302 96 ∧ zq_at zy_reaches_14_22.2.1 303 27 ∧ zq_at zy_reaches_14_22.2.1 304 96 ∧ zq_at zy_reaches_14_22.2.1 305 4 ∧ zq_at zy_reaches_14_22.2.1 306 100 ∧ zq_at zy_reaches_14_22.2.1 307 182 ∧ zq_at zy_reaches_14_22.2.1 308 0 ∧ zq_at zy_reaches_14_22.2.1 309 227 ∧ zq_at zy_reaches_14_22.2.1 310 42 ∧ zq_at zy_reaches_14_22.2.1 311 42 ∧ zq_at zy_reaches_14_22.2.1 312 180 ∧ zq_at zy_reaches_14_22.2.1 313 0 ∧ zq_at zy_reaches_14_22.2.1 314 42 ∧ zq_at zy_reaches_14_22.2.1 315 6 := by decide +kernel
theorem zd_14_22_292 : zz_D zy_reaches_14_22 292 (.iaload) 1 293 := ⟨zq_46 zg_14_22_292.1, rfl⟩
theorem zd_14_22_293 : zz_D zy_reaches_14_22 293 (.iconst 2) 1 294 := ⟨zq_5 zg_14_22_292.2.1, rfl⟩
theorem zd_14_22_294 : zz_D zy_reaches_14_22 294 (.idiv) 1 295 := ⟨zq_108 zg_14_22_292.2.2.1, rfl⟩
theorem zd_14_22_295 : zz_D zy_reaches_14_22 295 (.iconst 1) 1 296 := ⟨zq_4 zg_14_22_292.2.2.2.1, rfl⟩
theorem zd_14_22_296 : zz_D zy_reaches_14_22 296 (.isub) 1 297 := ⟨zq_100 zg_14_22_292.2.2.2.2.1, rfl⟩
theorem zd_14_22_297 : zz_D zy_reaches_14_22 297 (.aload_n 0) 1 298 := ⟨zq_42 zg_14_22_292.2.2.2.2.2.1, rfl⟩
theorem zd_14_22_298 : zz_D zy_reaches_14_22 298 (.getfield 7) 3 301 := ⟨zq_180 zg_14_22_292.2.2.2.2.2.2.1 zg_14_22_292.2.2.2.2.2.2.2.1 zg_14_22_292.2.2.2.2.2.2.2.2.1 rfl, rfl⟩
theorem zd_14_22_301 : zz_D zy_reaches_14_22 301 (.imul) 1 302 := ⟨zq_104 zg_14_22_292.2.2.2.2.2.2.2.2.2.1, rfl⟩
theorem zd_14_22_302 : zz_D zy_reaches_14_22 302 (.iadd) 1 303 := ⟨zq_96 zg_14_22_292.2.2.2.2.2.2.2.2.2.2.1, rfl⟩
theorem zd_14_22_303 : zz_D zy_reaches_14_22 303 (.iload_n 1) 1 304 := ⟨zq_27 zg_14_22_292.2.2.2.2.2.2.2.2.2.2.2.1, rfl⟩
theorem zd_14_22_304 : zz_D zy_reaches_14_22 304 (.iadd) 1 305 := ⟨zq_96 zg_14_22_292.2.2.2.2.2.2.2.2.2.2.2.2.1, rfl⟩
theorem zd_14_22_305 : zz_D zy_reaches_14_22 305 (.iconst 1) 1 306 := ⟨zq_4 zg_14_22_292.2.2.2.2.2.2.2.2.2.2.2.2.2.1, rfl⟩
theorem zd_14_22_306 : zz_D zy_reaches_14_22 306 (.isub) 1 307 := ⟨zq_100 zg_14_22_292.2.2.2.2.2.2.2.2.2.2.2.2.2.2.1, rfl⟩
theorem zd_14_22_307 : zz_D zy_reaches_14_22 307 (.invokevirtual 227) 3 310 := ⟨zq_182 zg_14_22_292.2.2.2.2.2.2.2.2.2.2.2.2.2.2.2.1 zg_14_22_292.2.2.2.2.2.2.2.2.2.2.2.2.2.2.2.2.1 zg_14_22_292.2.2.2.2.2.2.2.2.2.2.2.2.2.2.2.2.2.1 rfl, rfl⟩
theorem zd_14_22_310 : zz_D zy_reaches_14_22 310 (.aload_n 0) 1 311 := ⟨zq_42 zg_14_22_292.2.2.2.2.2.2.2.2.2.2.2.2.2.2.2.2.2.2.1, rfl⟩
theorem zd_14_22_311 : zz_D zy_reaches_14_22 311 (.aload_n 0) 1 312 := ⟨zq_42 zg_14_22_292.2.2.2.2.2.2.2.2.2.2.2.2.2.2.2.2.2.2.2.1, rfl⟩
theorem zd_14_22_312 : zz_D zy_reaches_14_22 312 (.getfield 42) 3 315 := ⟨zq_180 zg_14_22_292.2.2.2.2.2.2.2.2.2.2.2.2.2.2.2.2.2.2.2.2.1 zg_14_22_292.2.2.2.2.2.2.2.2.2.2.2.2.2.2.2.2.2.2.2.2.2.1 zg_14_22_292.2.2.2.2.2.2.2.2.2.2.2.2.2.2.2.2.2.2.2.2.2.2.1 rfl, rfl⟩
theorem zd_14_22_315 : zz_D zy_reaches_14_22 315 (.iconst 3) 1 316 := ⟨zq_6 zg_14_22_292.2.2.2.2.2.2.2.2.2.2.2.2.2.2.2.2.2.2.2.2.2.2.2, rfl⟩
theorem zg_14_22_316 : zq_at zy_reaches_14_22.2.1 316 29 ∧ zq_at zy_reaches_14_22.2.1 317 42 ∧ zq_at zy_reaches_14_22.2.1 318 29 ∧ zq_at zy_reaches_14_22.2.1 319 27 ∧ zq_at zy_reaches_14_22.2.1 320 182 ∧ zq_at zy_reaches_14_22.2.1 321 0 ∧ zq_at zy_reaches_14_22.2.1 322 231 ∧ zq_at zy_reaches_14_22.2.1 323 182 ∧ zq_at zy_reaches_14_22.2.1 324 0 ∧ zq_at zy_reaches_14_22.2.1 325 227 ∧ zq_at zy_reaches_14_22.2.1 326 42 ∧ zq_at zy_reaches_14_22.2.1 327 180 ∧ zq_at zy_reaches_14_22.2.1 328 0 ∧ zq_at zy_reaches_14_22.2.1 329 36 ∧ zq_at zy_reaches_14_22.2.1 330 16 ∧ zq_at zy_reaches_14_22.2.1 331 11 ∧ zq_at zy_reaches_14_22.2.1 332 46 ∧ zq_at zy_reaches_14_22.2.1 333 5 ∧ zq_at zy_reaches_14_22.2.1 334 112 ∧ zq_at zy_reaches_14_22.2.1 335 4 ∧ zq_at zy_reaches_14_22.2.1 336 160 ∧ zq_at zy_reaches_14_22.2.1 337 0 ∧ zq_at zy_reaches_14_22.2.1 338 158 ∧ zq_at zy_reaches_14_22.2.1 339 42 := by decide +kernel
theorem zd_14_22_316 : zz_D zy_reaches_14_22 316 (.iload_n 3) 1 317 := ⟨zq_29 zg_14_22_316.1, rfl⟩
theorem zd_14_22_317 : zz_D zy_reaches_14_22 317 (.aload_n 0) 1 318 := ⟨zq_42 zg_14_22_316.2.1, rfl⟩
theorem zd_14_22_318 : zz_D zy_reaches_14_22 318 (.iload_n 3) 1 319 := ⟨zq_29 zg_14_22_316.2.2.1, rfl⟩
theorem zd_14_22_319 : zz_D zy_reaches_14_22 319 (.iload_n 1) 1 320 := ⟨zq_27 zg_14_22_316.2.2.2.1, rfl⟩
theorem zd_14_22_320 : zz_D zy_reaches_14_22 320 (.invokevirtual 231) 3 323 := ⟨zq_182 zg_14_22_316.2.2.2.2.1 zg_14_22_316.2.2.2.2.2.1 zg_14_22_316.2.2.2.2.2.2.1 rfl, rfl⟩
theorem zd_14_22_323 : zz_D zy_reaches_14_22 323 (.invokevirtual 227) 3 326 := ⟨zq_182 zg_14_22_316.2.2.2.2.2.2.2.1 zg_14_22_316.2.2.2.2.2.2.2.2.1 zg_14_22_316.2.2.2.2.2.2.2.2.2.1 rfl, rfl⟩
theorem zd_14_22_326 : zz_D zy_reaches_14_22 326 (.aload_n 0) 1 327 := ⟨zq_42 zg_14_22_316.2.2.2.2.2.2.2.2.2.2.1, rfl⟩
theorem zd_14_22_327 : zz_D zy_reaches_14_22 327 (.getfield 36) 3 330 := ⟨zq_180 zg_14_22_316.2.2.2.2.2.2.2.2.2.2.2.1 zg_14_22_316.2.2.2.2.2.2.2.2.2.2.2.2.1 zg_14_22_316.2.2.2.2.2.2.2.2.2.2.2.2.2.1 rfl, rfl⟩
theorem zd_14_22_330 : zz_D zy_reaches_14_22 330 (.bipush 11) 2 332 := ⟨zq_16 zg_14_22_316.2.2.2.2.2.2.2.2.2.2.2.2.2.2.1 zg_14_22_316.2.2.2.2.2.2.2.2.2.2.2.2.2.2.2.1 (by decide), rfl⟩
theorem zd_14_22_332 : zz_D zy_reaches_14_22 332 (.iaload) 1 333 := ⟨zq_46 zg_14_22_316.2.2.2.2.2.2.2.2.2.2.2.2.2.2.2.2.1, rfl⟩
theorem zd_14_22_333 : zz_D zy_reaches_14_22 333 (.iconst 2) 1 334 := ⟨zq_5 zg_14_22_316.2.2.2.2.2.2.2.2.2.2.2.2.2.2.2.2.2.1, rfl⟩
theorem zd_14_22_334 : zz_D zy_reaches_14_22 334 (.irem) 1 335 := ⟨zq_112 zg_14_22_316.2.2.2.2.2.2.2.2.2.2.2.2.2.2.2.2.2.2.1, rfl⟩
theorem zd_14_22_335 : zz_D zy_reaches_14_22 335 (.iconst 1) 1 336 := ⟨zq_4 zg_14_22_316.2.2.2.2.2.2.2.2.2.2.2.2.2.2.2.2.2.2.2.1, rfl⟩
theorem zd_14_22_336 : zz_B zy_reaches_14_22 336 (Instr.if_icmp .ne) 494 339 := ⟨158, zq_160 zg_14_22_316.2.2.2.2.2.2.2.2.2.2.2.2.2.2.2.2.2.2.2.2.1 zg_14_22_316.2.2.2.2.2.2.2.2.2.2.2.2.2.2.2.2.2.2.2.2.2.1 zg_14_22_316.2.2.2.2.2.2.2.2.2.2.2.2.2.2.2.2.2.2.2.2.2.2.1 (by decide), rfl, rfl⟩
theorem zd_14_22_339 : zz_D zy_reaches_14_22 339 (.aload_n 0) 1 340 := ⟨zq_42 zg_14_22_316.2.2.2.2.2.2.2.2.2.2.2.2.2.2.2.2.2.2.2.2.2.2.2, rfl⟩
theorem zg_14_22_340 : zq_at zy_reaches_14_22.2.1 340 42 ∧ zq_at zy_reaches_14_22.2.1 341 180 ∧ zq_at zy_reaches_14_22.2.1 342 0 ∧ zq_at zy_reaches_14_22.2.1 343 39 ∧ zq_at zy_reaches_14_22.2.1 344 6 ∧ zq_at zy_reaches_14_22.2.1 345 29 ∧ zq_at zy_reaches_14_22.2.1 346 42 ∧ zq_at zy_reaches_14_22.2.1 347 29 ∧ zq_at zy_reaches_14_22.2.1 348 27 ∧ zq_at zy_reaches_14_22.2.1 349 182 ∧ zq_at zy_reaches_14_22.2.1 350 0 ∧ zq_at zy_reaches_14_22.2.1 351 231 ∧ zq_at zy_reaches_14_22.2.1 352 182 ∧ zq_at zy_reaches_14_22.2.1 353 0 ∧ zq_at zy_reaches_14_22.2.1 354 227 ∧ zq_at zy_reaches_14_22.2.1 355 167 ∧ zq_at zy_reaches_14_22.2.1 356 0 ∧ zq_at zy_reaches_14_22.2.1 357 139 ∧ zq_at zy_reaches_14_22.2.1 358 42 ∧ zq_at zy_reaches_14_22.2.1 359 42 ∧ zq_at zy_reaches_14_22.2.1 360 180 ∧ zq_at zy_reaches_14_22.2.1 361 0 ∧ zq_at zy_reaches_14_22.2.1 362 39 ∧ zq_at zy_reaches_14_22.2.1 363 4 := by decide +kernel
theorem zd_14_22_340 : zz_D zy_reaches_14_22 340 (.aload_n 0) 1 341 := ⟨zq_42 zg_14_22_340.1, rfl⟩
theorem zd_14_22_341 : zz_D zy_reaches_14_22 341 (.getfield 39) 3 344 := ⟨zq_180 zg_14_22_340.2.1 zg_14_22_340.2.2.1 zg_14_22_340.2.2.2.1 rfl, rfl⟩
theorem zd_14_22_344 : zz_D zy_reaches_14_22 344 (.iconst 3) 1 345 := ⟨zq_6 zg_14_22_340.2.2.2.2.1, rfl⟩
theorem zd_14_22_345 : zz_D zy_reaches_14_22 345 (.iload_n 3) 1 346 := ⟨zq_29 zg_14_22_340.2.2.2.2.2.1, rfl⟩
theorem zd_14_22_346 : zz_D zy_reaches_14_22 346 (.aload_n 0) 1 347 := ⟨zq_42 zg_14_22_340.2.2.2.2.2.2.1, rfl⟩
theorem zd_14_22_347 : zz_D zy_reaches_14_22 347 (.iload_n 3) 1 348 := ⟨zq_29 zg_14_22_340.2.2.2.2.2.2.2.1, rfl⟩
theorem zd_14_22_348 : zz_D zy_reaches_14_22 348 (.iload_n 1) 1 349 := ⟨zq_27 zg_14_22_340.2.2.2.2.2.2.2.2.1, rfl⟩
theorem zd_14_22_349 : zz_D zy_reaches_14_22 349 (.invokevirtual 231) 3 352 := ⟨zq_182 zg_14_22_340.2.2.2.2.2.2.2.2.2.1 zg_14_22_340.2.2.2.2.2.2.2.2.2.2.1 zg_14_22_340.2.2.2.2.2.2.2.2.2.2.2.1 rfl, rfl⟩
theorem zd_14_22_352 : zz_D zy_reaches_14_22 352 (.invokevirtual 227) 3 355 := ⟨zq_182 zg_14_22_340.2.2.2.2.2.2.2.2.2.2.2.2.1 zg_14_22_340.2.2.2.2.2.2.2.2.2.2.2.2.2.1 zg_14_22_340.2.2.2.2.2.2.2.2.2.2.2.2.2.2.1 rfl, rfl⟩
theorem zd_14_22_355 : zz_B zy_reaches_14_22 355 Instr.goto 494 358 := ⟨139, zq_167 zg_14_22_340.2.2.2.2.2.2.2.2.2.2.2.2.2.2.2.1 zg_14_22_340.2.2.2.2.2.2.2.2.2.2.2.2.2.2.2.2.1 zg_14_22_340.2.2.2.2.2.2.2.2.2.2.2.2.2.2.2.2.2.1 (by decide), rfl, rfl⟩
theorem zd_14_22_358 : zz_D zy_reaches_14_22 358 (.aload_n 0) 1 359 := ⟨zq_42 zg_14_22_340.2.2.2.2.2.2.2.2.2.2.2.2.2.2.2.2.2.2.1, rfl⟩
theorem zd_14_22_359 : zz_D zy_reaches_14_22 359 (.aload_n 0) 1 360 := ⟨zq_42 zg_14_22_340.2.2.2.2.2.2.2.2.2.2.2.2.2.2.2.2.2.2.2.1, rfl⟩
theorem zd_14_22_360 : zz_D zy_reaches_14_22 360 (.getfield 39) 3 363 := ⟨zq_180 zg_14_22_340.2.2.2.2.2.2.2.2.2.2.2.2.2.2.2.2.2.2.2.2.1 zg_14_22_340.2.2.2.2.2.2.2.2.2.2.2.2.2.2.2.2.2.2.2.2.2.1 zg_14_22_340.2.2.2.2.2.2.2.2.2.2.2.2.2.2.2.2.2.2.2.2.2.2.1 rfl, rfl⟩
theorem zd_14_22_363 : zz_D zy_reaches_14_22 363 (.iconst 1) 1 364 := ⟨zq_4 zg_14_22_340.2.2.2.2.2.2.2.2.2.2.2.2.2.2.2.2.2.2.2.2.2.2.2, rfl⟩
theorem zg_14_22_364 : zq_at zy_reaches_14_22.2.1 364 28 ∧ zq_at zy_reaches_14_22.2.1 365 42 ∧ zq_at zy_reaches_14_22.2.1 366 28 ∧ zq_at zy_reaches_14_22.2.1 367 27 ∧ zq_at zy_reaches_14_22.2.1 368 182 ∧ zq_at zy_reaches_14_22.2.1 369 0 ∧ zq_at zy_reaches_14_22.2.1 370 231 ∧ zq_at zy_reaches_14_22.2.1 371 182 ∧ zq_at zy_reaches_14_22.2.1 372 0 ∧ zq_at zy_reaches_14_22.2.1 373 227 ∧ zq_at zy_reaches_14_22.2.1 374 42 ∧ zq_at zy_reaches_14_22.2.1 375 42 ∧ zq_at zy_reaches_14_22.2.1 376 180 ∧ zq_at zy_reaches_14_22.2.1 377 0 ∧ zq_at zy_reaches_14_22.2.1 378 42 ∧ zq_at zy_reaches_14_22.2.1 379 6 ∧ zq_at zy_reaches_14_22.2.1 380 29 ∧ zq_at zy_reaches_14_22.2.1 381 42 ∧ zq_at zy_reaches_14_22.2.1 382 29 ∧ zq_at zy_reaches_14_22.2.1 383 27 ∧ zq_at zy_reaches_14_22.2.1 384 182 ∧ zq_at zy_reaches_14_22.2.1 385 0 ∧ zq_at zy_reaches_14_22.2.1 386 231 := by decide +kernel
theorem zd_14_22_364 : zz_D zy_reaches_14_22 364 (.iload_n 2) 1 365 := ⟨zq_28 zg_14_22_364.1, rfl⟩
theorem zd_14_22_365 : zz_D zy_reaches_14_22 365 (.aload_n 0) 1 366 := ⟨zq_42 zg_14_22_364.2.1, rfl⟩
theorem zd_14_22_366 : zz_D zy_reaches_14_22 366 (.iload_n 2) 1 367 := ⟨zq_28 zg_14_22_364.2.2.1, rfl⟩
theorem zd_14_22_367 : zz_D zy_reaches_14_22 367 (.iload_n 1) 1 368 := ⟨zq_27 zg_14_22_364.2.2.2.1, rfl⟩
theorem zd_14_22_368 : zz_D zy_reaches_14_22 368 (.invokevirtual 231) 3 371 := ⟨zq_182 zg_14_22_364.2.2.2.2.1 zg_14_22_364.2.2.2.2.2.1 zg_14_22_364.2.2.2.2.2.2.1 rfl, rfl⟩
theorem zd_14_22_371 : zz_D zy_reaches_14_22 371 (.invokevirtual 227) 3 374 := ⟨zq_182 zg_14_22_364.2.2.2.2.2.2.2.1 zg_14_22_364.2.2.2.2.2.2.2.2.1 zg_14_22_364.2.2.2.2.2.2.2.2.2.1 rfl, rfl⟩
theorem zd_14_22_374 : zz_D zy_reaches_14_22 374 (.aload_n 0) 1 375 := ⟨zq_42 zg_14_22_364.2.2.2.2.2.2.2.2.2.2.1, rfl⟩
theorem zd_14_22_375 : zz_D zy_reaches_14_22 375 (.aload_n 0) 1 376 := ⟨zq_42 zg_14_22_364.2.2.2.2.2.2.2.2.2.2.2.1, rfl⟩
theorem zd_14_22_376 : zz_D zy_reaches_14_22 376 (.getfield 42) 3 379 := ⟨zq_180 zg_14_22_364.2.2.2.2.2.2.2.2.2.2.2.2.1 zg_14_22_364.2.2.2.2.2.2.2.2.2.2.2.2.2.1 zg_14_22_364.2.2.2.2.2.2.2.2.2.2.2.2.2.2.1 rfl, rfl⟩
theorem zd_14_22_379 : zz_D zy_reaches_14_22 379 (.iconst 3) 1 380 := ⟨zq_6 zg_14_22_364.2.2.2.2.2.2.2.2.2.2.2.2.2.2.2.1, rfl⟩
theorem zd_14_22_380 : zz_D zy_reaches_14_22 380 (.iload_n 3) 1 381 := ⟨zq_29 zg_14_22_364.2.2.2.2.2.2.2.2.2.2.2.2.2.2.2.2.1, rfl⟩
theorem zd_14_22_381 : zz_D zy_reaches_14_22 381 (.aload_n 0) 1 382 := ⟨zq_42 zg_14_22_364.2.2.2.2.2.2.2.2.2.2.2.2.2.2.2.2.2.1, rfl⟩
theorem zd_14_22_382 : zz_D zy_reaches_14_22 382 (.iload_n 3) 1 383 := ⟨zq_29 zg_14_22_364.2.2.2.2.2.2.2.2.2.2.2.2.2.2.2.2.2.2.1, rfl⟩
theorem zd_14_22_383 : zz_D zy_reaches_14_22 383 (.iload_n 1) 1 384 := ⟨zq_27 zg_14_22_364.2.2.2.2.2.2.2.2.2.2.2.2.2.2.2.2.2.2.2.1, rfl⟩
theorem zd_14_22_384 : zz_D zy_reaches_14_22 384 (.invokevirtual 231) 3 387 := ⟨zq_182 zg_14_22_364.2.2.2.2.2.2.2.2.2.2.2.2.2.2.2.2.2.2.2.2.1 zg_14_22_364.2.2.2.2.2.2.2.2.2.2.2.2.2.2.2.2.2.2.2.2.2.1 zg_14_22_364.2.2.2.2.2.2.2.2.2.2.2.2.2.2.2.2.2.2.2.2.2.2 rfl, rfl⟩
theorem zg_14_22_387 : zq_at zy_reaches_14_22.2.1 387 182 ∧ zq_at zy_reaches_14_22.2.1 388 0 ∧ zq_at zy_reaches_14_22.2.1 389 227 ∧ zq_at zy_reaches_14_22.2.1 390 42 ∧ zq_at zy_reaches_14_22.2.1 391 180 ∧ zq_at zy_reaches_14_22.2.1 392 0 ∧ zq_at zy_reaches_14_22.2.1 393 36 ∧ zq_at zy_reaches_14_22.2.1 394 16 ∧ zq_at zy_reaches_14_22.2.1 395 11 ∧ zq_at zy_reaches_14_22.2.1 396 46 ∧ zq_at zy_reaches_14_22.2.1 397 158 ∧ zq_at zy_reaches_14_22.2.1 398 0 ∧ zq_at zy_reaches_14_22.2.1 399 97 ∧ zq_at zy_reaches_14_22.2.1 400 42 ∧ zq_at zy_reaches_14_22.2.1 401 42 ∧ zq_at zy_reaches_14_22.2.1 402 180 ∧ zq_at zy_reaches_14_22.2.1 403 0 ∧ zq_at zy_reaches_14_22.2.1 404 39 ∧ zq_at zy_reaches_14_22.2.1 405 6 ∧ zq_at zy_reaches_14_22.2.1 406 29 ∧ zq_at zy_reaches_14_22.2.1 407 42 ∧ zq_at zy_reaches_14_22.2.1 408 29 ∧ zq_at zy_reaches_14_22.2.1 409 27 := by decide +kernel
theorem zd_14_22_387 : zz_D zy_reaches_14_22 387 (.invokevirtual 227) 3 390 := ⟨zq_182 zg_14_22_387.1 zg_14_22_387.2.1 zg_14_22_387.2.2.1 rfl, rfl⟩
theorem zd_14_22_390 : zz_D zy_reaches_14_22 390 (.aload_n 0) 1 391 := ⟨zq_42 zg_14_22_387.2.2.2.1, rfl⟩
theorem zd_14_22_391 : zz_D zy_reaches_14_22 391 (.getfield 36) 3 394 := ⟨zq_180 zg_14_22_387.2.2.2.2.1 zg_14_22_387.2.2.2.2.2.1 zg_14_22_387.2.2.2.2.2.2.1 rfl, rfl⟩
theorem zd_14_22_394 : zz_D zy_reaches_14_22 394 (.bipush 11) 2 396 := ⟨zq_16 zg_14_22_387.2.2.2.2.2.2.2.1 zg_14_22_387.2.2.2.2.2.2.2.2.1 (by decide), rfl⟩
theorem zd_14_22_396 : zz_D zy_reaches_14_22 396 (.iaload) 1 397 := ⟨zq_46 zg_14_22_387.2.2.2.2.2.2.2.2.2.1, rfl⟩
theorem zd_14_22_397 : zz_B zy_reaches_14_22 397 (Instr.ifCond .le) 494 400 := ⟨97, zq_158 zg_14_22_387.2.2.2.2.2.2.2.2.2.2.1 zg_14_22_387.2.2.2.2.2.2.2.2.2.2.2.1 zg_14_22_387.2.2.2.2.2.2.2.2.2.2.2.2.1 (by decide), rfl, rfl⟩
theorem zd_14_22_400 : zz_D zy_reaches_14_22 400 (.aload_n 0) 1 401 := ⟨zq_42 zg_14_22_387.2.2.2.2.2.2.2.2.2.2.2.2.2.1, rfl⟩
theorem zd_14_22_401 : zz_D zy_reaches_14_22 401 (.aload_n 0) 1 402 := ⟨zq_42 zg_14_22_387.2.2.2.2.2.2.2.2.2.2.2.2.2.2.1, rfl⟩
theorem zd_14_22_402 : zz_D zy_reaches_14_22 402 (.getfield 39) 3 405 := ⟨zq_180 zg_14_22_387.2.2.2.2.2.2.2.2.2.2.2.2.2.2.2.1 zg_14_22_387.2.2.2.2.2.2.2.2.2.2.2.2.2.2.2.2.1 zg_14_22_387.2.2.2.2.2.2.2.2.2.2.2.2.2.2.2.2.2.1 rfl, rfl⟩
theorem zd_14_22_405 : zz_D zy_reaches_14_22 405 (.iconst 3) 1 406 := ⟨zq_6 zg_14_22_387.2.2.2.2.2.2.2.2.2.2.2.2.2.2.2.2.2.2.1, rfl⟩
theorem zd_14_22_406 : zz_D zy_reaches_14_22 406 (.iload_n 3) 1 407 := ⟨zq_29 zg_14_22_387.2.2.2.2.2.2.2.2.2.2.2.2.2.2.2.2.2.2.2.1, rfl⟩
theorem zd_14_22_407 : zz_D zy_reaches_14_22 407 (.aload_n 0) 1 408 := ⟨zq_42 zg_14_22_387.2.2.2.2.2.2.2.2.2.2.2.2.2.2.2.2.2.2.2.2.1, rfl⟩
theorem zd_14_22_408 : zz_D zy_reaches_14_22 408 (.iload_n 3) 1 409 := ⟨zq_29 zg_14_22_387.2.2.2.2.2.2.2.2.2.2.2.2.2.2.2.2.2.2.2.2.2.1, rfl⟩
theorem zd_14_22_409 : zz_D zy_reaches_14_22 409 (.iload_n 1) 1 410 := ⟨zq_27 zg_14_22_387.2.2.2.2.2.2.2.2.2.2.2.2.2.2.2.2.2.2.2.2.2.2, rfl⟩
theorem zg_14_22_410 : zq_at zy_reaches_14_22.2.1 410 182 ∧ zq_at zy_reaches_14_22.2.1 411 0 ∧ zq_at zy_reaches_14_22.2.1 412 231 ∧ zq_at zy_reaches_14_22.2.1 413 182 ∧ zq_at zy_reaches_14_22.2.1 414 0 ∧ zq_at zy_reaches_14_22.2.1 415 227 ∧ zq_at zy_reaches_14_22.2.1 416 167 ∧ zq_at zy_reaches_14_22.2.1 417 0 ∧ zq_at zy_reaches_14_22.2.1 418 78 ∧ zq_at zy_reaches_14_22.2.1 419 42 ∧ zq_at zy_reaches_14_22.2.1 420 42 ∧ zq_at zy_reaches_14_22.2.1 421 180 ∧ zq_at zy_reaches_14_22.2.1 422 0 ∧ zq_at zy_reaches_14_22.2.1 423 39 ∧ zq_at zy_reaches_14_22.2.1 424 6 ∧ zq_at zy_reaches_14_22.2.1 425 28 ∧ zq_at zy_reaches_14_22.2.1 426 42 ∧ zq_at zy_reaches_14_22.2.1 427 28 ∧ zq_at zy_reaches_14_22.2.1 428 27 ∧ zq_at zy_reaches_14_22.2.1 429 182 ∧ zq_at zy_reaches_14_22.2.1 430 0 ∧ zq_at zy_reaches_14_22.2.1 431 231 := by decide +kernel
theorem zd_14_22_410 : zz_D zy_reaches_14_22 410 (.invokevirtual 231) 3 413 := ⟨zq_182 zg_14_22_410.1 zg_14_22_410.2.1 zg_14_22_410.2.2.1 rfl, rfl⟩
theorem zd_14_22_413 : zz_D zy_reaches_14_22 413 (.invokevirtual 227) 3 416 := ⟨zq_182 zg_14_22_410.2.2.2.1 zg_14_22_410.2.2.2.2.1 zg_14_22_410.2.2.2.2.2.1 rfl, rfl⟩
theorem zd_14_22_416 : zz_B zy_reaches_14_22 416 Instr.goto 494 419 := ⟨78, zq_167 zg_14_22_410.2.2.2.2.2.2.1 zg_14_22_410.2.2.2.2.2.2.2.1 zg_14_22_410.2.2.2.2.2.2.2.2.1 (by decide), rfl, rfl⟩
theorem zd_14_22_419 : zz_D zy_reaches_14_22 419 (.aload_n 0) 1 420 := ⟨zq_42 zg_14_22_410.2.2.2.2.2.2.2.2.2.1, rfl⟩
theorem zd_14_22_420 : zz_D zy_reaches_14_22 420 (.aload_n 0) 1 421 := ⟨zq_42 zg_14_22_410.2.2.2.2.2.2.2.2.2.2.1, rfl⟩
theorem zd_14_22_421 : zz_D zy_reaches_14_22 421 (.getfield 39) 3 424 := ⟨zq_180 zg_14_22_410.2.2.2.2.2.2.2.2.2.2.2.1 zg_14_22_410.2.2.2.2.2.2.2.2.2.2.2.2.1 zg_14_22_410.2.2.2.2.2.2.2.2.2.2.2.2.2.1 rfl, rfl⟩
theorem zd_14_22_424 : zz_D zy_reaches_14_22 424 (.iconst 3) 1 425 := ⟨zq_6 zg_14_22_410.2.2.2.2.2.2.2.2.2.2.2.2.2.2.1, rfl⟩
theorem zd_14_22_425 : zz_D zy_reaches_14_22 425 (.iload_n 2) 1 426 := ⟨zq_28 zg_14_22_410.2.2.2.2.2.2.2.2.2.2.2.2.2.2.2.1, rfl⟩
theorem zd_14_22_426 : zz_D zy_reaches_14_22 426 (.aload_n 0) 1 427 := ⟨zq_42 zg_14_22_410.2.2.2.2.2.2.2.2.2.2.2.2.2.2.2.2.1, rfl⟩
theorem zd_14_22_427 : zz_D zy_reaches_14_22 427 (.iload_n 2) 1 428 := ⟨zq_28 zg_14_22_410.2.2.2.2.2.2.2.2.2.2.2.2.2.2.2.2.2.1, rfl⟩
theorem zd_14_22_428 : zz_D zy_reaches_14_22 428 (.iload_n 1) 1 429 := ⟨zq_27 zg_14_22_410.2.2.2.2.2.2.2.2.2.2.2.2.2.2.2.2.2.2.1, rfl⟩
theorem zd_14_22_429 : zz_D zy_reaches_14_22 429 (.invokevirtual 231) 3 432 := ⟨zq_182 zg_14_22_410.2.2.2.2.2.2.2.2.2.2.2.2.2.2.2.2.2.2.2.1 zg_14_22_410.2.2.2.2.2.2.2.2.2.2.2.2.2.2.2.2.2.2.2.2.1 zg_14_22_410.2.2.2.2.2.2.2.2.2.2.2.2.2.2.2.2.2.2.2.2.2 rfl, rfl⟩
theorem zg_14_22_432 : zq_at zy_reaches_14_22.2.1 432 182 ∧ zq_at zy_reaches_14_22.2.1 433 0 ∧ zq_at zy_reaches_14_22.2.1 434 227 ∧ zq_at zy_reaches_14_22.2.1 435 42 ∧ zq_at zy_reaches_14_22.2.1 436 42 ∧ zq_at zy_reaches_14_22.2.1 437 180 ∧ zq_at zy_reaches_14_22.2.1 438 0 ∧ zq_at zy_reaches_14_22.2.1 439 42 ∧ zq_at zy_reaches_14_22.2.1 440 7 ∧ zq_at zy_reaches_14_22.2.1 441 29 ∧ zq_at zy_reaches_14_22.2.1 442 42 ∧ zq_at zy_reaches_14_22.2.1 443 29 ∧ zq_at zy_reaches_14_22.2.1 444 27 ∧ zq_at zy_reaches_14_22.2.1 445 182 ∧ zq_at zy_reaches_14_22.2.1 446 0 ∧ zq_at zy_reaches_14_22.2.1 447 231 ∧ zq_at zy_reaches_14_22.2.1 448 182 ∧ zq_at zy_reaches_14_22.2.1 449 0 ∧ zq_at zy_reaches_14_22.2.1 450 227 ∧ zq_at zy_reaches_14_22.2.1 451 167 ∧ zq_at zy_reaches_14_22.2.1 452 0 ∧ zq_at zy_reaches_14_22.2.1 453 43 ∧ zq_at zy_reaches_14_22.2.1 454 42 ∧ zq_at zy_reaches_14_22.2.1 455 42 := by decide +kernel
theorem zd_14_22_432 : zz_D zy_reaches_14_22 432 (.invokevirtual 227) 3 435 := ⟨zq_182 zg_14_22_432.1 zg_14_22_432.2.1 zg_14_22_432.2.2.1 rfl, rfl⟩
theorem zd_14_22_435 : zz_D zy_reaches_14_22 435 (.aload_n 0) 1 436 := ⟨zq_42 zg_14_22_432.2.2.2.1, rfl⟩
theorem zd_14_22_436 : zz_D zy_reaches_14_22 436 (.aload_n 0) 1 437 := ⟨zq_42 zg_14_22_432.2.2.2.2.1, rfl⟩
theorem zd_14_22_437 : zz_D zy_reaches_14_22 437 (.getfield 42) 3 440 := ⟨zq_180 zg_14_22_432.2.2.2.2.2.1 zg_14_22_432.2.2.2.2.2.2.1 zg_14_22_432.2.2.2.2.2.2.2.1 rfl, rfl⟩
theorem zd_14_22_440 : zz_D zy_reaches_14_22 440 (.iconst 4) 1 441 := ⟨zq_7 zg_14_22_432.2.2.2.2.2.2.2.2.1, rfl⟩
theorem zd_14_22_441 : zz_D zy_reaches_14_22 441 (.iload_n 3) 1 442 := ⟨zq_29 zg_14_22_432.2.2.2.2.2.2.2.2.2.1, rfl⟩
theorem zd_14_22_442 : zz_D zy_reaches_14_22 442 (.aload_n 0) 1 443 := ⟨zq_42 zg_14_22_432.2.2.2.2.2.2.2.2.2.2.1, rfl⟩
theorem zd_14_22_443 : zz_D zy_reaches_14_22 443 (.iload_n 3) 1 444 := ⟨zq_29 zg_14_22_432.2.2.2.2.2.2.2.2.2.2.2.1, rfl⟩
theorem zd_14_22_444 : zz_D zy_reaches_14_22 444 (.iload_n 1) 1 445 := ⟨zq_27 zg_14_22_432.2.2.2.2.2.2.2.2.2.2.2.2.1, rfl⟩
theorem zd_14_22_445 : zz_D zy_reaches_14_22 445 (.invokevirtual 231) 3 448 := ⟨zq_182 zg_14_22_432.2.2.2.2.2.2.2.2.2.2.2.2.2.1 zg_14_22_432.2.2.2.2.2.2.2.2.2.2.2.2.2.2.1 zg_14_22_432.2.2.2.2.2.2.2.2.2.2.2.2.2.2.2.1 rfl, rfl⟩
theorem zd_14_22_448 : zz_D zy_reaches_14_22 448 (.invokevirtual 227) 3 451 := ⟨zq_182 zg_14_22_432.2.2.2.2.2.2.2.2.2.2.2.2.2.2.2.2.1 zg_14_22_432.2.2.2.2.2.2.2.2.2.2.2.2.2.2.2.2.2.1 zg_14_22_432.2.2.2.2.2.2.2.2.2.2.2.2.2.2.2.2.2.2.1 rfl, rfl⟩
theorem zd_14_22_451 : zz_B zy_reaches_14_22 451 Instr.goto 494 454 := ⟨43, zq_167 zg_14_22_432.2.2.2.2.2.2.2.2.2.2.2.2.2.2.2.2.2.2.2.1 zg_14_22_432.2.2.2.2.2.2.2.2.2.2.2.2.2.2.2.2.2.2.2.2.1 zg_14_22_432.2.2.2.2.2.2.2.2.2.2.2.2.2.2.2.2.2.2.2.2.2.1 (by decide), rfl, rfl⟩
theorem zd_14_22_454 : zz_D zy_reaches_14_22 454 (.aload_n 0) 1 455 := ⟨zq_42 zg_14_22_432.2.2.2.2.2.2.2.2.2.2.2.2.2.2.2.2.2.2.2.2.2.2.1, rfl⟩
theorem zd_14_22_455 : zz_D zy_reaches_14_22 455 (.aload_n 0) 1 456 := ⟨zq_42 zg_14_22_432.2.2.2.2.2.2.2.2.2.2.2.2.2.2.2.2.2.2.2.2.2.2.2, rfl⟩
theorem zg_14_22_456 : zq_at zy_reaches_14_22.2.1 456 180 ∧ zq_at zy_reaches_14_22.2.1 457 0 ∧ zq_at zy_reaches_14_22.2.1 458 39 ∧ zq_at zy_reaches_14_22.2.1 459 7 ∧ zq_at zy_reaches_14_22.2.1 460 28 ∧ zq_at zy_reaches_14_22.2.1 461 42 ∧ zq_at zy_reaches_14_22.2.1 462 28 ∧ zq_at zy_reaches_14_22.2.1 463 27 ∧ zq_at zy_reaches_14_22.2.1 464 182 ∧ zq_at zy_reaches_14_22.2.1 465 0 ∧ zq_at zy_reaches_14_22.2.1 466 231 ∧ zq_at zy_reaches_14_22.2.1 467 182 ∧ zq_at zy_reaches_14_22.2.1 468 0 ∧ zq_at zy_reaches_14_22.2.1 469 227 ∧ zq_at zy_reaches_14_22.2.1 470 42 ∧ zq_at zy_reaches_14_22.2.1 471 42 ∧ zq_at zy_reaches_14_22.2.1 472 180 ∧ zq_at zy_reaches_14_22.2.1 473 0 ∧ zq_at zy_reaches_14_22.2.1 474 42 ∧ zq_at zy_reaches_14_22.2.1 475 3 ∧ zq_at zy_reaches_14_22.2.1 476 42 ∧ zq_at zy_reaches_14_22.2.1 477 180 ∧ zq_at zy_reaches_14_22.2.1 478 0 ∧ zq_at zy_reaches_14_22.2.1 479 36 := by decide +kernel
theorem zd_14_22_456 : zz_D zy_reaches_14_22 456 (.getfield 39) 3 459 := ⟨zq_180 zg_14_22_456.1 zg_14_22_456.2.1 zg_14_22_456.2.2.1 rfl, rfl⟩
theorem zd_14_22_459 : zz_D zy_reaches_14_22 459 (.iconst 4) 1 460 := ⟨zq_7 zg_14_22_456.2.2.2.1, rfl⟩
theorem zd_14_22_460 : zz_D zy_reaches_14_22 460 (.iload_n 2) 1 461 := ⟨zq_28 zg_14_22_456.2.2.2.2.1, rfl⟩
theorem zd_14_22_461 : zz_D zy_reaches_14_22 461 (.aload_n 0) 1 462 := ⟨zq_42 zg_14_22_456.2.2.2.2.2.1, rfl⟩
theorem zd_14_22_462 : zz_D zy_reaches_14_22 462 (.iload_n 2) 1 463 := ⟨zq_28 zg_14_22_456.2.2.2.2.2.2.1, rfl⟩
theorem zd_14_22_463 : zz_D zy_reaches_14_22 463 (.iload_n 1) 1 464 := ⟨zq_27 zg_14_22_456.2.2.2.2.2.2.2.1, rfl⟩
theorem zd_14_22_464 : zz_D zy_reaches_14_22 464 (.invokevirtual 231) 3 467 := ⟨zq_182 zg_14_22_456.2.2.2.2.2.2.2.2.1 zg_14_22_456.2.2.2.2.2.2.2.2.2.1 zg_14_22_456.2.2.2.2.2.2.2.2.2.2.1 rfl, rfl⟩
theorem zd_14_22_467 : zz_D zy_reaches_14_22 467 (.invokevirtual 227) 3 470 := ⟨zq_182 zg_14_22_456.2.2.2.2.2.2.2.2.2.2.2.1 zg_14_22_456.2.2.2.2.2.2.2.2.2.2.2.2.1 zg_14_22_456.2.2.2.2.2.2.2.2.2.2.2.2.2.1 rfl, rfl⟩
theorem zd_14_22_470 : zz_D zy_reaches_14_22 470 (.aload_n 0) 1 471 := ⟨zq_42 zg_14_22_456.2.2.2.2.2.2.2.2.2.2.2.2.2.2.1, rfl⟩
theorem zd_14_22_471 : zz_D zy_reaches_14_22 471 (.aload_n 0) 1 472 := ⟨zq_42 zg_14_22_456.2.2.2.2.2.2.2.2.2.2.2.2.2.2.2.1, rfl⟩
theorem zd_14_22_472 : zz_D zy_reaches_14_22 472 (.getfield 42) 3 475 := ⟨zq_180 zg_14_22_456.2.2.2.2.2.2.2.2.2.2.2.2.2.2.2.2.1 zg_14_22_456.2.2.2.2.2.2.2.2.2.2.2.2.2.2.2.2.2.1 zg_14_22_456.2.2.2.2.2.2.2.2.2.2.2.2.2.2.2.2.2.2.1 rfl, rfl⟩
theorem zd_14_22_475 : zz_D zy_reaches_14_22 475 (.iconst 0) 1 476 := ⟨zq_3 zg_14_22_456.2.2.2.2.2.2.2.2.2.2.2.2.2.2.2.2.2.2.2.1, rfl⟩
theorem zd_14_22_476 : zz_D zy_reaches_14_22 476 (.aload_n 0) 1 477 := ⟨zq_42 zg_14_22_456.2.2.2.2.2.2.2.2.2.2.2.2.2.2.2.2.2.2.2.2.1, rfl⟩
theorem zd_14_22_477 : zz_D zy_reaches_14_22 477 (.getfield 36) 3 480 := ⟨zq_180 zg_14_22_456.2.2.2.2.2.2.2.2.2.2.2.2.2.2.2.2.2.2.2.2.2.1 zg_14_22_456.2.2.2.2.2.2.2.2.2.2.2.2.2.2.2.2.2.2.2.2.2.2.1 zg_14_22_456.2.2.2.2.2.2.2.2.2.2.2.2.2.2.2.2.2.2.2.2.2.2.2 rfl, rfl⟩
theorem zg_14_22_480 : zq_at zy_reaches_14_22.2.1 480 8 ∧ zq_at zy_reaches_14_22.2.1 481 46 ∧ zq_at zy_reaches_14_22.2.1 482 21 ∧ zq_at zy_reaches_14_22.2.1 483 4 ∧ zq_at zy_reaches_14_22.2.1 484 27 ∧ zq_at zy_reaches_14_22.2.1 485 96 ∧ zq_at zy_reaches_14_22.2.1 486 4 ∧ zq_at zy_reaches_14_22.2.1 487 100 ∧ zq_at zy_reaches_14_22.2.1 488 182 ∧ zq_at zy_reaches_14_22.2.1 489 0 ∧ zq_at zy_reaches_14_22.2.1 490 227 ∧ zq_at zy_reaches_14_22.2.1 491 167 ∧ zq_at zy_reaches_14_22.2.1 492 0 ∧ zq_at zy_reaches_14_22.2.1 493 3 := by decide +kernel
theorem zd_14_22_480 : zz_D zy_reaches_14_22 480 (.iconst 5) 1 481 := ⟨zq_8 zg_14_22_480.1, rfl⟩
theorem zd_14_22_481 : zz_D zy_reaches_14_22 481 (.iaload) 1 482 := ⟨zq_46 zg_14_22_480.2.1, rfl⟩
theorem zd_14_22_482 : zz_D zy_reaches_14_22 482 (.iload 4) 2 484 := ⟨zq_21 zg_14_22_480.2.2.1 zg_14_22_480.2.2.2.1, rfl⟩
theorem zd_14_22_484 : zz_D zy_reaches_14_22 484 (.iload_n 1) 1 485 := ⟨zq_27 zg_14_22_480.2.2.2.2.1, rfl⟩
theorem zd_14_22_485 : zz_D zy_reaches_14_22 485 (.iadd) 1 486 := ⟨zq_96 zg_14_22_480.2.2.2.2.2.1, rfl⟩
theorem zd_14_22_486 : zz_D zy_reaches_14_22 486 (.iconst 1) 1 487 := ⟨zq_4 zg_14_22_480.2.2.2.2.2.2.1, rfl⟩
theorem zd_14_22_487 : zz_D zy_reaches_14_22 487 (.isub) 1 488 := ⟨zq_100 zg_14_22_480.2.2.2.2.2.2.2.1, rfl⟩
theorem zd_14_22_488 : zz_D zy_reaches_14_22 488 (.invokevirtual 227) 3 491 := ⟨zq_182 zg_14_22_480.2.2.2.2.2.2.2.2.1 zg_14_22_480.2.2.2.2.2.2.2.2.2.1 zg_14_22_480.2.2.2.2.2.2.2.2.2.2.1 rfl, rfl⟩
theorem zd_14_22_491 : zz_B zy_reaches_14_22 491 Instr.goto 494 494 := ⟨3, zq_167 zg_14_22_480.2.2.2.2.2.2.2.2.2.2.2.1 zg_14_22_480.2.2.2.2.2.2.2.2.2.2.2.2.1 zg_14_22_480.2.2.2.2.2.2.2.2.2.2.2.2.2 (by decide), rfl, rfl⟩
-- TensorForgeModel reaches ()V
abbrev zr_reaches_14_22 : Room := { frames := 1, cells := 0, slots := 0, locals := 18 }
def zp_reaches_14_22  (S0 : zz_S) : zz_S → Prop := fun S => zz_G S ∧ zz_fr [(1088, 0), (1088, 1), (1088, 2), (1088, 3), (1088, 4), (1088, 5), (1088, 6), (1088, 7), (1088, 8), (1088, 9), (1089, 0), (1089, 1), (1089, 2), (1089, 3), (1089, 4), (1089, 5), (1089, 6), (1089, 7), (1089, 8), (1089, 9)] [] (fun _ _ => False) S0 S ∧ (((S0 1087 0) = 1 → S 1088 1 = (S0 1087 5) + ((S0 1087 6) - 1) * (S0 1087 10) + (S0 1087 7) - 1 ∧ S 1088 3 = -1 ∧ S 1088 5 = -1 ∧ S 1088 7 = -1 ∧ S 1088 9 = -1 ∧ S 1089 1 = -1 ∧ S 1089 3 = (S0 1087 8) + ((S0 1087 6) - 1) * (S0 1079 1) + (S0 1087 7) - 1 ∧ S 1089 5 = -1 ∧ S 1089 7 = -1 ∧ S 1089 9 = -1)) ∧ (((S0 1087 0) = 2 → S 1088 1 = (S0 1087 5) + ((S0 1087 6) - 1) * (S0 1087 10) + (S0 1087 7) - 1 ∧ S 1088 3 = -1 ∧ S 1088 5 = -1 ∧ S 1088 7 = -1 ∧ S 1088 9 = -1 ∧ S 1089 1 = -1 ∧ S 1089 3 = -1 ∧ S 1089 5 = (S0 1087 8) + ((S0 1087 6) - 1) * (S0 1079 1) + (S0 1087 7) - 1 ∧ S 1089 7 = -1 ∧ S 1089 9 = -1)) ∧ (((S0 1087 0) = 3 → S 1088 1 = -1 ∧ S 1088 3 = -1 ∧ S 1088 5 = -1 ∧ S 1088 7 = -1 ∧ S 1088 9 = -1 ∧ S 1089 1 = -1 ∧ S 1089 3 = (S0 1087 8) + ((S0 1087 6) - 1) * (S0 1079 1) + (S0 1087 7) - 1 ∧ S 1089 5 = -1 ∧ S 1089 7 = -1 ∧ S 1089 9 = -1)) ∧ (((S0 1087 0) = 4 → S 1088 1 = (S0 1087 5) + ((S0 1087 6) - 1) * (S0 1087 10) + 4 * (S0 1087 7) - 1 ∧ S 1088 3 = -1 ∧ S 1088 5 = -1 ∧ S 1088 7 = -1 ∧ S 1088 9 = -1 ∧ S 1089 1 = -1 ∧ S 1089 3 = -1 ∧ S 1089 5 = -1 ∧ S 1089 7 = (S0 1087 8) + ((S0 1087 6) - 1) * (S0 1079 1) + (S0 1087 7) - 1 ∧ S 1089 9 = -1)) ∧ (((S0 1087 0) = 5 → S 1088 1 = -1 ∧ S 1088 3 = (S0 1087 8) + ((S0 1087 6) - 1) * (S0 1079 1) + (S0 1087 11) / 2 - 1 ∧ S 1088 5 = (S0 1087 10) + ((S0 1087 11) / 2 - 1) * (S0 1079 1) + (S0 1087 7) - 1 ∧ (S 1088 7 = (S0 1087 9) + ((S0 1087 6) - 1) * (S0 1079 1) + (S0 1087 7) - 1 ∨ S 1088 7 = -1) ∧ S 1088 9 = -1 ∧ S 1089 1 = -1 ∧ S 1089 3 = -1 ∧ S 1089 5 = -1 ∧ S 1089 7 = (S0 1087 9) + ((S0 1087 6) - 1) * (S0 1079 1) + (S0 1087 7) - 1 ∧ S 1089 9 = -1)) ∧ (((S0 1087 0) = 6 → S 1088 1 = -1 ∧ S 1088 3 = (S0 1087 8) + ((S0 1087 6) - 1) * (S0 1079 1) + (S0 1087 7) - 1 ∧ S 1088 5 = -1 ∧ (S 1088 7 = (S0 1087 9) + ((S0 1087 6) - 1) * (S0 1079 1) + (S0 1087 7) - 1 ∨ S 1088 7 = -1) ∧ S 1088 9 = -1 ∧ S 1089 1 = -1 ∧ S 1089 3 = -1 ∧ S 1089 5 = -1 ∧ S 1089 7 = (S0 1087 9) + ((S0 1087 6) - 1) * (S0 1079 1) + (S0 1087 7) - 1 ∧ S 1089 9 = -1)) ∧ (((S0 1087 0) = 7 → S 1088 1 = -1 ∧ S 1088 3 = -1 ∧ S 1088 5 = -1 ∧ S 1088 7 = (S0 1087 8) + ((S0 1087 6) - 1) * (S0 1079 1) + (S0 1087 7) - 1 ∧ S 1088 9 = -1 ∧ S 1089 1 = -1 ∧ S 1089 3 = -1 ∧ S 1089 5 = -1 ∧ S 1089 7 = -1 ∧ S 1089 9 = (S0 1087 9) + ((S0 1087 6) - 1) * (S0 1079 1) + (S0 1087 7) - 1)) ∧ (((S0 1087 0) = 8 → S 1088 1 = -1 ∧ S 1088 3 = -1 ∧ S 1088 5 = -1 ∧ S 1088 7 = -1 ∧ S 1088 9 = (S0 1087 8) + ((S0 1087 6) - 1) * (S0 1079 1) + (S0 1087 7) - 1 ∧ S 1089 1 = (S0 1087 5) + ((S0 1087 6) - 1) * (S0 1087 10) + (S0 1087 7) - 1 ∧ S 1089 3 = -1 ∧ S 1089 5 = -1 ∧ S 1089 7 = -1 ∧ S 1089 9 = -1)) ∧ (((S0 1087 0) = 9 → S 1088 1 = -1 ∧ S 1088 3 = -1 ∧ S 1088 5 = -1 ∧ S 1088 7 = -1 ∧ S 1088 9 = -1 ∧ S 1089 1 = -1 ∧ S 1089 3 = -1 ∧ S 1089 5 = -1 ∧ S 1089 7 = -1 ∧ S 1089 9 = -1))
theorem zc_reaches_14_22 {g : mm_G} {l : Launch}  (S0 : zz_S) (n : Nat) (hn : zz_end ≤ n) (G_S0 : zz_G S0) (hsS0_1087_0 : 0 ≤ S0 1087 0 ∧ S0 1087 0 ≤ 15) (hsS0_1087_1 : 0 ≤ S0 1087 1 ∧ S0 1087 1 ≤ 1) (hsS0_1087_2 : 0 ≤ S0 1087 2 ∧ S0 1087 2 ≤ 1) (hsS0_1087_3 : 0 ≤ S0 1087 3 ∧ S0 1087 3 ≤ 1) (hsS0_1087_4 : 0 ≤ S0 1087 4 ∧ S0 1087 4 ≤ 1) (hsS0_1087_5 : 0 ≤ S0 1087 5 ∧ S0 1087 5 ≤ 4095) (hsS0_1087_6 : 0 ≤ S0 1087 6 ∧ S0 1087 6 ≤ 63) (hsS0_1087_7 : 0 ≤ S0 1087 7 ∧ S0 1087 7 ≤ 31) (hsS0_1087_8 : 0 ≤ S0 1087 8 ∧ S0 1087 8 ≤ 511) (hsS0_1087_9 : 0 ≤ S0 1087 9 ∧ S0 1087 9 ≤ 511) (hsS0_1087_10 : 0 ≤ S0 1087 10 ∧ S0 1087 10 ≤ 1023) (hsS0_1087_11 : 0 ≤ S0 1087 11 ∧ S0 1087 11 ≤ 31) : mm_Met g l zy_reaches_14_22 zr_reaches_14_22 [.ref 1079] (zz_M S0 n) n (zz_QV n (zp_reaches_14_22  S0)) := by
  refine zz_enter (by decide) (Nat.le_of_ble_eq_true rfl) (zz_less (ls1 := [some (.ref 1079)]) ⟨rfl, trivial⟩ ?_)
  have F_S0 : zz_fr [(1088, 0), (1088, 1), (1088, 2), (1088, 3), (1088, 4), (1088, 5), (1088, 6), (1088, 7), (1088, 8), (1088, 9), (1089, 0), (1089, 1), (1089, 2), (1089, 3), (1089, 4), (1089, 5), (1089, 6), (1089, 7), (1089, 8), (1089, 9)] [] (fun _ _ => False) S0 S0 := zz_fr.refl
  refine zz_iconst zd_14_22_0 ?_
  refine zz_istore_n [some (.ref 1079), some (zi 0)] zd_14_22_1 (by decide) rfl ?_
  refine zz_iload_n (x := 0) rfl zd_14_22_2 ?_
  refine zz_iconst zd_14_22_3 ?_
  refine zz_icmp_ge (by omega) (by omega) zd_14_22_4 (fun c1 => ?_) (fun c1 => ?_)
  · exfalso; omega
  · refine zz_aload_n (x := 1079) rfl zd_14_22_7 ?_
    refine zz_aload_n (x := 1079) rfl zd_14_22_8 ?_
    refine zz_getr (kd := 0) (z := 1088) zd_14_22_9 zf_Md_39 zT_1079 rfl (zz_ltn hn rfl) (zz_G.eq G_S0 1079 12 1088 rfl rfl) (by decide) 1088 rfl ?_
    refine zz_iload_n (x := 0) rfl zd_14_22_12 ?_
    refine zz_iconst zd_14_22_13 ?_
    refine zz_iconst zd_14_22_14 ?_
    refine zz_callVV [.ref 1088, zi 0, zi 0, zi (-1)] zd_14_22_15 zk_Md_227 zT_1079 (zz_ltn hn rfl) rfl rfl ⟨Nat.le_of_ble_eq_true rfl, Nat.le_of_ble_eq_true rfl⟩ ⟨rfl, rfl⟩ (Nat.zero_le _) (Nat.zero_le _) (zc_reach_14_20x_1088_0 0 (-1) S0 n hn G_S0 (by omega) (by omega)) (fun S2 hP => ?_)
    obtain ⟨G_S2, fS2, o4, o5⟩ := hP
    have F_S2 := zz_fr.trans F_S0 fS2 rfl zz_nv
    refine zz_aload_n (x := 1079) rfl zd_14_22_18 ?_
    refine zz_aload_n (x := 1079) rfl zd_14_22_19 ?_
    refine zz_getr (kd := 0) (z := 1089) zd_14_22_20 zf_Md_42 zT_1079 rfl (zz_ltn hn rfl) (zz_G.eq G_S2 1079 13 1089 rfl rfl) (by decide) 1089 rfl ?_
    refine zz_iload_n (x := 0) rfl zd_14_22_23 ?_
    refine zz_iconst zd_14_22_24 ?_
    refine zz_iconst zd_14_22_25 ?_
    refine zz_callVV [.ref 1089, zi 0, zi 0, zi (-1)] zd_14_22_26 zk_Md_227 zT_1079 (zz_ltn hn rfl) rfl rfl ⟨Nat.le_of_ble_eq_true rfl, Nat.le_of_ble_eq_true rfl⟩ ⟨rfl, rfl⟩ (Nat.zero_le _) (Nat.zero_le _) (zc_reach_14_20x_1089_0 0 (-1) S2 n hn G_S2 (by omega) (by omega)) (fun S6 hP => ?_)
    obtain ⟨G_S6, fS6, o8, o9⟩ := hP
    have F_S6 := zz_fr.trans F_S2 fS6 rfl zz_nv
    refine zz_iinc [some (.ref 1079), some (zi 1)] zd_14_22_29 rfl rfl ?_
    refine zz_goto zd_14_22_32 ?_
    refine zz_iload_n (x := 1) rfl zd_14_22_2 ?_
    refine zz_iconst zd_14_22_3 ?_
    refine zz_icmp_ge (by omega) (by omega) zd_14_22_4 (fun c10 => ?_) (fun c10 => ?_)
    · exfalso; omega
    · refine zz_aload_n (x := 1079) rfl zd_14_22_7 ?_
      refine zz_aload_n (x := 1079) rfl zd_14_22_8 ?_
      refine zz_getr (kd := 0) (z := 1088) zd_14_22_9 zf_Md_39 zT_1079 rfl (zz_ltn hn rfl) (zz_G.eq G_S6 1079 12 1088 rfl rfl) (by decide) 1088 rfl ?_
      refine zz_iload_n (x := 1) rfl zd_14_22_12 ?_
      refine zz_iconst zd_14_22_13 ?_
      refine zz_iconst zd_14_22_14 ?_
      refine zz_callVV [.ref 1088, zi 1, zi 0, zi (-1)] zd_14_22_15 zk_Md_227 zT_1079 (zz_ltn hn rfl) rfl rfl ⟨Nat.le_of_ble_eq_true rfl, Nat.le_of_ble_eq_true rfl⟩ ⟨rfl, rfl⟩ (Nat.zero_le _) (Nat.zero_le _) (zc_reach_14_20x_1088_1 0 (-1) S6 n hn G_S6 (by omega) (by omega)) (fun S11 hP => ?_)
      obtain ⟨G_S11, fS11, o13, o14⟩ := hP
      have F_S11 := zz_fr.trans F_S6 fS11 rfl zz_nv
      refine zz_aload_n (x := 1079) rfl zd_14_22_18 ?_
      refine zz_aload_n (x := 1079) rfl zd_14_22_19 ?_
      refine zz_getr (kd := 0) (z := 1089) zd_14_22_20 zf_Md_42 zT_1079 rfl (zz_ltn hn rfl) (zz_G.eq G_S11 1079 13 1089 rfl rfl) (by decide) 1089 rfl ?_
      refine zz_iload_n (x := 1) rfl zd_14_22_23 ?_
      refine zz_iconst zd_14_22_24 ?_
      refine zz_iconst zd_14_22_25 ?_
      refine zz_callVV [.ref 1089, zi 1, zi 0, zi (-1)] zd_14_22_26 zk_Md_227 zT_1079 (zz_ltn hn rfl) rfl rfl ⟨Nat.le_of_ble_eq_true rfl, Nat.le_of_ble_eq_true rfl⟩ ⟨rfl, rfl⟩ (Nat.zero_le _) (Nat.zero_le _) (zc_reach_14_20x_1089_1 0 (-1) S11 n hn G_S11 (by omega) (by omega)) (fun S15 hP => ?_)
      obtain ⟨G_S15, fS15, o17, o18⟩ := hP
      have F_S15 := zz_fr.trans F_S11 fS15 rfl zz_nv
      refine zz_iinc [some (.ref 1079), some (zi 2)] zd_14_22_29 rfl rfl ?_
      refine zz_goto zd_14_22_32 ?_
      refine zz_iload_n (x := 2) rfl zd_14_22_2 ?_
      refine zz_iconst zd_14_22_3 ?_
      refine zz_icmp_ge (by omega) (by omega) zd_14_22_4 (fun c19 => ?_) (fun c19 => ?_)
      · exfalso; omega
      · refine zz_aload_n (x := 1079) rfl zd_14_22_7 ?_
        refine zz_aload_n (x := 1079) rfl zd_14_22_8 ?_
        refine zz_getr (kd := 0) (z := 1088) zd_14_22_9 zf_Md_39 zT_1079 rfl (zz_ltn hn rfl) (zz_G.eq G_S15 1079 12 1088 rfl rfl) (by decide) 1088 rfl ?_
        refine zz_iload_n (x := 2) rfl zd_14_22_12 ?_
        refine zz_iconst zd_14_22_13 ?_
        refine zz_iconst zd_14_22_14 ?_
        refine zz_callVV [.ref 1088, zi 2, zi 0, zi (-1)] zd_14_22_15 zk_Md_227 zT_1079 (zz_ltn hn rfl) rfl rfl ⟨Nat.le_of_ble_eq_true rfl, Nat.le_of_ble_eq_true rfl⟩ ⟨rfl, rfl⟩ (Nat.zero_le _) (Nat.zero_le _) (zc_reach_14_20x_1088_2 0 (-1) S15 n hn G_S15 (by omega) (by omega)) (fun S20 hP => ?_)
        obtain ⟨G_S20, fS20, o22, o23⟩ := hP
        have F_S20 := zz_fr.trans F_S15 fS20 rfl zz_nv
        refine zz_aload_n (x := 1079) rfl zd_14_22_18 ?_
        refine zz_aload_n (x := 1079) rfl zd_14_22_19 ?_
        refine zz_getr (kd := 0) (z := 1089) zd_14_22_20 zf_Md_42 zT_1079 rfl (zz_ltn hn rfl) (zz_G.eq G_S20 1079 13 1089 rfl rfl) (by decide) 1089 rfl ?_
        refine zz_iload_n (x := 2) rfl zd_14_22_23 ?_
        refine zz_iconst zd_14_22_24 ?_
        refine zz_iconst zd_14_22_25 ?_
        refine zz_callVV [.ref 1089, zi 2, zi 0, zi (-1)] zd_14_22_26 zk_Md_227 zT_1079 (zz_ltn hn rfl) rfl rfl ⟨Nat.le_of_ble_eq_true rfl, Nat.le_of_ble_eq_true rfl⟩ ⟨rfl, rfl⟩ (Nat.zero_le _) (Nat.zero_le _) (zc_reach_14_20x_1089_2 0 (-1) S20 n hn G_S20 (by omega) (by omega)) (fun S24 hP => ?_)
        obtain ⟨G_S24, fS24, o26, o27⟩ := hP
        have F_S24 := zz_fr.trans F_S20 fS24 rfl zz_nv
        refine zz_iinc [some (.ref 1079), some (zi 3)] zd_14_22_29 rfl rfl ?_
        refine zz_goto zd_14_22_32 ?_
        refine zz_iload_n (x := 3) rfl zd_14_22_2 ?_
        refine zz_iconst zd_14_22_3 ?_
        refine zz_icmp_ge (by omega) (by omega) zd_14_22_4 (fun c28 => ?_) (fun c28 => ?_)
        · exfalso; omega
        · refine zz_aload_n (x := 1079) rfl zd_14_22_7 ?_
          refine zz_aload_n (x := 1079) rfl zd_14_22_8 ?_
          refine zz_getr (kd := 0) (z := 1088) zd_14_22_9 zf_Md_39 zT_1079 rfl (zz_ltn hn rfl) (zz_G.eq G_S24 1079 12 1088 rfl rfl) (by decide) 1088 rfl ?_
          refine zz_iload_n (x := 3) rfl zd_14_22_12 ?_
          refine zz_iconst zd_14_22_13 ?_
          refine zz_iconst zd_14_22_14 ?_
          refine zz_callVV [.ref 1088, zi 3, zi 0, zi (-1)] zd_14_22_15 zk_Md_227 zT_1079 (zz_ltn hn rfl) rfl rfl ⟨Nat.le_of_ble_eq_true rfl, Nat.le_of_ble_eq_true rfl⟩ ⟨rfl, rfl⟩ (Nat.zero_le _) (Nat.zero_le _) (zc_reach_14_20x_1088_3 0 (-1) S24 n hn G_S24 (by omega) (by omega)) (fun S29 hP => ?_)
          obtain ⟨G_S29, fS29, o31, o32⟩ := hP
          have F_S29 := zz_fr.trans F_S24 fS29 rfl zz_nv
          refine zz_aload_n (x := 1079) rfl zd_14_22_18 ?_
          refine zz_aload_n (x := 1079) rfl zd_14_22_19 ?_
          refine zz_getr (kd := 0) (z := 1089) zd_14_22_20 zf_Md_42 zT_1079 rfl (zz_ltn hn rfl) (zz_G.eq G_S29 1079 13 1089 rfl rfl) (by decide) 1089 rfl ?_
          refine zz_iload_n (x := 3) rfl zd_14_22_23 ?_
          refine zz_iconst zd_14_22_24 ?_
          refine zz_iconst zd_14_22_25 ?_
          refine zz_callVV [.ref 1089, zi 3, zi 0, zi (-1)] zd_14_22_26 zk_Md_227 zT_1079 (zz_ltn hn rfl) rfl rfl ⟨Nat.le_of_ble_eq_true rfl, Nat.le_of_ble_eq_true rfl⟩ ⟨rfl, rfl⟩ (Nat.zero_le _) (Nat.zero_le _) (zc_reach_14_20x_1089_3 0 (-1) S29 n hn G_S29 (by omega) (by omega)) (fun S33 hP => ?_)
          obtain ⟨G_S33, fS33, o35, o36⟩ := hP
          have F_S33 := zz_fr.trans F_S29 fS33 rfl zz_nv
          refine zz_iinc [some (.ref 1079), some (zi 4)] zd_14_22_29 rfl rfl ?_
          refine zz_goto zd_14_22_32 ?_
          refine zz_iload_n (x := 4) rfl zd_14_22_2 ?_
          refine zz_iconst zd_14_22_3 ?_
          refine zz_icmp_ge (by omega) (by omega) zd_14_22_4 (fun c37 => ?_) (fun c37 => ?_)
          · exfalso; omega
          · refine zz_aload_n (x := 1079) rfl zd_14_22_7 ?_
            refine zz_aload_n (x := 1079) rfl zd_14_22_8 ?_
            refine zz_getr (kd := 0) (z := 1088) zd_14_22_9 zf_Md_39 zT_1079 rfl (zz_ltn hn rfl) (zz_G.eq G_S33 1079 12 1088 rfl rfl) (by decide) 1088 rfl ?_
            refine zz_iload_n (x := 4) rfl zd_14_22_12 ?_
            refine zz_iconst zd_14_22_13 ?_
            refine zz_iconst zd_14_22_14 ?_
            refine zz_callVV [.ref 1088, zi 4, zi 0, zi (-1)] zd_14_22_15 zk_Md_227 zT_1079 (zz_ltn hn rfl) rfl rfl ⟨Nat.le_of_ble_eq_true rfl, Nat.le_of_ble_eq_true rfl⟩ ⟨rfl, rfl⟩ (Nat.zero_le _) (Nat.zero_le _) (zc_reach_14_20x_1088_4 0 (-1) S33 n hn G_S33 (by omega) (by omega)) (fun S38 hP => ?_)
            obtain ⟨G_S38, fS38, o40, o41⟩ := hP
            have F_S38 := zz_fr.trans F_S33 fS38 rfl zz_nv
            refine zz_aload_n (x := 1079) rfl zd_14_22_18 ?_
            refine zz_aload_n (x := 1079) rfl zd_14_22_19 ?_
            refine zz_getr (kd := 0) (z := 1089) zd_14_22_20 zf_Md_42 zT_1079 rfl (zz_ltn hn rfl) (zz_G.eq G_S38 1079 13 1089 rfl rfl) (by decide) 1089 rfl ?_
            refine zz_iload_n (x := 4) rfl zd_14_22_23 ?_
            refine zz_iconst zd_14_22_24 ?_
            refine zz_iconst zd_14_22_25 ?_
            refine zz_callVV [.ref 1089, zi 4, zi 0, zi (-1)] zd_14_22_26 zk_Md_227 zT_1079 (zz_ltn hn rfl) rfl rfl ⟨Nat.le_of_ble_eq_true rfl, Nat.le_of_ble_eq_true rfl⟩ ⟨rfl, rfl⟩ (Nat.zero_le _) (Nat.zero_le _) (zc_reach_14_20x_1089_4 0 (-1) S38 n hn G_S38 (by omega) (by omega)) (fun S42 hP => ?_)
            obtain ⟨G_S42, fS42, o44, o45⟩ := hP
            have F_S42 := zz_fr.trans F_S38 fS42 rfl zz_nv
            refine zz_iinc [some (.ref 1079), some (zi 5)] zd_14_22_29 rfl rfl ?_
            refine zz_goto zd_14_22_32 ?_
            refine zz_iload_n (x := 5) rfl zd_14_22_2 ?_
            refine zz_iconst zd_14_22_3 ?_
            refine zz_icmp_ge (by omega) (by omega) zd_14_22_4 (fun c46 => ?_) (fun c46 => ?_)
            · refine zz_aload_n (x := 1079) rfl zd_14_22_35 ?_
              refine zz_getr (kd := 0) (z := 1087) zd_14_22_36 zf_Md_36 zT_1079 rfl (zz_ltn hn rfl) (zz_G.eq G_S42 1079 11 1087 rfl rfl) (by decide) 1087 rfl ?_
              refine zz_bipush (by decide) zd_14_22_39 ?_
              have g47 := zz_G.r G_S0 1087 7 (-2147483648) 2147483647 rfl rfl
              refine zz_iald (z := S0 1087 7) zd_14_22_41 zT_1087 rfl (zz_ltn hn rfl) (by decide) (by decide) (zz_rc fS42 rfl rfl (fun h => h) (zz_rc fS38 rfl rfl (fun h => h) (zz_rc fS33 rfl rfl (fun h => h) (zz_rc fS29 rfl rfl (fun h => h) (zz_rc fS24 rfl rfl (fun h => h) (zz_rc fS20 rfl rfl (fun h => h) (zz_rc fS15 rfl rfl (fun h => h) (zz_rc fS11 rfl rfl (fun h => h) (zz_rc fS6 rfl rfl (fun h => h) (zz_rc fS2 rfl rfl (fun h => h) rfl)))))))))) ?_
              refine zz_istore_n [some (.ref 1079), some (zi (S0 1087 7))] zd_14_22_42 (by decide) rfl ?_
              refine zz_aload_n (x := 1079) rfl zd_14_22_43 ?_
              refine zz_getr (kd := 0) (z := 1087) zd_14_22_44 zf_Md_36 zT_1079 rfl (zz_ltn hn rfl) (zz_G.eq G_S42 1079 11 1087 rfl rfl) (by decide) 1087 rfl ?_
              refine zz_bipush (by decide) zd_14_22_47 ?_
              have g48 := zz_G.r G_S0 1087 8 (-2147483648) 2147483647 rfl rfl
              refine zz_iald (z := S0 1087 8) zd_14_22_49 zT_1087 rfl (zz_ltn hn rfl) (by decide) (by decide) (zz_rc fS42 rfl rfl (fun h => h) (zz_rc fS38 rfl rfl (fun h => h) (zz_rc fS33 rfl rfl (fun h => h) (zz_rc fS29 rfl rfl (fun h => h) (zz_rc fS24 rfl rfl (fun h => h) (zz_rc fS20 rfl rfl (fun h => h) (zz_rc fS15 rfl rfl (fun h => h) (zz_rc fS11 rfl rfl (fun h => h) (zz_rc fS6 rfl rfl (fun h => h) (zz_rc fS2 rfl rfl (fun h => h) rfl)))))))))) ?_
              refine zz_istore_n [some (.ref 1079), some (zi (S0 1087 7)), some (zi (S0 1087 8))] zd_14_22_50 (by decide) rfl ?_
              refine zz_aload_n (x := 1079) rfl zd_14_22_51 ?_
              refine zz_getr (kd := 0) (z := 1087) zd_14_22_52 zf_Md_36 zT_1079 rfl (zz_ltn hn rfl) (zz_G.eq G_S42 1079 11 1087 rfl rfl) (by decide) 1087 rfl ?_
              refine zz_bipush (by decide) zd_14_22_55 ?_
              have g49 := zz_G.r G_S0 1087 9 (-2147483648) 2147483647 rfl rfl
              refine zz_iald (z := S0 1087 9) zd_14_22_57 zT_1087 rfl (zz_ltn hn rfl) (by decide) (by decide) (zz_rc fS42 rfl rfl (fun h => h) (zz_rc fS38 rfl rfl (fun h => h) (zz_rc fS33 rfl rfl (fun h => h) (zz_rc fS29 rfl rfl (fun h => h) (zz_rc fS24 rfl rfl (fun h => h) (zz_rc fS20 rfl rfl (fun h => h) (zz_rc fS15 rfl rfl (fun h => h) (zz_rc fS11 rfl rfl (fun h => h) (zz_rc fS6 rfl rfl (fun h => h) (zz_rc fS2 rfl rfl (fun h => h) rfl)))))))))) ?_
              refine zz_istore_n [some (.ref 1079), some (zi (S0 1087 7)), some (zi (S0 1087 8)), some (zi (S0 1087 9))] zd_14_22_58 (by decide) rfl ?_
              refine zz_aload_n (x := 1079) rfl zd_14_22_59 ?_
              refine zz_getr (kd := 0) (z := 1087) zd_14_22_60 zf_Md_36 zT_1079 rfl (zz_ltn hn rfl) (zz_G.eq G_S42 1079 11 1087 rfl rfl) (by decide) 1087 rfl ?_
              refine zz_iconst zd_14_22_63 ?_
              have g50 := zz_G.r G_S0 1087 5 (-2147483648) 2147483647 rfl rfl
              refine zz_iald (z := S0 1087 5) zd_14_22_64 zT_1087 rfl (zz_ltn hn rfl) (by decide) (by decide) (zz_rc fS42 rfl rfl (fun h => h) (zz_rc fS38 rfl rfl (fun h => h) (zz_rc fS33 rfl rfl (fun h => h) (zz_rc fS29 rfl rfl (fun h => h) (zz_rc fS24 rfl rfl (fun h => h) (zz_rc fS20 rfl rfl (fun h => h) (zz_rc fS15 rfl rfl (fun h => h) (zz_rc fS11 rfl rfl (fun h => h) (zz_rc fS6 rfl rfl (fun h => h) (zz_rc fS2 rfl rfl (fun h => h) rfl)))))))))) ?_
              refine zz_aload_n (x := 1079) rfl zd_14_22_65 ?_
              refine zz_getr (kd := 0) (z := 1087) zd_14_22_66 zf_Md_36 zT_1079 rfl (zz_ltn hn rfl) (zz_G.eq G_S42 1079 11 1087 rfl rfl) (by decide) 1087 rfl ?_
              refine zz_bipush (by decide) zd_14_22_69 ?_
              have g51 := zz_G.r G_S0 1087 6 (-2147483648) 2147483647 rfl rfl
              refine zz_iald (z := S0 1087 6) zd_14_22_71 zT_1087 rfl (zz_ltn hn rfl) (by decide) (by decide) (zz_rc fS42 rfl rfl (fun h => h) (zz_rc fS38 rfl rfl (fun h => h) (zz_rc fS33 rfl rfl (fun h => h) (zz_rc fS29 rfl rfl (fun h => h) (zz_rc fS24 rfl rfl (fun h => h) (zz_rc fS20 rfl rfl (fun h => h) (zz_rc fS15 rfl rfl (fun h => h) (zz_rc fS11 rfl rfl (fun h => h) (zz_rc fS6 rfl rfl (fun h => h) (zz_rc fS2 rfl rfl (fun h => h) rfl)))))))))) ?_
              refine zz_iconst zd_14_22_72 ?_
              refine zz_isub zd_14_22_73 ?_
              refine zz_aload_n (x := 1079) rfl zd_14_22_74 ?_
              refine zz_getr (kd := 0) (z := 1087) zd_14_22_75 zf_Md_36 zT_1079 rfl (zz_ltn hn rfl) (zz_G.eq G_S42 1079 11 1087 rfl rfl) (by decide) 1087 rfl ?_
              refine zz_bipush (by decide) zd_14_22_78 ?_
              have g52 := zz_G.r G_S0 1087 10 (-2147483648) 2147483647 rfl rfl
              refine zz_iald (z := S0 1087 10) zd_14_22_80 zT_1087 rfl (zz_ltn hn rfl) (by decide) (by decide) (zz_rc fS42 rfl rfl (fun h => h) (zz_rc fS38 rfl rfl (fun h => h) (zz_rc fS33 rfl rfl (fun h => h) (zz_rc fS29 rfl rfl (fun h => h) (zz_rc fS24 rfl rfl (fun h => h) (zz_rc fS20 rfl rfl (fun h => h) (zz_rc fS15 rfl rfl (fun h => h) (zz_rc fS11 rfl rfl (fun h => h) (zz_rc fS6 rfl rfl (fun h => h) (zz_rc fS2 rfl rfl (fun h => h) rfl)))))))))) ?_
              refine zz_imul zd_14_22_81 ?_
              have m53 := zz_mulh (a := (S0 1087 6) - 1) (b := S0 1087 10) (-1) 62 1023 (-1023) 63426 (by omega) (by omega) (by decide) (by decide) (by decide) (by decide)
              refine zz_iadd zd_14_22_82 ?_
              refine zz_istore [some (.ref 1079), some (zi (S0 1087 7)), some (zi (S0 1087 8)), some (zi (S0 1087 9)), some (zi ((S0 1087 5) + (((S0 1087 6) - 1) * (S0 1087 10))))] zd_14_22_83 (by decide) rfl ?_
              refine zz_aload_n (x := 1079) rfl zd_14_22_85 ?_
              refine zz_getr (kd := 0) (z := 1087) zd_14_22_86 zf_Md_36 zT_1079 rfl (zz_ltn hn rfl) (zz_G.eq G_S42 1079 11 1087 rfl rfl) (by decide) 1087 rfl ?_
              refine zz_iconst zd_14_22_89 ?_
              have g54 := zz_G.r G_S0 1087 0 (-2147483648) 2147483647 rfl rfl
              refine zz_iald (z := S0 1087 0) zd_14_22_90 zT_1087 rfl (zz_ltn hn rfl) (by decide) (by decide) (zz_rc fS42 rfl rfl (fun h => h) (zz_rc fS38 rfl rfl (fun h => h) (zz_rc fS33 rfl rfl (fun h => h) (zz_rc fS29 rfl rfl (fun h => h) (zz_rc fS24 rfl rfl (fun h => h) (zz_rc fS20 rfl rfl (fun h => h) (zz_rc fS15 rfl rfl (fun h => h) (zz_rc fS11 rfl rfl (fun h => h) (zz_rc fS6 rfl rfl (fun h => h) (zz_rc fS2 rfl rfl (fun h => h) rfl)))))))))) ?_
              by_cases c55 : S0 1087 0 = 1
              · refine zz_swIn 1 45 c55 (by decide) zd_14_22_91 rfl rfl ?_
                refine zz_aload_n (x := 1079) rfl zd_14_22_136 ?_
                refine zz_aload_n (x := 1079) rfl zd_14_22_137 ?_
                refine zz_getr (kd := 0) (z := 1088) zd_14_22_138 zf_Md_39 zT_1079 rfl (zz_ltn hn rfl) (zz_G.eq G_S42 1079 12 1088 rfl rfl) (by decide) 1088 rfl ?_
                refine zz_iconst zd_14_22_141 ?_
                refine zz_aload_n (x := 1079) rfl zd_14_22_142 ?_
                refine zz_getr (kd := 0) (z := 1087) zd_14_22_143 zf_Md_36 zT_1079 rfl (zz_ltn hn rfl) (zz_G.eq G_S42 1079 11 1087 rfl rfl) (by decide) 1087 rfl ?_
                refine zz_iconst zd_14_22_146 ?_
                refine zz_iald (z := S0 1087 5) zd_14_22_147 zT_1087 rfl (zz_ltn hn rfl) (by decide) (by decide) (zz_rc fS42 rfl rfl (fun h => h) (zz_rc fS38 rfl rfl (fun h => h) (zz_rc fS33 rfl rfl (fun h => h) (zz_rc fS29 rfl rfl (fun h => h) (zz_rc fS24 rfl rfl (fun h => h) (zz_rc fS20 rfl rfl (fun h => h) (zz_rc fS15 rfl rfl (fun h => h) (zz_rc fS11 rfl rfl (fun h => h) (zz_rc fS6 rfl rfl (fun h => h) (zz_rc fS2 rfl rfl (fun h => h) rfl)))))))))) ?_
                refine zz_iload (x := (S0 1087 5) + (((S0 1087 6) - 1) * (S0 1087 10))) rfl zd_14_22_148 ?_
                refine zz_iload_n (x := S0 1087 7) rfl zd_14_22_150 ?_
                refine zz_iadd zd_14_22_151 ?_
                refine zz_nme (fun v56 ev56 => ?_)
                refine zz_iconst zd_14_22_152 ?_
                refine zz_isub zd_14_22_153 ?_
                refine zz_callVV [.ref 1088, zi 0, zi (S0 1087 5), zi (v56 - 1)] zd_14_22_154 zk_Md_227 zT_1079 (zz_ltn hn rfl) rfl rfl ⟨Nat.le_of_ble_eq_true rfl, Nat.le_of_ble_eq_true rfl⟩ ⟨rfl, rfl⟩ (Nat.zero_le _) (Nat.zero_le _) (zc_reach_14_20x_1088_0 (S0 1087 5) (v56 - 1) S42 n hn G_S42 (by omega) (by omega)) (fun S57 hP => ?_)
                obtain ⟨G_S57, fS57, o59, o60⟩ := hP
                have F_S57 := zz_fr.trans F_S42 fS57 rfl zz_nv
                refine zz_aload_n (x := 1079) rfl zd_14_22_157 ?_
                refine zz_aload_n (x := 1079) rfl zd_14_22_158 ?_
                refine zz_getr (kd := 0) (z := 1089) zd_14_22_159 zf_Md_42 zT_1079 rfl (zz_ltn hn rfl) (zz_G.eq G_S57 1079 13 1089 rfl rfl) (by decide) 1089 rfl ?_
                refine zz_aload_n (x := 1079) rfl zd_14_22_162 ?_
                refine zz_getr (kd := 0) (z := 1087) zd_14_22_163 zf_Md_36 zT_1079 rfl (zz_ltn hn rfl) (zz_G.eq G_S57 1079 11 1087 rfl rfl) (by decide) 1087 rfl ?_
                refine zz_iconst zd_14_22_166 ?_
                refine zz_iald (z := S0 1087 0) zd_14_22_167 zT_1087 rfl (zz_ltn hn rfl) (by decide) (by decide) (zz_rc fS57 rfl rfl (fun h => h) (zz_rc fS42 rfl rfl (fun h => h) (zz_rc fS38 rfl rfl (fun h => h) (zz_rc fS33 rfl rfl (fun h => h) (zz_rc fS29 rfl rfl (fun h => h) (zz_rc fS24 rfl rfl (fun h => h) (zz_rc fS20 rfl rfl (fun h => h) (zz_rc fS15 rfl rfl (fun h => h) (zz_rc fS11 rfl rfl (fun h => h) (zz_rc fS6 rfl rfl (fun h => h) (zz_rc fS2 rfl rfl (fun h => h) rfl))))))))))) ?_
                refine zz_eqv (v := 1) (by omega) ?_
                refine zz_iload_n (x := S0 1087 8) rfl zd_14_22_168 ?_
                refine zz_aload_n (x := 1079) rfl zd_14_22_169 ?_
                refine zz_iload_n (x := S0 1087 8) rfl zd_14_22_170 ?_
                refine zz_iload_n (x := S0 1087 7) rfl zd_14_22_171 ?_
                have e61 : S57 1087 6 = S0 1087 6 := (zz_rc fS57 rfl rfl (fun h => h) (zz_rc fS42 rfl rfl (fun h => h) (zz_rc fS38 rfl rfl (fun h => h) (zz_rc fS33 rfl rfl (fun h => h) (zz_rc fS29 rfl rfl (fun h => h) (zz_rc fS24 rfl rfl (fun h => h) (zz_rc fS20 rfl rfl (fun h => h) (zz_rc fS15 rfl rfl (fun h => h) (zz_rc fS11 rfl rfl (fun h => h) (zz_rc fS6 rfl rfl (fun h => h) (zz_rc fS2 rfl rfl (fun h => h) rfl)))))))))))
                have g62 := zz_G.r G_S0 1079 1 2 8 rfl rfl
                have e63 : S57 1079 1 = S0 1079 1 := (zz_rc fS57 rfl rfl (fun h => h) (zz_rc fS42 rfl rfl (fun h => h) (zz_rc fS38 rfl rfl (fun h => h) (zz_rc fS33 rfl rfl (fun h => h) (zz_rc fS29 rfl rfl (fun h => h) (zz_rc fS24 rfl rfl (fun h => h) (zz_rc fS20 rfl rfl (fun h => h) (zz_rc fS15 rfl rfl (fun h => h) (zz_rc fS11 rfl rfl (fun h => h) (zz_rc fS6 rfl rfl (fun h => h) (zz_rc fS2 rfl rfl (fun h => h) rfl)))))))))))
                refine zz_callVI [zi (S0 1087 8), zi (S0 1087 7)] zd_14_22_172 zk_Md_231 zT_1079 (zz_ltn hn rfl) rfl rfl ⟨Nat.le_of_ble_eq_true rfl, Nat.le_of_ble_eq_true rfl⟩ ⟨rfl, rfl⟩ (Nat.zero_le _) (Nat.zero_le _) (zc_rowsEnd_14_21 (S0 1087 8) (S0 1087 7) S57 n hn G_S57 (by omega) (by omega) (by omega)) (fun v65 S64 hP => ?_)
                obtain ⟨rfl, o66, o67⟩ := hP
                rw [show S57 1087 6 = S0 1087 6 from (zz_rc fS57 rfl rfl (fun h => h) (zz_rc fS42 rfl rfl (fun h => h) (zz_rc fS38 rfl rfl (fun h => h) (zz_rc fS33 rfl rfl (fun h => h) (zz_rc fS29 rfl rfl (fun h => h) (zz_rc fS24 rfl rfl (fun h => h) (zz_rc fS20 rfl rfl (fun h => h) (zz_rc fS15 rfl rfl (fun h => h) (zz_rc fS11 rfl rfl (fun h => h) (zz_rc fS6 rfl rfl (fun h => h) (zz_rc fS2 rfl rfl (fun h => h) rfl))))))))))), show S57 1079 1 = S0 1079 1 from (zz_rc fS57 rfl rfl (fun h => h) (zz_rc fS42 rfl rfl (fun h => h) (zz_rc fS38 rfl rfl (fun h => h) (zz_rc fS33 rfl rfl (fun h => h) (zz_rc fS29 rfl rfl (fun h => h) (zz_rc fS24 rfl rfl (fun h => h) (zz_rc fS20 rfl rfl (fun h => h) (zz_rc fS15 rfl rfl (fun h => h) (zz_rc fS11 rfl rfl (fun h => h) (zz_rc fS6 rfl rfl (fun h => h) (zz_rc fS2 rfl rfl (fun h => h) rfl)))))))))))] at o67
                refine zz_callVV [.ref 1089, zi 1, zi (S0 1087 8), zi v65] zd_14_22_175 zk_Md_227 zT_1079 (zz_ltn hn rfl) rfl rfl ⟨Nat.le_of_ble_eq_true rfl, Nat.le_of_ble_eq_true rfl⟩ ⟨rfl, rfl⟩ (Nat.zero_le _) (Nat.zero_le _) (zc_reach_14_20x_1089_1 (S0 1087 8) v65 S57 n hn G_S57 (by omega) (by omega)) (fun S68 hP => ?_)
                obtain ⟨G_S68, fS68, o70, o71⟩ := hP
                have F_S68 := zz_fr.trans F_S57 fS68 rfl zz_nv
                refine zz_goto zd_14_22_178 ?_
                have g72 := zz_G.r G_S57 1088 1 (-2147483648) 2147483647 rfl rfl
                have e73 : S68 1088 1 = S57 1088 1 := (zz_rc fS68 rfl rfl (fun h => h) rfl)
                have g74 := zz_G.r G_S11 1088 3 (-2147483648) 2147483647 rfl rfl
                have e75 : S68 1088 3 = S11 1088 3 := (zz_rc fS68 rfl rfl (fun h => h) (zz_rc fS57 rfl rfl (fun h => h) (zz_rc fS42 rfl rfl (fun h => h) (zz_rc fS38 rfl rfl (fun h => h) (zz_rc fS33 rfl rfl (fun h => h) (zz_rc fS29 rfl rfl (fun h => h) (zz_rc fS24 rfl rfl (fun h => h) (zz_rc fS20 rfl rfl (fun h => h) (zz_rc fS15 rfl rfl (fun h => h) rfl)))))))))
                have g76 := zz_G.r G_S20 1088 5 (-2147483648) 2147483647 rfl rfl
                have e77 : S68 1088 5 = S20 1088 5 := (zz_rc fS68 rfl rfl (fun h => h) (zz_rc fS57 rfl rfl (fun h => h) (zz_rc fS42 rfl rfl (fun h => h) (zz_rc fS38 rfl rfl (fun h => h) (zz_rc fS33 rfl rfl (fun h => h) (zz_rc fS29 rfl rfl (fun h => h) (zz_rc fS24 rfl rfl (fun h => h) rfl)))))))
                have g78 := zz_G.r G_S29 1088 7 (-2147483648) 2147483647 rfl rfl
                have e79 : S68 1088 7 = S29 1088 7 := (zz_rc fS68 rfl rfl (fun h => h) (zz_rc fS57 rfl rfl (fun h => h) (zz_rc fS42 rfl rfl (fun h => h) (zz_rc fS38 rfl rfl (fun h => h) (zz_rc fS33 rfl rfl (fun h => h) rfl)))))
                have g80 := zz_G.r G_S38 1088 9 (-2147483648) 2147483647 rfl rfl
                have e81 : S68 1088 9 = S38 1088 9 := (zz_rc fS68 rfl rfl (fun h => h) (zz_rc fS57 rfl rfl (fun h => h) (zz_rc fS42 rfl rfl (fun h => h) rfl)))
                have g82 := zz_G.r G_S6 1089 1 (-2147483648) 2147483647 rfl rfl
                have e83 : S68 1089 1 = S6 1089 1 := (zz_rc fS68 rfl rfl (fun h => h) (zz_rc fS57 rfl rfl (fun h => h) (zz_rc fS42 rfl rfl (fun h => h) (zz_rc fS38 rfl rfl (fun h => h) (zz_rc fS33 rfl rfl (fun h => h) (zz_rc fS29 rfl rfl (fun h => h) (zz_rc fS24 rfl rfl (fun h => h) (zz_rc fS20 rfl rfl (fun h => h) (zz_rc fS15 rfl rfl (fun h => h) (zz_rc fS11 rfl rfl (fun h => h) rfl))))))))))
                have g84 := zz_G.r G_S68 1089 3 (-2147483648) 2147483647 rfl rfl
                have g85 := zz_G.r G_S24 1089 5 (-2147483648) 2147483647 rfl rfl
                have e86 : S68 1089 5 = S24 1089 5 := (zz_rc fS68 rfl rfl (fun h => h) (zz_rc fS57 rfl rfl (fun h => h) (zz_rc fS42 rfl rfl (fun h => h) (zz_rc fS38 rfl rfl (fun h => h) (zz_rc fS33 rfl rfl (fun h => h) (zz_rc fS29 rfl rfl (fun h => h) rfl))))))
                have g87 := zz_G.r G_S33 1089 7 (-2147483648) 2147483647 rfl rfl
                have e88 : S68 1089 7 = S33 1089 7 := (zz_rc fS68 rfl rfl (fun h => h) (zz_rc fS57 rfl rfl (fun h => h) (zz_rc fS42 rfl rfl (fun h => h) (zz_rc fS38 rfl rfl (fun h => h) rfl))))
                have g89 := zz_G.r G_S42 1089 9 (-2147483648) 2147483647 rfl rfl
                have e90 : S68 1089 9 = S42 1089 9 := (zz_rc fS68 rfl rfl (fun h => h) (zz_rc fS57 rfl rfl (fun h => h) rfl))
                exact zz_vret zd_14_22_494 rfl (Nat.zero_le _) (Nat.zero_le _) ⟨_, rfl, G_S68, F_S68, by omega, by omega, by omega, by omega, by omega, by omega, by omega, by omega, by omega⟩
              by_cases c91 : S0 1087 0 = 2
              · refine zz_swIn 2 45 c91 (by decide) zd_14_22_91 rfl rfl ?_
                refine zz_aload_n (x := 1079) rfl zd_14_22_136 ?_
                refine zz_aload_n (x := 1079) rfl zd_14_22_137 ?_
                refine zz_getr (kd := 0) (z := 1088) zd_14_22_138 zf_Md_39 zT_1079 rfl (zz_ltn hn rfl) (zz_G.eq G_S42 1079 12 1088 rfl rfl) (by decide) 1088 rfl ?_
                refine zz_iconst zd_14_22_141 ?_
                refine zz_aload_n (x := 1079) rfl zd_14_22_142 ?_
                refine zz_getr (kd := 0) (z := 1087) zd_14_22_143 zf_Md_36 zT_1079 rfl (zz_ltn hn rfl) (zz_G.eq G_S42 1079 11 1087 rfl rfl) (by decide) 1087 rfl ?_
                refine zz_iconst zd_14_22_146 ?_
                refine zz_iald (z := S0 1087 5) zd_14_22_147 zT_1087 rfl (zz_ltn hn rfl) (by decide) (by decide) (zz_rc fS42 rfl rfl (fun h => h) (zz_rc fS38 rfl rfl (fun h => h) (zz_rc fS33 rfl rfl (fun h => h) (zz_rc fS29 rfl rfl (fun h => h) (zz_rc fS24 rfl rfl (fun h => h) (zz_rc fS20 rfl rfl (fun h => h) (zz_rc fS15 rfl rfl (fun h => h) (zz_rc fS11 rfl rfl (fun h => h) (zz_rc fS6 rfl rfl (fun h => h) (zz_rc fS2 rfl rfl (fun h => h) rfl)))))))))) ?_
                refine zz_iload (x := (S0 1087 5) + (((S0 1087 6) - 1) * (S0 1087 10))) rfl zd_14_22_148 ?_
                refine zz_iload_n (x := S0 1087 7) rfl zd_14_22_150 ?_
                refine zz_iadd zd_14_22_151 ?_
                refine zz_nme (fun v92 ev92 => ?_)
                refine zz_iconst zd_14_22_152 ?_
                refine zz_isub zd_14_22_153 ?_
                refine zz_callVV [.ref 1088, zi 0, zi (S0 1087 5), zi (v92 - 1)] zd_14_22_154 zk_Md_227 zT_1079 (zz_ltn hn rfl) rfl rfl ⟨Nat.le_of_ble_eq_true rfl, Nat.le_of_ble_eq_true rfl⟩ ⟨rfl, rfl⟩ (Nat.zero_le _) (Nat.zero_le _) (zc_reach_14_20x_1088_0 (S0 1087 5) (v92 - 1) S42 n hn G_S42 (by omega) (by omega)) (fun S93 hP => ?_)
                obtain ⟨G_S93, fS93, o95, o96⟩ := hP
                have F_S93 := zz_fr.trans F_S42 fS93 rfl zz_nv
                refine zz_aload_n (x := 1079) rfl zd_14_22_157 ?_
                refine zz_aload_n (x := 1079) rfl zd_14_22_158 ?_
                refine zz_getr (kd := 0) (z := 1089) zd_14_22_159 zf_Md_42 zT_1079 rfl (zz_ltn hn rfl) (zz_G.eq G_S93 1079 13 1089 rfl rfl) (by decide) 1089 rfl ?_
                refine zz_aload_n (x := 1079) rfl zd_14_22_162 ?_
                refine zz_getr (kd := 0) (z := 1087) zd_14_22_163 zf_Md_36 zT_1079 rfl (zz_ltn hn rfl) (zz_G.eq G_S93 1079 11 1087 rfl rfl) (by decide) 1087 rfl ?_
                refine zz_iconst zd_14_22_166 ?_
                refine zz_iald (z := S0 1087 0) zd_14_22_167 zT_1087 rfl (zz_ltn hn rfl) (by decide) (by decide) (zz_rc fS93 rfl rfl (fun h => h) (zz_rc fS42 rfl rfl (fun h => h) (zz_rc fS38 rfl rfl (fun h => h) (zz_rc fS33 rfl rfl (fun h => h) (zz_rc fS29 rfl rfl (fun h => h) (zz_rc fS24 rfl rfl (fun h => h) (zz_rc fS20 rfl rfl (fun h => h) (zz_rc fS15 rfl rfl (fun h => h) (zz_rc fS11 rfl rfl (fun h => h) (zz_rc fS6 rfl rfl (fun h => h) (zz_rc fS2 rfl rfl (fun h => h) rfl))))))))))) ?_
                refine zz_eqv (v := 2) (by omega) ?_
                refine zz_iload_n (x := S0 1087 8) rfl zd_14_22_168 ?_
                refine zz_aload_n (x := 1079) rfl zd_14_22_169 ?_
                refine zz_iload_n (x := S0 1087 8) rfl zd_14_22_170 ?_
                refine zz_iload_n (x := S0 1087 7) rfl zd_14_22_171 ?_
                have e97 : S93 1087 6 = S0 1087 6 := (zz_rc fS93 rfl rfl (fun h => h) (zz_rc fS42 rfl rfl (fun h => h) (zz_rc fS38 rfl rfl (fun h => h) (zz_rc fS33 rfl rfl (fun h => h) (zz_rc fS29 rfl rfl (fun h => h) (zz_rc fS24 rfl rfl (fun h => h) (zz_rc fS20 rfl rfl (fun h => h) (zz_rc fS15 rfl rfl (fun h => h) (zz_rc fS11 rfl rfl (fun h => h) (zz_rc fS6 rfl rfl (fun h => h) (zz_rc fS2 rfl rfl (fun h => h) rfl)))))))))))
                have g98 := zz_G.r G_S0 1079 1 2 8 rfl rfl
                have e99 : S93 1079 1 = S0 1079 1 := (zz_rc fS93 rfl rfl (fun h => h) (zz_rc fS42 rfl rfl (fun h => h) (zz_rc fS38 rfl rfl (fun h => h) (zz_rc fS33 rfl rfl (fun h => h) (zz_rc fS29 rfl rfl (fun h => h) (zz_rc fS24 rfl rfl (fun h => h) (zz_rc fS20 rfl rfl (fun h => h) (zz_rc fS15 rfl rfl (fun h => h) (zz_rc fS11 rfl rfl (fun h => h) (zz_rc fS6 rfl rfl (fun h => h) (zz_rc fS2 rfl rfl (fun h => h) rfl)))))))))))
                refine zz_callVI [zi (S0 1087 8), zi (S0 1087 7)] zd_14_22_172 zk_Md_231 zT_1079 (zz_ltn hn rfl) rfl rfl ⟨Nat.le_of_ble_eq_true rfl, Nat.le_of_ble_eq_true rfl⟩ ⟨rfl, rfl⟩ (Nat.zero_le _) (Nat.zero_le _) (zc_rowsEnd_14_21 (S0 1087 8) (S0 1087 7) S93 n hn G_S93 (by omega) (by omega) (by omega)) (fun v101 S100 hP => ?_)
                obtain ⟨rfl, o102, o103⟩ := hP
                rw [show S93 1087 6 = S0 1087 6 from (zz_rc fS93 rfl rfl (fun h => h) (zz_rc fS42 rfl rfl (fun h => h) (zz_rc fS38 rfl rfl (fun h => h) (zz_rc fS33 rfl rfl (fun h => h) (zz_rc fS29 rfl rfl (fun h => h) (zz_rc fS24 rfl rfl (fun h => h) (zz_rc fS20 rfl rfl (fun h => h) (zz_rc fS15 rfl rfl (fun h => h) (zz_rc fS11 rfl rfl (fun h => h) (zz_rc fS6 rfl rfl (fun h => h) (zz_rc fS2 rfl rfl (fun h => h) rfl))))))))))), show S93 1079 1 = S0 1079 1 from (zz_rc fS93 rfl rfl (fun h => h) (zz_rc fS42 rfl rfl (fun h => h) (zz_rc fS38 rfl rfl (fun h => h) (zz_rc fS33 rfl rfl (fun h => h) (zz_rc fS29 rfl rfl (fun h => h) (zz_rc fS24 rfl rfl (fun h => h) (zz_rc fS20 rfl rfl (fun h => h) (zz_rc fS15 rfl rfl (fun h => h) (zz_rc fS11 rfl rfl (fun h => h) (zz_rc fS6 rfl rfl (fun h => h) (zz_rc fS2 rfl rfl (fun h => h) rfl)))))))))))] at o103
                refine zz_callVV [.ref 1089, zi 2, zi (S0 1087 8), zi v101] zd_14_22_175 zk_Md_227 zT_1079 (zz_ltn hn rfl) rfl rfl ⟨Nat.le_of_ble_eq_true rfl, Nat.le_of_ble_eq_true rfl⟩ ⟨rfl, rfl⟩ (Nat.zero_le _) (Nat.zero_le _) (zc_reach_14_20x_1089_2 (S0 1087 8) v101 S93 n hn G_S93 (by omega) (by omega)) (fun S104 hP => ?_)
                obtain ⟨G_S104, fS104, o106, o107⟩ := hP
                have F_S104 := zz_fr.trans F_S93 fS104 rfl zz_nv
                refine zz_goto zd_14_22_178 ?_
                have g108 := zz_G.r G_S93 1088 1 (-2147483648) 2147483647 rfl rfl
                have e109 : S104 1088 1 = S93 1088 1 := (zz_rc fS104 rfl rfl (fun h => h) rfl)
                have g110 := zz_G.r G_S11 1088 3 (-2147483648) 2147483647 rfl rfl
                have e111 : S104 1088 3 = S11 1088 3 := (zz_rc fS104 rfl rfl (fun h => h) (zz_rc fS93 rfl rfl (fun h => h) (zz_rc fS42 rfl rfl (fun h => h) (zz_rc fS38 rfl rfl (fun h => h) (zz_rc fS33 rfl rfl (fun h => h) (zz_rc fS29 rfl rfl (fun h => h) (zz_rc fS24 rfl rfl (fun h => h) (zz_rc fS20 rfl rfl (fun h => h) (zz_rc fS15 rfl rfl (fun h => h) rfl)))))))))
                have g112 := zz_G.r G_S20 1088 5 (-2147483648) 2147483647 rfl rfl
                have e113 : S104 1088 5 = S20 1088 5 := (zz_rc fS104 rfl rfl (fun h => h) (zz_rc fS93 rfl rfl (fun h => h) (zz_rc fS42 rfl rfl (fun h => h) (zz_rc fS38 rfl rfl (fun h => h) (zz_rc fS33 rfl rfl (fun h => h) (zz_rc fS29 rfl rfl (fun h => h) (zz_rc fS24 rfl rfl (fun h => h) rfl)))))))
                have g114 := zz_G.r G_S29 1088 7 (-2147483648) 2147483647 rfl rfl
                have e115 : S104 1088 7 = S29 1088 7 := (zz_rc fS104 rfl rfl (fun h => h) (zz_rc fS93 rfl rfl (fun h => h) (zz_rc fS42 rfl rfl (fun h => h) (zz_rc fS38 rfl rfl (fun h => h) (zz_rc fS33 rfl rfl (fun h => h) rfl)))))
                have g116 := zz_G.r G_S38 1088 9 (-2147483648) 2147483647 rfl rfl
                have e117 : S104 1088 9 = S38 1088 9 := (zz_rc fS104 rfl rfl (fun h => h) (zz_rc fS93 rfl rfl (fun h => h) (zz_rc fS42 rfl rfl (fun h => h) rfl)))
                have g118 := zz_G.r G_S6 1089 1 (-2147483648) 2147483647 rfl rfl
                have e119 : S104 1089 1 = S6 1089 1 := (zz_rc fS104 rfl rfl (fun h => h) (zz_rc fS93 rfl rfl (fun h => h) (zz_rc fS42 rfl rfl (fun h => h) (zz_rc fS38 rfl rfl (fun h => h) (zz_rc fS33 rfl rfl (fun h => h) (zz_rc fS29 rfl rfl (fun h => h) (zz_rc fS24 rfl rfl (fun h => h) (zz_rc fS20 rfl rfl (fun h => h) (zz_rc fS15 rfl rfl (fun h => h) (zz_rc fS11 rfl rfl (fun h => h) rfl))))))))))
                have g120 := zz_G.r G_S15 1089 3 (-2147483648) 2147483647 rfl rfl
                have e121 : S104 1089 3 = S15 1089 3 := (zz_rc fS104 rfl rfl (fun h => h) (zz_rc fS93 rfl rfl (fun h => h) (zz_rc fS42 rfl rfl (fun h => h) (zz_rc fS38 rfl rfl (fun h => h) (zz_rc fS33 rfl rfl (fun h => h) (zz_rc fS29 rfl rfl (fun h => h) (zz_rc fS24 rfl rfl (fun h => h) (zz_rc fS20 rfl rfl (fun h => h) rfl))))))))
                have g122 := zz_G.r G_S104 1089 5 (-2147483648) 2147483647 rfl rfl
                have g123 := zz_G.r G_S33 1089 7 (-2147483648) 2147483647 rfl rfl
                have e124 : S104 1089 7 = S33 1089 7 := (zz_rc fS104 rfl rfl (fun h => h) (zz_rc fS93 rfl rfl (fun h => h) (zz_rc fS42 rfl rfl (fun h => h) (zz_rc fS38 rfl rfl (fun h => h) rfl))))
                have g125 := zz_G.r G_S42 1089 9 (-2147483648) 2147483647 rfl rfl
                have e126 : S104 1089 9 = S42 1089 9 := (zz_rc fS104 rfl rfl (fun h => h) (zz_rc fS93 rfl rfl (fun h => h) rfl))
                exact zz_vret zd_14_22_494 rfl (Nat.zero_le _) (Nat.zero_le _) ⟨_, rfl, G_S104, F_S104, by omega, by omega, by omega, by omega, by omega, by omega, by omega, by omega, by omega⟩
              by_cases c127 : S0 1087 0 = 3
              · refine zz_swIn 3 90 c127 (by decide) zd_14_22_91 rfl rfl ?_
                refine zz_aload_n (x := 1079) rfl zd_14_22_181 ?_
                refine zz_aload_n (x := 1079) rfl zd_14_22_182 ?_
                refine zz_getr (kd := 0) (z := 1089) zd_14_22_183 zf_Md_42 zT_1079 rfl (zz_ltn hn rfl) (zz_G.eq G_S42 1079 13 1089 rfl rfl) (by decide) 1089 rfl ?_
                refine zz_iconst zd_14_22_186 ?_
                refine zz_iload_n (x := S0 1087 8) rfl zd_14_22_187 ?_
                refine zz_aload_n (x := 1079) rfl zd_14_22_188 ?_
                refine zz_iload_n (x := S0 1087 8) rfl zd_14_22_189 ?_
                refine zz_iload_n (x := S0 1087 7) rfl zd_14_22_190 ?_
                have e128 : S42 1087 6 = S0 1087 6 := (zz_rc fS42 rfl rfl (fun h => h) (zz_rc fS38 rfl rfl (fun h => h) (zz_rc fS33 rfl rfl (fun h => h) (zz_rc fS29 rfl rfl (fun h => h) (zz_rc fS24 rfl rfl (fun h => h) (zz_rc fS20 rfl rfl (fun h => h) (zz_rc fS15 rfl rfl (fun h => h) (zz_rc fS11 rfl rfl (fun h => h) (zz_rc fS6 rfl rfl (fun h => h) (zz_rc fS2 rfl rfl (fun h => h) rfl))))))))))
                have g129 := zz_G.r G_S0 1079 1 2 8 rfl rfl
                have e130 : S42 1079 1 = S0 1079 1 := (zz_rc fS42 rfl rfl (fun h => h) (zz_rc fS38 rfl rfl (fun h => h) (zz_rc fS33 rfl rfl (fun h => h) (zz_rc fS29 rfl rfl (fun h => h) (zz_rc fS24 rfl rfl (fun h => h) (zz_rc fS20 rfl rfl (fun h => h) (zz_rc fS15 rfl rfl (fun h => h) (zz_rc fS11 rfl rfl (fun h => h) (zz_rc fS6 rfl rfl (fun h => h) (zz_rc fS2 rfl rfl (fun h => h) rfl))))))))))
                refine zz_callVI [zi (S0 1087 8), zi (S0 1087 7)] zd_14_22_191 zk_Md_231 zT_1079 (zz_ltn hn rfl) rfl rfl ⟨Nat.le_of_ble_eq_true rfl, Nat.le_of_ble_eq_true rfl⟩ ⟨rfl, rfl⟩ (Nat.zero_le _) (Nat.zero_le _) (zc_rowsEnd_14_21 (S0 1087 8) (S0 1087 7) S42 n hn G_S42 (by omega) (by omega) (by omega)) (fun v132 S131 hP => ?_)
                obtain ⟨rfl, o133, o134⟩ := hP
                rw [show S42 1087 6 = S0 1087 6 from (zz_rc fS42 rfl rfl (fun h => h) (zz_rc fS38 rfl rfl (fun h => h) (zz_rc fS33 rfl rfl (fun h => h) (zz_rc fS29 rfl rfl (fun h => h) (zz_rc fS24 rfl rfl (fun h => h) (zz_rc fS20 rfl rfl (fun h => h) (zz_rc fS15 rfl rfl (fun h => h) (zz_rc fS11 rfl rfl (fun h => h) (zz_rc fS6 rfl rfl (fun h => h) (zz_rc fS2 rfl rfl (fun h => h) rfl)))))))))), show S42 1079 1 = S0 1079 1 from (zz_rc fS42 rfl rfl (fun h => h) (zz_rc fS38 rfl rfl (fun h => h) (zz_rc fS33 rfl rfl (fun h => h) (zz_rc fS29 rfl rfl (fun h => h) (zz_rc fS24 rfl rfl (fun h => h) (zz_rc fS20 rfl rfl (fun h => h) (zz_rc fS15 rfl rfl (fun h => h) (zz_rc fS11 rfl rfl (fun h => h) (zz_rc fS6 rfl rfl (fun h => h) (zz_rc fS2 rfl rfl (fun h => h) rfl))))))))))] at o134
                refine zz_callVV [.ref 1089, zi 1, zi (S0 1087 8), zi v132] zd_14_22_194 zk_Md_227 zT_1079 (zz_ltn hn rfl) rfl rfl ⟨Nat.le_of_ble_eq_true rfl, Nat.le_of_ble_eq_true rfl⟩ ⟨rfl, rfl⟩ (Nat.zero_le _) (Nat.zero_le _) (zc_reach_14_20x_1089_1 (S0 1087 8) v132 S42 n hn G_S42 (by omega) (by omega)) (fun S135 hP => ?_)
                obtain ⟨G_S135, fS135, o137, o138⟩ := hP
                have F_S135 := zz_fr.trans F_S42 fS135 rfl zz_nv
                refine zz_goto zd_14_22_197 ?_
                have g139 := zz_G.r G_S2 1088 1 (-2147483648) 2147483647 rfl rfl
                have e140 : S135 1088 1 = S2 1088 1 := (zz_rc fS135 rfl rfl (fun h => h) (zz_rc fS42 rfl rfl (fun h => h) (zz_rc fS38 rfl rfl (fun h => h) (zz_rc fS33 rfl rfl (fun h => h) (zz_rc fS29 rfl rfl (fun h => h) (zz_rc fS24 rfl rfl (fun h => h) (zz_rc fS20 rfl rfl (fun h => h) (zz_rc fS15 rfl rfl (fun h => h) (zz_rc fS11 rfl rfl (fun h => h) (zz_rc fS6 rfl rfl (fun h => h) rfl))))))))))
                have g141 := zz_G.r G_S11 1088 3 (-2147483648) 2147483647 rfl rfl
                have e142 : S135 1088 3 = S11 1088 3 := (zz_rc fS135 rfl rfl (fun h => h) (zz_rc fS42 rfl rfl (fun h => h) (zz_rc fS38 rfl rfl (fun h => h) (zz_rc fS33 rfl rfl (fun h => h) (zz_rc fS29 rfl rfl (fun h => h) (zz_rc fS24 rfl rfl (fun h => h) (zz_rc fS20 rfl rfl (fun h => h) (zz_rc fS15 rfl rfl (fun h => h) rfl))))))))
                have g143 := zz_G.r G_S20 1088 5 (-2147483648) 2147483647 rfl rfl
                have e144 : S135 1088 5 = S20 1088 5 := (zz_rc fS135 rfl rfl (fun h => h) (zz_rc fS42 rfl rfl (fun h => h) (zz_rc fS38 rfl rfl (fun h => h) (zz_rc fS33 rfl rfl (fun h => h) (zz_rc fS29 rfl rfl (fun h => h) (zz_rc fS24 rfl rfl (fun h => h) rfl))))))
                have g145 := zz_G.r G_S29 1088 7 (-2147483648) 2147483647 rfl rfl
                have e146 : S135 1088 7 = S29 1088 7 := (zz_rc fS135 rfl rfl (fun h => h) (zz_rc fS42 rfl rfl (fun h => h) (zz_rc fS38 rfl rfl (fun h => h) (zz_rc fS33 rfl rfl (fun h => h) rfl))))
                have g147 := zz_G.r G_S38 1088 9 (-2147483648) 2147483647 rfl rfl
                have e148 : S135 1088 9 = S38 1088 9 := (zz_rc fS135 rfl rfl (fun h => h) (zz_rc fS42 rfl rfl (fun h => h) rfl))
                have g149 := zz_G.r G_S6 1089 1 (-2147483648) 2147483647 rfl rfl
                have e150 : S135 1089 1 = S6 1089 1 := (zz_rc fS135 rfl rfl (fun h => h) (zz_rc fS42 rfl rfl (fun h => h) (zz_rc fS38 rfl rfl (fun h => h) (zz_rc fS33 rfl rfl (fun h => h) (zz_rc fS29 rfl rfl (fun h => h) (zz_rc fS24 rfl rfl (fun h => h) (zz_rc fS20 rfl rfl (fun h => h) (zz_rc fS15 rfl rfl (fun h => h) (zz_rc fS11 rfl rfl (fun h => h) rfl)))))))))
                have g151 := zz_G.r G_S135 1089 3 (-2147483648) 2147483647 rfl rfl
                have g152 := zz_G.r G_S24 1089 5 (-2147483648) 2147483647 rfl rfl
                have e153 : S135 1089 5 = S24 1089 5 := (zz_rc fS135 rfl rfl (fun h => h) (zz_rc fS42 rfl rfl (fun h => h) (zz_rc fS38 rfl rfl (fun h => h) (zz_rc fS33 rfl rfl (fun h => h) (zz_rc fS29 rfl rfl (fun h => h) rfl)))))
                have g154 := zz_G.r G_S33 1089 7 (-2147483648) 2147483647 rfl rfl
                have e155 : S135 1089 7 = S33 1089 7 := (zz_rc fS135 rfl rfl (fun h => h) (zz_rc fS42 rfl rfl (fun h => h) (zz_rc fS38 rfl rfl (fun h => h) rfl)))
                have g156 := zz_G.r G_S42 1089 9 (-2147483648) 2147483647 rfl rfl
                have e157 : S135 1089 9 = S42 1089 9 := (zz_rc fS135 rfl rfl (fun h => h) rfl)
                exact zz_vret zd_14_22_494 rfl (Nat.zero_le _) (Nat.zero_le _) ⟨_, rfl, G_S135, F_S135, by omega, by omega, by omega, by omega, by omega, by omega, by omega, by omega, by omega⟩
              by_cases c158 : S0 1087 0 = 4
              · refine zz_swIn 4 109 c158 (by decide) zd_14_22_91 rfl rfl ?_
                refine zz_aload_n (x := 1079) rfl zd_14_22_200 ?_
                refine zz_aload_n (x := 1079) rfl zd_14_22_201 ?_
                refine zz_getr (kd := 0) (z := 1088) zd_14_22_202 zf_Md_39 zT_1079 rfl (zz_ltn hn rfl) (zz_G.eq G_S42 1079 12 1088 rfl rfl) (by decide) 1088 rfl ?_
                refine zz_iconst zd_14_22_205 ?_
                refine zz_aload_n (x := 1079) rfl zd_14_22_206 ?_
                refine zz_getr (kd := 0) (z := 1087) zd_14_22_207 zf_Md_36 zT_1079 rfl (zz_ltn hn rfl) (zz_G.eq G_S42 1079 11 1087 rfl rfl) (by decide) 1087 rfl ?_
                refine zz_iconst zd_14_22_210 ?_
                refine zz_iald (z := S0 1087 5) zd_14_22_211 zT_1087 rfl (zz_ltn hn rfl) (by decide) (by decide) (zz_rc fS42 rfl rfl (fun h => h) (zz_rc fS38 rfl rfl (fun h => h) (zz_rc fS33 rfl rfl (fun h => h) (zz_rc fS29 rfl rfl (fun h => h) (zz_rc fS24 rfl rfl (fun h => h) (zz_rc fS20 rfl rfl (fun h => h) (zz_rc fS15 rfl rfl (fun h => h) (zz_rc fS11 rfl rfl (fun h => h) (zz_rc fS6 rfl rfl (fun h => h) (zz_rc fS2 rfl rfl (fun h => h) rfl)))))))))) ?_
                refine zz_iload (x := (S0 1087 5) + (((S0 1087 6) - 1) * (S0 1087 10))) rfl zd_14_22_212 ?_
                refine zz_iconst zd_14_22_214 ?_
                refine zz_iload_n (x := S0 1087 7) rfl zd_14_22_215 ?_
                refine zz_imul zd_14_22_216 ?_
                refine zz_iadd zd_14_22_217 ?_
                refine zz_nme (fun v159 ev159 => ?_)
                refine zz_iconst zd_14_22_218 ?_
                refine zz_isub zd_14_22_219 ?_
                refine zz_callVV [.ref 1088, zi 0, zi (S0 1087 5), zi (v159 - 1)] zd_14_22_220 zk_Md_227 zT_1079 (zz_ltn hn rfl) rfl rfl ⟨Nat.le_of_ble_eq_true rfl, Nat.le_of_ble_eq_true rfl⟩ ⟨rfl, rfl⟩ (Nat.zero_le _) (Nat.zero_le _) (zc_reach_14_20x_1088_0 (S0 1087 5) (v159 - 1) S42 n hn G_S42 (by omega) (by omega)) (fun S160 hP => ?_)
                obtain ⟨G_S160, fS160, o162, o163⟩ := hP
                have F_S160 := zz_fr.trans F_S42 fS160 rfl zz_nv
                refine zz_aload_n (x := 1079) rfl zd_14_22_223 ?_
                refine zz_aload_n (x := 1079) rfl zd_14_22_224 ?_
                refine zz_getr (kd := 0) (z := 1089) zd_14_22_225 zf_Md_42 zT_1079 rfl (zz_ltn hn rfl) (zz_G.eq G_S160 1079 13 1089 rfl rfl) (by decide) 1089 rfl ?_
                refine zz_iconst zd_14_22_228 ?_
                refine zz_iload_n (x := S0 1087 8) rfl zd_14_22_229 ?_
                refine zz_aload_n (x := 1079) rfl zd_14_22_230 ?_
                refine zz_iload_n (x := S0 1087 8) rfl zd_14_22_231 ?_
                refine zz_iload_n (x := S0 1087 7) rfl zd_14_22_232 ?_
                have e164 : S160 1087 6 = S0 1087 6 := (zz_rc fS160 rfl rfl (fun h => h) (zz_rc fS42 rfl rfl (fun h => h) (zz_rc fS38 rfl rfl (fun h => h) (zz_rc fS33 rfl rfl (fun h => h) (zz_rc fS29 rfl rfl (fun h => h) (zz_rc fS24 rfl rfl (fun h => h) (zz_rc fS20 rfl rfl (fun h => h) (zz_rc fS15 rfl rfl (fun h => h) (zz_rc fS11 rfl rfl (fun h => h) (zz_rc fS6 rfl rfl (fun h => h) (zz_rc fS2 rfl rfl (fun h => h) rfl)))))))))))
                have g165 := zz_G.r G_S0 1079 1 2 8 rfl rfl
                have e166 : S160 1079 1 = S0 1079 1 := (zz_rc fS160 rfl rfl (fun h => h) (zz_rc fS42 rfl rfl (fun h => h) (zz_rc fS38 rfl rfl (fun h => h) (zz_rc fS33 rfl rfl (fun h => h) (zz_rc fS29 rfl rfl (fun h => h) (zz_rc fS24 rfl rfl (fun h => h) (zz_rc fS20 rfl rfl (fun h => h) (zz_rc fS15 rfl rfl (fun h => h) (zz_rc fS11 rfl rfl (fun h => h) (zz_rc fS6 rfl rfl (fun h => h) (zz_rc fS2 rfl rfl (fun h => h) rfl)))))))))))
                refine zz_callVI [zi (S0 1087 8), zi (S0 1087 7)] zd_14_22_233 zk_Md_231 zT_1079 (zz_ltn hn rfl) rfl rfl ⟨Nat.le_of_ble_eq_true rfl, Nat.le_of_ble_eq_true rfl⟩ ⟨rfl, rfl⟩ (Nat.zero_le _) (Nat.zero_le _) (zc_rowsEnd_14_21 (S0 1087 8) (S0 1087 7) S160 n hn G_S160 (by omega) (by omega) (by omega)) (fun v168 S167 hP => ?_)
                obtain ⟨rfl, o169, o170⟩ := hP
                rw [show S160 1087 6 = S0 1087 6 from (zz_rc fS160 rfl rfl (fun h => h) (zz_rc fS42 rfl rfl (fun h => h) (zz_rc fS38 rfl rfl (fun h => h) (zz_rc fS33 rfl rfl (fun h => h) (zz_rc fS29 rfl rfl (fun h => h) (zz_rc fS24 rfl rfl (fun h => h) (zz_rc fS20 rfl rfl (fun h => h) (zz_rc fS15 rfl rfl (fun h => h) (zz_rc fS11 rfl rfl (fun h => h) (zz_rc fS6 rfl rfl (fun h => h) (zz_rc fS2 rfl rfl (fun h => h) rfl))))))))))), show S160 1079 1 = S0 1079 1 from (zz_rc fS160 rfl rfl (fun h => h) (zz_rc fS42 rfl rfl (fun h => h) (zz_rc fS38 rfl rfl (fun h => h) (zz_rc fS33 rfl rfl (fun h => h) (zz_rc fS29 rfl rfl (fun h => h) (zz_rc fS24 rfl rfl (fun h => h) (zz_rc fS20 rfl rfl (fun h => h) (zz_rc fS15 rfl rfl (fun h => h) (zz_rc fS11 rfl rfl (fun h => h) (zz_rc fS6 rfl rfl (fun h => h) (zz_rc fS2 rfl rfl (fun h => h) rfl)))))))))))] at o170
                refine zz_callVV [.ref 1089, zi 3, zi (S0 1087 8), zi v168] zd_14_22_236 zk_Md_227 zT_1079 (zz_ltn hn rfl) rfl rfl ⟨Nat.le_of_ble_eq_true rfl, Nat.le_of_ble_eq_true rfl⟩ ⟨rfl, rfl⟩ (Nat.zero_le _) (Nat.zero_le _) (zc_reach_14_20x_1089_3 (S0 1087 8) v168 S160 n hn G_S160 (by omega) (by omega)) (fun S171 hP => ?_)
                obtain ⟨G_S171, fS171, o173, o174⟩ := hP
                have F_S171 := zz_fr.trans F_S160 fS171 rfl zz_nv
                refine zz_goto zd_14_22_239 ?_
                have g175 := zz_G.r G_S160 1088 1 (-2147483648) 2147483647 rfl rfl
                have e176 : S171 1088 1 = S160 1088 1 := (zz_rc fS171 rfl rfl (fun h => h) rfl)
                have g177 := zz_G.r G_S11 1088 3 (-2147483648) 2147483647 rfl rfl
                have e178 : S171 1088 3 = S11 1088 3 := (zz_rc fS171 rfl rfl (fun h => h) (zz_rc fS160 rfl rfl (fun h => h) (zz_rc fS42 rfl rfl (fun h => h) (zz_rc fS38 rfl rfl (fun h => h) (zz_rc fS33 rfl rfl (fun h => h) (zz_rc fS29 rfl rfl (fun h => h) (zz_rc fS24 rfl rfl (fun h => h) (zz_rc fS20 rfl rfl (fun h => h) (zz_rc fS15 rfl rfl (fun h => h) rfl)))))))))
                have g179 := zz_G.r G_S20 1088 5 (-2147483648) 2147483647 rfl rfl
                have e180 : S171 1088 5 = S20 1088 5 := (zz_rc fS171 rfl rfl (fun h => h) (zz_rc fS160 rfl rfl (fun h => h) (zz_rc fS42 rfl rfl (fun h => h) (zz_rc fS38 rfl rfl (fun h => h) (zz_rc fS33 rfl rfl (fun h => h) (zz_rc fS29 rfl rfl (fun h => h) (zz_rc fS24 rfl rfl (fun h => h) rfl)))))))
                have g181 := zz_G.r G_S29 1088 7 (-2147483648) 2147483647 rfl rfl
                have e182 : S171 1088 7 = S29 1088 7 := (zz_rc fS171 rfl rfl (fun h => h) (zz_rc fS160 rfl rfl (fun h => h) (zz_rc fS42 rfl rfl (fun h => h) (zz_rc fS38 rfl rfl (fun h => h) (zz_rc fS33 rfl rfl (fun h => h) rfl)))))
                have g183 := zz_G.r G_S38 1088 9 (-2147483648) 2147483647 rfl rfl
                have e184 : S171 1088 9 = S38 1088 9 := (zz_rc fS171 rfl rfl (fun h => h) (zz_rc fS160 rfl rfl (fun h => h) (zz_rc fS42 rfl rfl (fun h => h) rfl)))
                have g185 := zz_G.r G_S6 1089 1 (-2147483648) 2147483647 rfl rfl
                have e186 : S171 1089 1 = S6 1089 1 := (zz_rc fS171 rfl rfl (fun h => h) (zz_rc fS160 rfl rfl (fun h => h) (zz_rc fS42 rfl rfl (fun h => h) (zz_rc fS38 rfl rfl (fun h => h) (zz_rc fS33 rfl rfl (fun h => h) (zz_rc fS29 rfl rfl (fun h => h) (zz_rc fS24 rfl rfl (fun h => h) (zz_rc fS20 rfl rfl (fun h => h) (zz_rc fS15 rfl rfl (fun h => h) (zz_rc fS11 rfl rfl (fun h => h) rfl))))))))))
                have g187 := zz_G.r G_S15 1089 3 (-2147483648) 2147483647 rfl rfl
                have e188 : S171 1089 3 = S15 1089 3 := (zz_rc fS171 rfl rfl (fun h => h) (zz_rc fS160 rfl rfl (fun h => h) (zz_rc fS42 rfl rfl (fun h => h) (zz_rc fS38 rfl rfl (fun h => h) (zz_rc fS33 rfl rfl (fun h => h) (zz_rc fS29 rfl rfl (fun h => h) (zz_rc fS24 rfl rfl (fun h => h) (zz_rc fS20 rfl rfl (fun h => h) rfl))))))))
                have g189 := zz_G.r G_S24 1089 5 (-2147483648) 2147483647 rfl rfl
                have e190 : S171 1089 5 = S24 1089 5 := (zz_rc fS171 rfl rfl (fun h => h) (zz_rc fS160 rfl rfl (fun h => h) (zz_rc fS42 rfl rfl (fun h => h) (zz_rc fS38 rfl rfl (fun h => h) (zz_rc fS33 rfl rfl (fun h => h) (zz_rc fS29 rfl rfl (fun h => h) rfl))))))
                have g191 := zz_G.r G_S171 1089 7 (-2147483648) 2147483647 rfl rfl
                have g192 := zz_G.r G_S42 1089 9 (-2147483648) 2147483647 rfl rfl
                have e193 : S171 1089 9 = S42 1089 9 := (zz_rc fS171 rfl rfl (fun h => h) (zz_rc fS160 rfl rfl (fun h => h) rfl))
                exact zz_vret zd_14_22_494 rfl (Nat.zero_le _) (Nat.zero_le _) ⟨_, rfl, G_S171, F_S171, by omega, by omega, by omega, by omega, by omega, by omega, by omega, by omega, by omega⟩
              by_cases c194 : S0 1087 0 = 5
              · refine zz_swIn 5 151 c194 (by decide) zd_14_22_91 rfl rfl ?_
                refine zz_aload_n (x := 1079) rfl zd_14_22_242 ?_
                refine zz_aload_n (x := 1079) rfl zd_14_22_243 ?_
                refine zz_getr (kd := 0) (z := 1088) zd_14_22_244 zf_Md_39 zT_1079 rfl (zz_ltn hn rfl) (zz_G.eq G_S42 1079 12 1088 rfl rfl) (by decide) 1088 rfl ?_
                refine zz_iconst zd_14_22_247 ?_
                refine zz_iload_n (x := S0 1087 8) rfl zd_14_22_248 ?_
                refine zz_aload_n (x := 1079) rfl zd_14_22_249 ?_
                refine zz_iload_n (x := S0 1087 8) rfl zd_14_22_250 ?_
                refine zz_aload_n (x := 1079) rfl zd_14_22_251 ?_
                refine zz_getr (kd := 0) (z := 1087) zd_14_22_252 zf_Md_36 zT_1079 rfl (zz_ltn hn rfl) (zz_G.eq G_S42 1079 11 1087 rfl rfl) (by decide) 1087 rfl ?_
                refine zz_bipush (by decide) zd_14_22_255 ?_
                have g195 := zz_G.r G_S0 1087 11 (-2147483648) 2147483647 rfl rfl
                refine zz_iald (z := S0 1087 11) zd_14_22_257 zT_1087 rfl (zz_ltn hn rfl) (by decide) (by decide) (zz_rc fS42 rfl rfl (fun h => h) (zz_rc fS38 rfl rfl (fun h => h) (zz_rc fS33 rfl rfl (fun h => h) (zz_rc fS29 rfl rfl (fun h => h) (zz_rc fS24 rfl rfl (fun h => h) (zz_rc fS20 rfl rfl (fun h => h) (zz_rc fS15 rfl rfl (fun h => h) (zz_rc fS11 rfl rfl (fun h => h) (zz_rc fS6 rfl rfl (fun h => h) (zz_rc fS2 rfl rfl (fun h => h) rfl)))))))))) ?_
                refine zz_iconst zd_14_22_258 ?_
                refine zz_idiv (by omega) (by omega) zd_14_22_259 (fun v196 hv196 av196 bv196 cv196 => ?_)
                obtain rfl : v196 = (S0 1087 11) / 2 := by omega
                have e197 : S42 1087 6 = S0 1087 6 := (zz_rc fS42 rfl rfl (fun h => h) (zz_rc fS38 rfl rfl (fun h => h) (zz_rc fS33 rfl rfl (fun h => h) (zz_rc fS29 rfl rfl (fun h => h) (zz_rc fS24 rfl rfl (fun h => h) (zz_rc fS20 rfl rfl (fun h => h) (zz_rc fS15 rfl rfl (fun h => h) (zz_rc fS11 rfl rfl (fun h => h) (zz_rc fS6 rfl rfl (fun h => h) (zz_rc fS2 rfl rfl (fun h => h) rfl))))))))))
                have g198 := zz_G.r G_S0 1079 1 2 8 rfl rfl
                have e199 : S42 1079 1 = S0 1079 1 := (zz_rc fS42 rfl rfl (fun h => h) (zz_rc fS38 rfl rfl (fun h => h) (zz_rc fS33 rfl rfl (fun h => h) (zz_rc fS29 rfl rfl (fun h => h) (zz_rc fS24 rfl rfl (fun h => h) (zz_rc fS20 rfl rfl (fun h => h) (zz_rc fS15 rfl rfl (fun h => h) (zz_rc fS11 rfl rfl (fun h => h) (zz_rc fS6 rfl rfl (fun h => h) (zz_rc fS2 rfl rfl (fun h => h) rfl))))))))))
                refine zz_callVI [zi (S0 1087 8), zi ((S0 1087 11) / 2)] zd_14_22_260 zk_Md_231 zT_1079 (zz_ltn hn rfl) rfl rfl ⟨Nat.le_of_ble_eq_true rfl, Nat.le_of_ble_eq_true rfl⟩ ⟨rfl, rfl⟩ (Nat.zero_le _) (Nat.zero_le _) (zc_rowsEnd_14_21 (S0 1087 8) ((S0 1087 11) / 2) S42 n hn G_S42 (by omega) (by omega) (by omega)) (fun v201 S200 hP => ?_)
                obtain ⟨rfl, o202, o203⟩ := hP
                rw [show S42 1087 6 = S0 1087 6 from (zz_rc fS42 rfl rfl (fun h => h) (zz_rc fS38 rfl rfl (fun h => h) (zz_rc fS33 rfl rfl (fun h => h) (zz_rc fS29 rfl rfl (fun h => h) (zz_rc fS24 rfl rfl (fun h => h) (zz_rc fS20 rfl rfl (fun h => h) (zz_rc fS15 rfl rfl (fun h => h) (zz_rc fS11 rfl rfl (fun h => h) (zz_rc fS6 rfl rfl (fun h => h) (zz_rc fS2 rfl rfl (fun h => h) rfl)))))))))), show S42 1079 1 = S0 1079 1 from (zz_rc fS42 rfl rfl (fun h => h) (zz_rc fS38 rfl rfl (fun h => h) (zz_rc fS33 rfl rfl (fun h => h) (zz_rc fS29 rfl rfl (fun h => h) (zz_rc fS24 rfl rfl (fun h => h) (zz_rc fS20 rfl rfl (fun h => h) (zz_rc fS15 rfl rfl (fun h => h) (zz_rc fS11 rfl rfl (fun h => h) (zz_rc fS6 rfl rfl (fun h => h) (zz_rc fS2 rfl rfl (fun h => h) rfl))))))))))] at o203
                refine zz_callVV [.ref 1088, zi 1, zi (S0 1087 8), zi v201] zd_14_22_263 zk_Md_227 zT_1079 (zz_ltn hn rfl) rfl rfl ⟨Nat.le_of_ble_eq_true rfl, Nat.le_of_ble_eq_true rfl⟩ ⟨rfl, rfl⟩ (Nat.zero_le _) (Nat.zero_le _) (zc_reach_14_20x_1088_1 (S0 1087 8) v201 S42 n hn G_S42 (by omega) (by omega)) (fun S204 hP => ?_)
                obtain ⟨G_S204, fS204, o206, o207⟩ := hP
                have F_S204 := zz_fr.trans F_S42 fS204 rfl zz_nv
                refine zz_aload_n (x := 1079) rfl zd_14_22_266 ?_
                refine zz_aload_n (x := 1079) rfl zd_14_22_267 ?_
                refine zz_getr (kd := 0) (z := 1088) zd_14_22_268 zf_Md_39 zT_1079 rfl (zz_ltn hn rfl) (zz_G.eq G_S204 1079 12 1088 rfl rfl) (by decide) 1088 rfl ?_
                refine zz_iconst zd_14_22_271 ?_
                refine zz_aload_n (x := 1079) rfl zd_14_22_272 ?_
                refine zz_getr (kd := 0) (z := 1087) zd_14_22_273 zf_Md_36 zT_1079 rfl (zz_ltn hn rfl) (zz_G.eq G_S204 1079 11 1087 rfl rfl) (by decide) 1087 rfl ?_
                refine zz_bipush (by decide) zd_14_22_276 ?_
                refine zz_iald (z := S0 1087 10) zd_14_22_278 zT_1087 rfl (zz_ltn hn rfl) (by decide) (by decide) (zz_rc fS204 rfl rfl (fun h => h) (zz_rc fS42 rfl rfl (fun h => h) (zz_rc fS38 rfl rfl (fun h => h) (zz_rc fS33 rfl rfl (fun h => h) (zz_rc fS29 rfl rfl (fun h => h) (zz_rc fS24 rfl rfl (fun h => h) (zz_rc fS20 rfl rfl (fun h => h) (zz_rc fS15 rfl rfl (fun h => h) (zz_rc fS11 rfl rfl (fun h => h) (zz_rc fS6 rfl rfl (fun h => h) (zz_rc fS2 rfl rfl (fun h => h) rfl))))))))))) ?_
                refine zz_aload_n (x := 1079) rfl zd_14_22_279 ?_
                refine zz_getr (kd := 0) (z := 1087) zd_14_22_280 zf_Md_36 zT_1079 rfl (zz_ltn hn rfl) (zz_G.eq G_S204 1079 11 1087 rfl rfl) (by decide) 1087 rfl ?_
                refine zz_bipush (by decide) zd_14_22_283 ?_
                refine zz_iald (z := S0 1087 10) zd_14_22_285 zT_1087 rfl (zz_ltn hn rfl) (by decide) (by decide) (zz_rc fS204 rfl rfl (fun h => h) (zz_rc fS42 rfl rfl (fun h => h) (zz_rc fS38 rfl rfl (fun h => h) (zz_rc fS33 rfl rfl (fun h => h) (zz_rc fS29 rfl rfl (fun h => h) (zz_rc fS24 rfl rfl (fun h => h) (zz_rc fS20 rfl rfl (fun h => h) (zz_rc fS15 rfl rfl (fun h => h) (zz_rc fS11 rfl rfl (fun h => h) (zz_rc fS6 rfl rfl (fun h => h) (zz_rc fS2 rfl rfl (fun h => h) rfl))))))))))) ?_
                refine zz_aload_n (x := 1079) rfl zd_14_22_286 ?_
                refine zz_getr (kd := 0) (z := 1087) zd_14_22_287 zf_Md_36 zT_1079 rfl (zz_ltn hn rfl) (zz_G.eq G_S204 1079 11 1087 rfl rfl) (by decide) 1087 rfl ?_
                refine zz_bipush (by decide) zd_14_22_290 ?_
                refine zz_iald (z := S0 1087 11) zd_14_22_292 zT_1087 rfl (zz_ltn hn rfl) (by decide) (by decide) (zz_rc fS204 rfl rfl (fun h => h) (zz_rc fS42 rfl rfl (fun h => h) (zz_rc fS38 rfl rfl (fun h => h) (zz_rc fS33 rfl rfl (fun h => h) (zz_rc fS29 rfl rfl (fun h => h) (zz_rc fS24 rfl rfl (fun h => h) (zz_rc fS20 rfl rfl (fun h => h) (zz_rc fS15 rfl rfl (fun h => h) (zz_rc fS11 rfl rfl (fun h => h) (zz_rc fS6 rfl rfl (fun h => h) (zz_rc fS2 rfl rfl (fun h => h) rfl))))))))))) ?_
                refine zz_iconst zd_14_22_293 ?_
                refine zz_idiv (by omega) (by omega) zd_14_22_294 (fun v208 hv208 av208 bv208 cv208 => ?_)
                obtain rfl : v208 = (S0 1087 11) / 2 := by omega
                refine zz_iconst zd_14_22_295 ?_
                refine zz_isub zd_14_22_296 ?_
                refine zz_aload_n (x := 1079) rfl zd_14_22_297 ?_
                refine zz_geti (z := S0 1079 1) zd_14_22_298 zf_Md_7 zT_1079 rfl (zz_ltn hn rfl) (zz_rc fS204 rfl rfl (fun h => h) (zz_rc fS42 rfl rfl (fun h => h) (zz_rc fS38 rfl rfl (fun h => h) (zz_rc fS33 rfl rfl (fun h => h) (zz_rc fS29 rfl rfl (fun h => h) (zz_rc fS24 rfl rfl (fun h => h) (zz_rc fS20 rfl rfl (fun h => h) (zz_rc fS15 rfl rfl (fun h => h) (zz_rc fS11 rfl rfl (fun h => h) (zz_rc fS6 rfl rfl (fun h => h) (zz_rc fS2 rfl rfl (fun h => h) rfl))))))))))) ?_
                refine zz_imul zd_14_22_301 ?_
                have m209 := zz_mulh (a := ((S0 1087 11) / 2) - 1) (b := S0 1079 1) (-1) 14 8 (-8) 112 (by omega) (by omega) (by decide) (by decide) (by decide) (by decide)
                refine zz_iadd zd_14_22_302 ?_
                refine zz_nme (fun v210 ev210 => ?_)
                refine zz_iload_n (x := S0 1087 7) rfl zd_14_22_303 ?_
                refine zz_iadd zd_14_22_304 ?_
                refine zz_iconst zd_14_22_305 ?_
                refine zz_isub zd_14_22_306 ?_
                refine zz_callVV [.ref 1088, zi 2, zi (S0 1087 10), zi ((v210 + (S0 1087 7)) - 1)] zd_14_22_307 zk_Md_227 zT_1079 (zz_ltn hn rfl) rfl rfl ⟨Nat.le_of_ble_eq_true rfl, Nat.le_of_ble_eq_true rfl⟩ ⟨rfl, rfl⟩ (Nat.zero_le _) (Nat.zero_le _) (zc_reach_14_20x_1088_2 (S0 1087 10) ((v210 + (S0 1087 7)) - 1) S204 n hn G_S204 (by omega) (by omega)) (fun S211 hP => ?_)
                obtain ⟨G_S211, fS211, o213, o214⟩ := hP
                have F_S211 := zz_fr.trans F_S204 fS211 rfl zz_nv
                refine zz_aload_n (x := 1079) rfl zd_14_22_310 ?_
                refine zz_aload_n (x := 1079) rfl zd_14_22_311 ?_
                refine zz_getr (kd := 0) (z := 1089) zd_14_22_312 zf_Md_42 zT_1079 rfl (zz_ltn hn rfl) (zz_G.eq G_S211 1079 13 1089 rfl rfl) (by decide) 1089 rfl ?_
                refine zz_iconst zd_14_22_315 ?_
                refine zz_iload_n (x := S0 1087 9) rfl zd_14_22_316 ?_
                refine zz_aload_n (x := 1079) rfl zd_14_22_317 ?_
                refine zz_iload_n (x := S0 1087 9) rfl zd_14_22_318 ?_
                refine zz_iload_n (x := S0 1087 7) rfl zd_14_22_319 ?_
                have e215 : S211 1087 6 = S0 1087 6 := (zz_rc fS211 rfl rfl (fun h => h) (zz_rc fS204 rfl rfl (fun h => h) (zz_rc fS42 rfl rfl (fun h => h) (zz_rc fS38 rfl rfl (fun h => h) (zz_rc fS33 rfl rfl (fun h => h) (zz_rc fS29 rfl rfl (fun h => h) (zz_rc fS24 rfl rfl (fun h => h) (zz_rc fS20 rfl rfl (fun h => h) (zz_rc fS15 rfl rfl (fun h => h) (zz_rc fS11 rfl rfl (fun h => h) (zz_rc fS6 rfl rfl (fun h => h) (zz_rc fS2 rfl rfl (fun h => h) rfl))))))))))))
                have e216 : S211 1079 1 = S0 1079 1 := (zz_rc fS211 rfl rfl (fun h => h) (zz_rc fS204 rfl rfl (fun h => h) (zz_rc fS42 rfl rfl (fun h => h) (zz_rc fS38 rfl rfl (fun h => h) (zz_rc fS33 rfl rfl (fun h => h) (zz_rc fS29 rfl rfl (fun h => h) (zz_rc fS24 rfl rfl (fun h => h) (zz_rc fS20 rfl rfl (fun h => h) (zz_rc fS15 rfl rfl (fun h => h) (zz_rc fS11 rfl rfl (fun h => h) (zz_rc fS6 rfl rfl (fun h => h) (zz_rc fS2 rfl rfl (fun h => h) rfl))))))))))))
                refine zz_callVI [zi (S0 1087 9), zi (S0 1087 7)] zd_14_22_320 zk_Md_231 zT_1079 (zz_ltn hn rfl) rfl rfl ⟨Nat.le_of_ble_eq_true rfl, Nat.le_of_ble_eq_true rfl⟩ ⟨rfl, rfl⟩ (Nat.zero_le _) (Nat.zero_le _) (zc_rowsEnd_14_21 (S0 1087 9) (S0 1087 7) S211 n hn G_S211 (by omega) (by omega) (by omega)) (fun v218 S217 hP => ?_)
                obtain ⟨rfl, o219, o220⟩ := hP
                rw [show S211 1087 6 = S0 1087 6 from (zz_rc fS211 rfl rfl (fun h => h) (zz_rc fS204 rfl rfl (fun h => h) (zz_rc fS42 rfl rfl (fun h => h) (zz_rc fS38 rfl rfl (fun h => h) (zz_rc fS33 rfl rfl (fun h => h) (zz_rc fS29 rfl rfl (fun h => h) (zz_rc fS24 rfl rfl (fun h => h) (zz_rc fS20 rfl rfl (fun h => h) (zz_rc fS15 rfl rfl (fun h => h) (zz_rc fS11 rfl rfl (fun h => h) (zz_rc fS6 rfl rfl (fun h => h) (zz_rc fS2 rfl rfl (fun h => h) rfl)))))))))))), show S211 1079 1 = S0 1079 1 from (zz_rc fS211 rfl rfl (fun h => h) (zz_rc fS204 rfl rfl (fun h => h) (zz_rc fS42 rfl rfl (fun h => h) (zz_rc fS38 rfl rfl (fun h => h) (zz_rc fS33 rfl rfl (fun h => h) (zz_rc fS29 rfl rfl (fun h => h) (zz_rc fS24 rfl rfl (fun h => h) (zz_rc fS20 rfl rfl (fun h => h) (zz_rc fS15 rfl rfl (fun h => h) (zz_rc fS11 rfl rfl (fun h => h) (zz_rc fS6 rfl rfl (fun h => h) (zz_rc fS2 rfl rfl (fun h => h) rfl))))))))))))] at o220
                refine zz_callVV [.ref 1089, zi 3, zi (S0 1087 9), zi v218] zd_14_22_323 zk_Md_227 zT_1079 (zz_ltn hn rfl) rfl rfl ⟨Nat.le_of_ble_eq_true rfl, Nat.le_of_ble_eq_true rfl⟩ ⟨rfl, rfl⟩ (Nat.zero_le _) (Nat.zero_le _) (zc_reach_14_20x_1089_3 (S0 1087 9) v218 S211 n hn G_S211 (by omega) (by omega)) (fun S221 hP => ?_)
                obtain ⟨G_S221, fS221, o223, o224⟩ := hP
                have F_S221 := zz_fr.trans F_S211 fS221 rfl zz_nv
                refine zz_aload_n (x := 1079) rfl zd_14_22_326 ?_
                refine zz_getr (kd := 0) (z := 1087) zd_14_22_327 zf_Md_36 zT_1079 rfl (zz_ltn hn rfl) (zz_G.eq G_S221 1079 11 1087 rfl rfl) (by decide) 1087 rfl ?_
                refine zz_bipush (by decide) zd_14_22_330 ?_
                refine zz_iald (z := S0 1087 11) zd_14_22_332 zT_1087 rfl (zz_ltn hn rfl) (by decide) (by decide) (zz_rc fS221 rfl rfl (fun h => h) (zz_rc fS211 rfl rfl (fun h => h) (zz_rc fS204 rfl rfl (fun h => h) (zz_rc fS42 rfl rfl (fun h => h) (zz_rc fS38 rfl rfl (fun h => h) (zz_rc fS33 rfl rfl (fun h => h) (zz_rc fS29 rfl rfl (fun h => h) (zz_rc fS24 rfl rfl (fun h => h) (zz_rc fS20 rfl rfl (fun h => h) (zz_rc fS15 rfl rfl (fun h => h) (zz_rc fS11 rfl rfl (fun h => h) (zz_rc fS6 rfl rfl (fun h => h) (zz_rc fS2 rfl rfl (fun h => h) rfl))))))))))))) ?_
                refine zz_iconst zd_14_22_333 ?_
                refine zz_irem (by omega) (by omega) zd_14_22_334 (fun v225 hv225 av225 bv225 cv225 => ?_)
                refine zz_iconst zd_14_22_335 ?_
                refine zz_icmp_ne (by omega) (by omega) zd_14_22_336 (fun c226 => ?_) (fun c226 => ?_)
                · have g227 := zz_G.r G_S2 1088 1 (-2147483648) 2147483647 rfl rfl
                  have e228 : S221 1088 1 = S2 1088 1 := (zz_rc fS221 rfl rfl (fun h => h) (zz_rc fS211 rfl rfl (fun h => h) (zz_rc fS204 rfl rfl (fun h => h) (zz_rc fS42 rfl rfl (fun h => h) (zz_rc fS38 rfl rfl (fun h => h) (zz_rc fS33 rfl rfl (fun h => h) (zz_rc fS29 rfl rfl (fun h => h) (zz_rc fS24 rfl rfl (fun h => h) (zz_rc fS20 rfl rfl (fun h => h) (zz_rc fS15 rfl rfl (fun h => h) (zz_rc fS11 rfl rfl (fun h => h) (zz_rc fS6 rfl rfl (fun h => h) rfl))))))))))))
                  have g229 := zz_G.r G_S204 1088 3 (-2147483648) 2147483647 rfl rfl
                  have e230 : S221 1088 3 = S204 1088 3 := (zz_rc fS221 rfl rfl (fun h => h) (zz_rc fS211 rfl rfl (fun h => h) rfl))
                  have g231 := zz_G.r G_S211 1088 5 (-2147483648) 2147483647 rfl rfl
                  have e232 : S221 1088 5 = S211 1088 5 := (zz_rc fS221 rfl rfl (fun h => h) rfl)
                  have g233 := zz_G.r G_S29 1088 7 (-2147483648) 2147483647 rfl rfl
                  have e234 : S221 1088 7 = S29 1088 7 := (zz_rc fS221 rfl rfl (fun h => h) (zz_rc fS211 rfl rfl (fun h => h) (zz_rc fS204 rfl rfl (fun h => h) (zz_rc fS42 rfl rfl (fun h => h) (zz_rc fS38 rfl rfl (fun h => h) (zz_rc fS33 rfl rfl (fun h => h) rfl))))))
                  have g235 := zz_G.r G_S38 1088 9 (-2147483648) 2147483647 rfl rfl
                  have e236 : S221 1088 9 = S38 1088 9 := (zz_rc fS221 rfl rfl (fun h => h) (zz_rc fS211 rfl rfl (fun h => h) (zz_rc fS204 rfl rfl (fun h => h) (zz_rc fS42 rfl rfl (fun h => h) rfl))))
                  have g237 := zz_G.r G_S6 1089 1 (-2147483648) 2147483647 rfl rfl
                  have e238 : S221 1089 1 = S6 1089 1 := (zz_rc fS221 rfl rfl (fun h => h) (zz_rc fS211 rfl rfl (fun h => h) (zz_rc fS204 rfl rfl (fun h => h) (zz_rc fS42 rfl rfl (fun h => h) (zz_rc fS38 rfl rfl (fun h => h) (zz_rc fS33 rfl rfl (fun h => h) (zz_rc fS29 rfl rfl (fun h => h) (zz_rc fS24 rfl rfl (fun h => h) (zz_rc fS20 rfl rfl (fun h => h) (zz_rc fS15 rfl rfl (fun h => h) (zz_rc fS11 rfl rfl (fun h => h) rfl)))))))))))
                  have g239 := zz_G.r G_S15 1089 3 (-2147483648) 2147483647 rfl rfl
                  have e240 : S221 1089 3 = S15 1089 3 := (zz_rc fS221 rfl rfl (fun h => h) (zz_rc fS211 rfl rfl (fun h => h) (zz_rc fS204 rfl rfl (fun h => h) (zz_rc fS42 rfl rfl (fun h => h) (zz_rc fS38 rfl rfl (fun h => h) (zz_rc fS33 rfl rfl (fun h => h) (zz_rc fS29 rfl rfl (fun h => h) (zz_rc fS24 rfl rfl (fun h => h) (zz_rc fS20 rfl rfl (fun h => h) rfl)))))))))
                  have g241 := zz_G.r G_S24 1089 5 (-2147483648) 2147483647 rfl rfl
                  have e242 : S221 1089 5 = S24 1089 5 := (zz_rc fS221 rfl rfl (fun h => h) (zz_rc fS211 rfl rfl (fun h => h) (zz_rc fS204 rfl rfl (fun h => h) (zz_rc fS42 rfl rfl (fun h => h) (zz_rc fS38 rfl rfl (fun h => h) (zz_rc fS33 rfl rfl (fun h => h) (zz_rc fS29 rfl rfl (fun h => h) rfl)))))))
                  have g243 := zz_G.r G_S221 1089 7 (-2147483648) 2147483647 rfl rfl
                  have g244 := zz_G.r G_S42 1089 9 (-2147483648) 2147483647 rfl rfl
                  have e245 : S221 1089 9 = S42 1089 9 := (zz_rc fS221 rfl rfl (fun h => h) (zz_rc fS211 rfl rfl (fun h => h) (zz_rc fS204 rfl rfl (fun h => h) rfl)))
                  exact zz_vret zd_14_22_494 rfl (Nat.zero_le _) (Nat.zero_le _) ⟨_, rfl, G_S221, F_S221, by omega, by omega, by omega, by omega, by omega, by omega, by omega, by omega, by omega⟩
                · refine zz_aload_n (x := 1079) rfl zd_14_22_339 ?_
                  refine zz_aload_n (x := 1079) rfl zd_14_22_340 ?_
                  refine zz_getr (kd := 0) (z := 1088) zd_14_22_341 zf_Md_39 zT_1079 rfl (zz_ltn hn rfl) (zz_G.eq G_S221 1079 12 1088 rfl rfl) (by decide) 1088 rfl ?_
                  refine zz_iconst zd_14_22_344 ?_
                  refine zz_iload_n (x := S0 1087 9) rfl zd_14_22_345 ?_
                  refine zz_aload_n (x := 1079) rfl zd_14_22_346 ?_
                  refine zz_iload_n (x := S0 1087 9) rfl zd_14_22_347 ?_
                  refine zz_iload_n (x := S0 1087 7) rfl zd_14_22_348 ?_
                  have e246 : S221 1087 6 = S0 1087 6 := (zz_rc fS221 rfl rfl (fun h => h) (zz_rc fS211 rfl rfl (fun h => h) (zz_rc fS204 rfl rfl (fun h => h) (zz_rc fS42 rfl rfl (fun h => h) (zz_rc fS38 rfl rfl (fun h => h) (zz_rc fS33 rfl rfl (fun h => h) (zz_rc fS29 rfl rfl (fun h => h) (zz_rc fS24 rfl rfl (fun h => h) (zz_rc fS20 rfl rfl (fun h => h) (zz_rc fS15 rfl rfl (fun h => h) (zz_rc fS11 rfl rfl (fun h => h) (zz_rc fS6 rfl rfl (fun h => h) (zz_rc fS2 rfl rfl (fun h => h) rfl)))))))))))))
                  have e247 : S221 1079 1 = S0 1079 1 := (zz_rc fS221 rfl rfl (fun h => h) (zz_rc fS211 rfl rfl (fun h => h) (zz_rc fS204 rfl rfl (fun h => h) (zz_rc fS42 rfl rfl (fun h => h) (zz_rc fS38 rfl rfl (fun h => h) (zz_rc fS33 rfl rfl (fun h => h) (zz_rc fS29 rfl rfl (fun h => h) (zz_rc fS24 rfl rfl (fun h => h) (zz_rc fS20 rfl rfl (fun h => h) (zz_rc fS15 rfl rfl (fun h => h) (zz_rc fS11 rfl rfl (fun h => h) (zz_rc fS6 rfl rfl (fun h => h) (zz_rc fS2 rfl rfl (fun h => h) rfl)))))))))))))
                  refine zz_callVI [zi (S0 1087 9), zi (S0 1087 7)] zd_14_22_349 zk_Md_231 zT_1079 (zz_ltn hn rfl) rfl rfl ⟨Nat.le_of_ble_eq_true rfl, Nat.le_of_ble_eq_true rfl⟩ ⟨rfl, rfl⟩ (Nat.zero_le _) (Nat.zero_le _) (zc_rowsEnd_14_21 (S0 1087 9) (S0 1087 7) S221 n hn G_S221 (by omega) (by omega) (by omega)) (fun v249 S248 hP => ?_)
                  obtain ⟨rfl, o250, o251⟩ := hP
                  rw [show S221 1087 6 = S0 1087 6 from (zz_rc fS221 rfl rfl (fun h => h) (zz_rc fS211 rfl rfl (fun h => h) (zz_rc fS204 rfl rfl (fun h => h) (zz_rc fS42 rfl rfl (fun h => h) (zz_rc fS38 rfl rfl (fun h => h) (zz_rc fS33 rfl rfl (fun h => h) (zz_rc fS29 rfl rfl (fun h => h) (zz_rc fS24 rfl rfl (fun h => h) (zz_rc fS20 rfl rfl (fun h => h) (zz_rc fS15 rfl rfl (fun h => h) (zz_rc fS11 rfl rfl (fun h => h) (zz_rc fS6 rfl rfl (fun h => h) (zz_rc fS2 rfl rfl (fun h => h) rfl))))))))))))), show S221 1079 1 = S0 1079 1 from (zz_rc fS221 rfl rfl (fun h => h) (zz_rc fS211 rfl rfl (fun h => h) (zz_rc fS204 rfl rfl (fun h => h) (zz_rc fS42 rfl rfl (fun h => h) (zz_rc fS38 rfl rfl (fun h => h) (zz_rc fS33 rfl rfl (fun h => h) (zz_rc fS29 rfl rfl (fun h => h) (zz_rc fS24 rfl rfl (fun h => h) (zz_rc fS20 rfl rfl (fun h => h) (zz_rc fS15 rfl rfl (fun h => h) (zz_rc fS11 rfl rfl (fun h => h) (zz_rc fS6 rfl rfl (fun h => h) (zz_rc fS2 rfl rfl (fun h => h) rfl)))))))))))))] at o251
                  refine zz_callVV [.ref 1088, zi 3, zi (S0 1087 9), zi v249] zd_14_22_352 zk_Md_227 zT_1079 (zz_ltn hn rfl) rfl rfl ⟨Nat.le_of_ble_eq_true rfl, Nat.le_of_ble_eq_true rfl⟩ ⟨rfl, rfl⟩ (Nat.zero_le _) (Nat.zero_le _) (zc_reach_14_20x_1088_3 (S0 1087 9) v249 S221 n hn G_S221 (by omega) (by omega)) (fun S252 hP => ?_)
                  obtain ⟨G_S252, fS252, o254, o255⟩ := hP
                  have F_S252 := zz_fr.trans F_S221 fS252 rfl zz_nv
                  refine zz_goto zd_14_22_355 ?_
                  have g256 := zz_G.r G_S2 1088 1 (-2147483648) 2147483647 rfl rfl
                  have e257 : S252 1088 1 = S2 1088 1 := (zz_rc fS252 rfl rfl (fun h => h) (zz_rc fS221 rfl rfl (fun h => h) (zz_rc fS211 rfl rfl (fun h => h) (zz_rc fS204 rfl rfl (fun h => h) (zz_rc fS42 rfl rfl (fun h => h) (zz_rc fS38 rfl rfl (fun h => h) (zz_rc fS33 rfl rfl (fun h => h) (zz_rc fS29 rfl rfl (fun h => h) (zz_rc fS24 rfl rfl (fun h => h) (zz_rc fS20 rfl rfl (fun h => h) (zz_rc fS15 rfl rfl (fun h => h) (zz_rc fS11 rfl rfl (fun h => h) (zz_rc fS6 rfl rfl (fun h => h) rfl)))))))))))))
                  have g258 := zz_G.r G_S204 1088 3 (-2147483648) 2147483647 rfl rfl
                  have e259 : S252 1088 3 = S204 1088 3 := (zz_rc fS252 rfl rfl (fun h => h) (zz_rc fS221 rfl rfl (fun h => h) (zz_rc fS211 rfl rfl (fun h => h) rfl)))
                  have g260 := zz_G.r G_S211 1088 5 (-2147483648) 2147483647 rfl rfl
                  have e261 : S252 1088 5 = S211 1088 5 := (zz_rc fS252 rfl rfl (fun h => h) (zz_rc fS221 rfl rfl (fun h => h) rfl))
                  have g262 := zz_G.r G_S252 1088 7 (-2147483648) 2147483647 rfl rfl
                  have g263 := zz_G.r G_S38 1088 9 (-2147483648) 2147483647 rfl rfl
                  have e264 : S252 1088 9 = S38 1088 9 := (zz_rc fS252 rfl rfl (fun h => h) (zz_rc fS221 rfl rfl (fun h => h) (zz_rc fS211 rfl rfl (fun h => h) (zz_rc fS204 rfl rfl (fun h => h) (zz_rc fS42 rfl rfl (fun h => h) rfl)))))
                  have g265 := zz_G.r G_S6 1089 1 (-2147483648) 2147483647 rfl rfl
                  have e266 : S252 1089 1 = S6 1089 1 := (zz_rc fS252 rfl rfl (fun h => h) (zz_rc fS221 rfl rfl (fun h => h) (zz_rc fS211 rfl rfl (fun h => h) (zz_rc fS204 rfl rfl (fun h => h) (zz_rc fS42 rfl rfl (fun h => h) (zz_rc fS38 rfl rfl (fun h => h) (zz_rc fS33 rfl rfl (fun h => h) (zz_rc fS29 rfl rfl (fun h => h) (zz_rc fS24 rfl rfl (fun h => h) (zz_rc fS20 rfl rfl (fun h => h) (zz_rc fS15 rfl rfl (fun h => h) (zz_rc fS11 rfl rfl (fun h => h) rfl))))))))))))
                  have g267 := zz_G.r G_S15 1089 3 (-2147483648) 2147483647 rfl rfl
                  have e268 : S252 1089 3 = S15 1089 3 := (zz_rc fS252 rfl rfl (fun h => h) (zz_rc fS221 rfl rfl (fun h => h) (zz_rc fS211 rfl rfl (fun h => h) (zz_rc fS204 rfl rfl (fun h => h) (zz_rc fS42 rfl rfl (fun h => h) (zz_rc fS38 rfl rfl (fun h => h) (zz_rc fS33 rfl rfl (fun h => h) (zz_rc fS29 rfl rfl (fun h => h) (zz_rc fS24 rfl rfl (fun h => h) (zz_rc fS20 rfl rfl (fun h => h) rfl))))))))))
                  have g269 := zz_G.r G_S24 1089 5 (-2147483648) 2147483647 rfl rfl
                  have e270 : S252 1089 5 = S24 1089 5 := (zz_rc fS252 rfl rfl (fun h => h) (zz_rc fS221 rfl rfl (fun h => h) (zz_rc fS211 rfl rfl (fun h => h) (zz_rc fS204 rfl rfl (fun h => h) (zz_rc fS42 rfl rfl (fun h => h) (zz_rc fS38 rfl rfl (fun h => h) (zz_rc fS33 rfl rfl (fun h => h) (zz_rc fS29 rfl rfl (fun h => h) rfl))))))))
                  have g271 := zz_G.r G_S221 1089 7 (-2147483648) 2147483647 rfl rfl
                  have e272 : S252 1089 7 = S221 1089 7 := (zz_rc fS252 rfl rfl (fun h => h) rfl)
                  have g273 := zz_G.r G_S42 1089 9 (-2147483648) 2147483647 rfl rfl
                  have e274 : S252 1089 9 = S42 1089 9 := (zz_rc fS252 rfl rfl (fun h => h) (zz_rc fS221 rfl rfl (fun h => h) (zz_rc fS211 rfl rfl (fun h => h) (zz_rc fS204 rfl rfl (fun h => h) rfl))))
                  exact zz_vret zd_14_22_494 rfl (Nat.zero_le _) (Nat.zero_le _) ⟨_, rfl, G_S252, F_S252, by omega, by omega, by omega, by omega, by omega, by omega, by omega, by omega, by omega⟩
              by_cases c275 : S0 1087 0 = 6
              · refine zz_swIn 6 267 c275 (by decide) zd_14_22_91 rfl rfl ?_
                refine zz_aload_n (x := 1079) rfl zd_14_22_358 ?_
                refine zz_aload_n (x := 1079) rfl zd_14_22_359 ?_
                refine zz_getr (kd := 0) (z := 1088) zd_14_22_360 zf_Md_39 zT_1079 rfl (zz_ltn hn rfl) (zz_G.eq G_S42 1079 12 1088 rfl rfl) (by decide) 1088 rfl ?_
                refine zz_iconst zd_14_22_363 ?_
                refine zz_iload_n (x := S0 1087 8) rfl zd_14_22_364 ?_
                refine zz_aload_n (x := 1079) rfl zd_14_22_365 ?_
                refine zz_iload_n (x := S0 1087 8) rfl zd_14_22_366 ?_
                refine zz_iload_n (x := S0 1087 7) rfl zd_14_22_367 ?_
                have e276 : S42 1087 6 = S0 1087 6 := (zz_rc fS42 rfl rfl (fun h => h) (zz_rc fS38 rfl rfl (fun h => h) (zz_rc fS33 rfl rfl (fun h => h) (zz_rc fS29 rfl rfl (fun h => h) (zz_rc fS24 rfl rfl (fun h => h) (zz_rc fS20 rfl rfl (fun h => h) (zz_rc fS15 rfl rfl (fun h => h) (zz_rc fS11 rfl rfl (fun h => h) (zz_rc fS6 rfl rfl (fun h => h) (zz_rc fS2 rfl rfl (fun h => h) rfl))))))))))
                have g277 := zz_G.r G_S0 1079 1 2 8 rfl rfl
                have e278 : S42 1079 1 = S0 1079 1 := (zz_rc fS42 rfl rfl (fun h => h) (zz_rc fS38 rfl rfl (fun h => h) (zz_rc fS33 rfl rfl (fun h => h) (zz_rc fS29 rfl rfl (fun h => h) (zz_rc fS24 rfl rfl (fun h => h) (zz_rc fS20 rfl rfl (fun h => h) (zz_rc fS15 rfl rfl (fun h => h) (zz_rc fS11 rfl rfl (fun h => h) (zz_rc fS6 rfl rfl (fun h => h) (zz_rc fS2 rfl rfl (fun h => h) rfl))))))))))
                refine zz_callVI [zi (S0 1087 8), zi (S0 1087 7)] zd_14_22_368 zk_Md_231 zT_1079 (zz_ltn hn rfl) rfl rfl ⟨Nat.le_of_ble_eq_true rfl, Nat.le_of_ble_eq_true rfl⟩ ⟨rfl, rfl⟩ (Nat.zero_le _) (Nat.zero_le _) (zc_rowsEnd_14_21 (S0 1087 8) (S0 1087 7) S42 n hn G_S42 (by omega) (by omega) (by omega)) (fun v280 S279 hP => ?_)
                obtain ⟨rfl, o281, o282⟩ := hP
                rw [show S42 1087 6 = S0 1087 6 from (zz_rc fS42 rfl rfl (fun h => h) (zz_rc fS38 rfl rfl (fun h => h) (zz_rc fS33 rfl rfl (fun h => h) (zz_rc fS29 rfl rfl (fun h => h) (zz_rc fS24 rfl rfl (fun h => h) (zz_rc fS20 rfl rfl (fun h => h) (zz_rc fS15 rfl rfl (fun h => h) (zz_rc fS11 rfl rfl (fun h => h) (zz_rc fS6 rfl rfl (fun h => h) (zz_rc fS2 rfl rfl (fun h => h) rfl)))))))))), show S42 1079 1 = S0 1079 1 from (zz_rc fS42 rfl rfl (fun h => h) (zz_rc fS38 rfl rfl (fun h => h) (zz_rc fS33 rfl rfl (fun h => h) (zz_rc fS29 rfl rfl (fun h => h) (zz_rc fS24 rfl rfl (fun h => h) (zz_rc fS20 rfl rfl (fun h => h) (zz_rc fS15 rfl rfl (fun h => h) (zz_rc fS11 rfl rfl (fun h => h) (zz_rc fS6 rfl rfl (fun h => h) (zz_rc fS2 rfl rfl (fun h => h) rfl))))))))))] at o282
                refine zz_callVV [.ref 1088, zi 1, zi (S0 1087 8), zi v280] zd_14_22_371 zk_Md_227 zT_1079 (zz_ltn hn rfl) rfl rfl ⟨Nat.le_of_ble_eq_true rfl, Nat.le_of_ble_eq_true rfl⟩ ⟨rfl, rfl⟩ (Nat.zero_le _) (Nat.zero_le _) (zc_reach_14_20x_1088_1 (S0 1087 8) v280 S42 n hn G_S42 (by omega) (by omega)) (fun S283 hP => ?_)
                obtain ⟨G_S283, fS283, o285, o286⟩ := hP
                have F_S283 := zz_fr.trans F_S42 fS283 rfl zz_nv
                refine zz_aload_n (x := 1079) rfl zd_14_22_374 ?_
                refine zz_aload_n (x := 1079) rfl zd_14_22_375 ?_
                refine zz_getr (kd := 0) (z := 1089) zd_14_22_376 zf_Md_42 zT_1079 rfl (zz_ltn hn rfl) (zz_G.eq G_S283 1079 13 1089 rfl rfl) (by decide) 1089 rfl ?_
                refine zz_iconst zd_14_22_379 ?_
                refine zz_iload_n (x := S0 1087 9) rfl zd_14_22_380 ?_
                refine zz_aload_n (x := 1079) rfl zd_14_22_381 ?_
                refine zz_iload_n (x := S0 1087 9) rfl zd_14_22_382 ?_
                refine zz_iload_n (x := S0 1087 7) rfl zd_14_22_383 ?_
                have e287 : S283 1087 6 = S0 1087 6 := (zz_rc fS283 rfl rfl (fun h => h) (zz_rc fS42 rfl rfl (fun h => h) (zz_rc fS38 rfl rfl (fun h => h) (zz_rc fS33 rfl rfl (fun h => h) (zz_rc fS29 rfl rfl (fun h => h) (zz_rc fS24 rfl rfl (fun h => h) (zz_rc fS20 rfl rfl (fun h => h) (zz_rc fS15 rfl rfl (fun h => h) (zz_rc fS11 rfl rfl (fun h => h) (zz_rc fS6 rfl rfl (fun h => h) (zz_rc fS2 rfl rfl (fun h => h) rfl)))))))))))
                have e288 : S283 1079 1 = S0 1079 1 := (zz_rc fS283 rfl rfl (fun h => h) (zz_rc fS42 rfl rfl (fun h => h) (zz_rc fS38 rfl rfl (fun h => h) (zz_rc fS33 rfl rfl (fun h => h) (zz_rc fS29 rfl rfl (fun h => h) (zz_rc fS24 rfl rfl (fun h => h) (zz_rc fS20 rfl rfl (fun h => h) (zz_rc fS15 rfl rfl (fun h => h) (zz_rc fS11 rfl rfl (fun h => h) (zz_rc fS6 rfl rfl (fun h => h) (zz_rc fS2 rfl rfl (fun h => h) rfl)))))))))))
                refine zz_callVI [zi (S0 1087 9), zi (S0 1087 7)] zd_14_22_384 zk_Md_231 zT_1079 (zz_ltn hn rfl) rfl rfl ⟨Nat.le_of_ble_eq_true rfl, Nat.le_of_ble_eq_true rfl⟩ ⟨rfl, rfl⟩ (Nat.zero_le _) (Nat.zero_le _) (zc_rowsEnd_14_21 (S0 1087 9) (S0 1087 7) S283 n hn G_S283 (by omega) (by omega) (by omega)) (fun v290 S289 hP => ?_)
                obtain ⟨rfl, o291, o292⟩ := hP
                rw [show S283 1087 6 = S0 1087 6 from (zz_rc fS283 rfl rfl (fun h => h) (zz_rc fS42 rfl rfl (fun h => h) (zz_rc fS38 rfl rfl (fun h => h) (zz_rc fS33 rfl rfl (fun h => h) (zz_rc fS29 rfl rfl (fun h => h) (zz_rc fS24 rfl rfl (fun h => h) (zz_rc fS20 rfl rfl (fun h => h) (zz_rc fS15 rfl rfl (fun h => h) (zz_rc fS11 rfl rfl (fun h => h) (zz_rc fS6 rfl rfl (fun h => h) (zz_rc fS2 rfl rfl (fun h => h) rfl))))))))))), show S283 1079 1 = S0 1079 1 from (zz_rc fS283 rfl rfl (fun h => h) (zz_rc fS42 rfl rfl (fun h => h) (zz_rc fS38 rfl rfl (fun h => h) (zz_rc fS33 rfl rfl (fun h => h) (zz_rc fS29 rfl rfl (fun h => h) (zz_rc fS24 rfl rfl (fun h => h) (zz_rc fS20 rfl rfl (fun h => h) (zz_rc fS15 rfl rfl (fun h => h) (zz_rc fS11 rfl rfl (fun h => h) (zz_rc fS6 rfl rfl (fun h => h) (zz_rc fS2 rfl rfl (fun h => h) rfl)))))))))))] at o292
                refine zz_callVV [.ref 1089, zi 3, zi (S0 1087 9), zi v290] zd_14_22_387 zk_Md_227 zT_1079 (zz_ltn hn rfl) rfl rfl ⟨Nat.le_of_ble_eq_true rfl, Nat.le_of_ble_eq_true rfl⟩ ⟨rfl, rfl⟩ (Nat.zero_le _) (Nat.zero_le _) (zc_reach_14_20x_1089_3 (S0 1087 9) v290 S283 n hn G_S283 (by omega) (by omega)) (fun S293 hP => ?_)
                obtain ⟨G_S293, fS293, o295, o296⟩ := hP
                have F_S293 := zz_fr.trans F_S283 fS293 rfl zz_nv
                refine zz_aload_n (x := 1079) rfl zd_14_22_390 ?_
                refine zz_getr (kd := 0) (z := 1087) zd_14_22_391 zf_Md_36 zT_1079 rfl (zz_ltn hn rfl) (zz_G.eq G_S293 1079 11 1087 rfl rfl) (by decide) 1087 rfl ?_
                refine zz_bipush (by decide) zd_14_22_394 ?_
                have g297 := zz_G.r G_S0 1087 11 (-2147483648) 2147483647 rfl rfl
                refine zz_iald (z := S0 1087 11) zd_14_22_396 zT_1087 rfl (zz_ltn hn rfl) (by decide) (by decide) (zz_rc fS293 rfl rfl (fun h => h) (zz_rc fS283 rfl rfl (fun h => h) (zz_rc fS42 rfl rfl (fun h => h) (zz_rc fS38 rfl rfl (fun h => h) (zz_rc fS33 rfl rfl (fun h => h) (zz_rc fS29 rfl rfl (fun h => h) (zz_rc fS24 rfl rfl (fun h => h) (zz_rc fS20 rfl rfl (fun h => h) (zz_rc fS15 rfl rfl (fun h => h) (zz_rc fS11 rfl rfl (fun h => h) (zz_rc fS6 rfl rfl (fun h => h) (zz_rc fS2 rfl rfl (fun h => h) rfl)))))))))))) ?_
                refine zz_if_le (by omega) zd_14_22_397 (fun c298 => ?_) (fun c298 => ?_)
                · have g299 := zz_G.r G_S2 1088 1 (-2147483648) 2147483647 rfl rfl
                  have e300 : S293 1088 1 = S2 1088 1 := (zz_rc fS293 rfl rfl (fun h => h) (zz_rc fS283 rfl rfl (fun h => h) (zz_rc fS42 rfl rfl (fun h => h) (zz_rc fS38 rfl rfl (fun h => h) (zz_rc fS33 rfl rfl (fun h => h) (zz_rc fS29 rfl rfl (fun h => h) (zz_rc fS24 rfl rfl (fun h => h) (zz_rc fS20 rfl rfl (fun h => h) (zz_rc fS15 rfl rfl (fun h => h) (zz_rc fS11 rfl rfl (fun h => h) (zz_rc fS6 rfl rfl (fun h => h) rfl)))))))))))
                  have g301 := zz_G.r G_S283 1088 3 (-2147483648) 2147483647 rfl rfl
                  have e302 : S293 1088 3 = S283 1088 3 := (zz_rc fS293 rfl rfl (fun h => h) rfl)
                  have g303 := zz_G.r G_S20 1088 5 (-2147483648) 2147483647 rfl rfl
                  have e304 : S293 1088 5 = S20 1088 5 := (zz_rc fS293 rfl rfl (fun h => h) (zz_rc fS283 rfl rfl (fun h => h) (zz_rc fS42 rfl rfl (fun h => h) (zz_rc fS38 rfl rfl (fun h => h) (zz_rc fS33 rfl rfl (fun h => h) (zz_rc fS29 rfl rfl (fun h => h) (zz_rc fS24 rfl rfl (fun h => h) rfl)))))))
                  have g305 := zz_G.r G_S29 1088 7 (-2147483648) 2147483647 rfl rfl
                  have e306 : S293 1088 7 = S29 1088 7 := (zz_rc fS293 rfl rfl (fun h => h) (zz_rc fS283 rfl rfl (fun h => h) (zz_rc fS42 rfl rfl (fun h => h) (zz_rc fS38 rfl rfl (fun h => h) (zz_rc fS33 rfl rfl (fun h => h) rfl)))))
                  have g307 := zz_G.r G_S38 1088 9 (-2147483648) 2147483647 rfl rfl
                  have e308 : S293 1088 9 = S38 1088 9 := (zz_rc fS293 rfl rfl (fun h => h) (zz_rc fS283 rfl rfl (fun h => h) (zz_rc fS42 rfl rfl (fun h => h) rfl)))
                  have g309 := zz_G.r G_S6 1089 1 (-2147483648) 2147483647 rfl rfl
                  have e310 : S293 1089 1 = S6 1089 1 := (zz_rc fS293 rfl rfl (fun h => h) (zz_rc fS283 rfl rfl (fun h => h) (zz_rc fS42 rfl rfl (fun h => h) (zz_rc fS38 rfl rfl (fun h => h) (zz_rc fS33 rfl rfl (fun h => h) (zz_rc fS29 rfl rfl (fun h => h) (zz_rc fS24 rfl rfl (fun h => h) (zz_rc fS20 rfl rfl (fun h => h) (zz_rc fS15 rfl rfl (fun h => h) (zz_rc fS11 rfl rfl (fun h => h) rfl))))))))))
                  have g311 := zz_G.r G_S15 1089 3 (-2147483648) 2147483647 rfl rfl
                  have e312 : S293 1089 3 = S15 1089 3 := (zz_rc fS293 rfl rfl (fun h => h) (zz_rc fS283 rfl rfl (fun h => h) (zz_rc fS42 rfl rfl (fun h => h) (zz_rc fS38 rfl rfl (fun h => h) (zz_rc fS33 rfl rfl (fun h => h) (zz_rc fS29 rfl rfl (fun h => h) (zz_rc fS24 rfl rfl (fun h => h) (zz_rc fS20 rfl rfl (fun h => h) rfl))))))))
                  have g313 := zz_G.r G_S24 1089 5 (-2147483648) 2147483647 rfl rfl
                  have e314 : S293 1089 5 = S24 1089 5 := (zz_rc fS293 rfl rfl (fun h => h) (zz_rc fS283 rfl rfl (fun h => h) (zz_rc fS42 rfl rfl (fun h => h) (zz_rc fS38 rfl rfl (fun h => h) (zz_rc fS33 rfl rfl (fun h => h) (zz_rc fS29 rfl rfl (fun h => h) rfl))))))
                  have g315 := zz_G.r G_S293 1089 7 (-2147483648) 2147483647 rfl rfl
                  have g316 := zz_G.r G_S42 1089 9 (-2147483648) 2147483647 rfl rfl
                  have e317 : S293 1089 9 = S42 1089 9 := (zz_rc fS293 rfl rfl (fun h => h) (zz_rc fS283 rfl rfl (fun h => h) rfl))
                  exact zz_vret zd_14_22_494 rfl (Nat.zero_le _) (Nat.zero_le _) ⟨_, rfl, G_S293, F_S293, by omega, by omega, by omega, by omega, by omega, by omega, by omega, by omega, by omega⟩
                · refine zz_aload_n (x := 1079) rfl zd_14_22_400 ?_
                  refine zz_aload_n (x := 1079) rfl zd_14_22_401 ?_
                  refine zz_getr (kd := 0) (z := 1088) zd_14_22_402 zf_Md_39 zT_1079 rfl (zz_ltn hn rfl) (zz_G.eq G_S293 1079 12 1088 rfl rfl) (by decide) 1088 rfl ?_
                  refine zz_iconst zd_14_22_405 ?_
                  refine zz_iload_n (x := S0 1087 9) rfl zd_14_22_406 ?_
                  refine zz_aload_n (x := 1079) rfl zd_14_22_407 ?_
                  refine zz_iload_n (x := S0 1087 9) rfl zd_14_22_408 ?_
                  refine zz_iload_n (x := S0 1087 7) rfl zd_14_22_409 ?_
                  have e318 : S293 1087 6 = S0 1087 6 := (zz_rc fS293 rfl rfl (fun h => h) (zz_rc fS283 rfl rfl (fun h => h) (zz_rc fS42 rfl rfl (fun h => h) (zz_rc fS38 rfl rfl (fun h => h) (zz_rc fS33 rfl rfl (fun h => h) (zz_rc fS29 rfl rfl (fun h => h) (zz_rc fS24 rfl rfl (fun h => h) (zz_rc fS20 rfl rfl (fun h => h) (zz_rc fS15 rfl rfl (fun h => h) (zz_rc fS11 rfl rfl (fun h => h) (zz_rc fS6 rfl rfl (fun h => h) (zz_rc fS2 rfl rfl (fun h => h) rfl))))))))))))
                  have e319 : S293 1079 1 = S0 1079 1 := (zz_rc fS293 rfl rfl (fun h => h) (zz_rc fS283 rfl rfl (fun h => h) (zz_rc fS42 rfl rfl (fun h => h) (zz_rc fS38 rfl rfl (fun h => h) (zz_rc fS33 rfl rfl (fun h => h) (zz_rc fS29 rfl rfl (fun h => h) (zz_rc fS24 rfl rfl (fun h => h) (zz_rc fS20 rfl rfl (fun h => h) (zz_rc fS15 rfl rfl (fun h => h) (zz_rc fS11 rfl rfl (fun h => h) (zz_rc fS6 rfl rfl (fun h => h) (zz_rc fS2 rfl rfl (fun h => h) rfl))))))))))))
                  refine zz_callVI [zi (S0 1087 9), zi (S0 1087 7)] zd_14_22_410 zk_Md_231 zT_1079 (zz_ltn hn rfl) rfl rfl ⟨Nat.le_of_ble_eq_true rfl, Nat.le_of_ble_eq_true rfl⟩ ⟨rfl, rfl⟩ (Nat.zero_le _) (Nat.zero_le _) (zc_rowsEnd_14_21 (S0 1087 9) (S0 1087 7) S293 n hn G_S293 (by omega) (by omega) (by omega)) (fun v321 S320 hP => ?_)
                  obtain ⟨rfl, o322, o323⟩ := hP
                  rw [show S293 1087 6 = S0 1087 6 from (zz_rc fS293 rfl rfl (fun h => h) (zz_rc fS283 rfl rfl (fun h => h) (zz_rc fS42 rfl rfl (fun h => h) (zz_rc fS38 rfl rfl (fun h => h) (zz_rc fS33 rfl rfl (fun h => h) (zz_rc fS29 rfl rfl (fun h => h) (zz_rc fS24 rfl rfl (fun h => h) (zz_rc fS20 rfl rfl (fun h => h) (zz_rc fS15 rfl rfl (fun h => h) (zz_rc fS11 rfl rfl (fun h => h) (zz_rc fS6 rfl rfl (fun h => h) (zz_rc fS2 rfl rfl (fun h => h) rfl)))))))))))), show S293 1079 1 = S0 1079 1 from (zz_rc fS293 rfl rfl (fun h => h) (zz_rc fS283 rfl rfl (fun h => h) (zz_rc fS42 rfl rfl (fun h => h) (zz_rc fS38 rfl rfl (fun h => h) (zz_rc fS33 rfl rfl (fun h => h) (zz_rc fS29 rfl rfl (fun h => h) (zz_rc fS24 rfl rfl (fun h => h) (zz_rc fS20 rfl rfl (fun h => h) (zz_rc fS15 rfl rfl (fun h => h) (zz_rc fS11 rfl rfl (fun h => h) (zz_rc fS6 rfl rfl (fun h => h) (zz_rc fS2 rfl rfl (fun h => h) rfl))))))))))))] at o323
                  refine zz_callVV [.ref 1088, zi 3, zi (S0 1087 9), zi v321] zd_14_22_413 zk_Md_227 zT_1079 (zz_ltn hn rfl) rfl rfl ⟨Nat.le_of_ble_eq_true rfl, Nat.le_of_ble_eq_true rfl⟩ ⟨rfl, rfl⟩ (Nat.zero_le _) (Nat.zero_le _) (zc_reach_14_20x_1088_3 (S0 1087 9) v321 S293 n hn G_S293 (by omega) (by omega)) (fun S324 hP => ?_)
                  obtain ⟨G_S324, fS324, o326, o327⟩ := hP
                  have F_S324 := zz_fr.trans F_S293 fS324 rfl zz_nv
                  refine zz_goto zd_14_22_416 ?_
                  have g328 := zz_G.r G_S2 1088 1 (-2147483648) 2147483647 rfl rfl
                  have e329 : S324 1088 1 = S2 1088 1 := (zz_rc fS324 rfl rfl (fun h => h) (zz_rc fS293 rfl rfl (fun h => h) (zz_rc fS283 rfl rfl (fun h => h) (zz_rc fS42 rfl rfl (fun h => h) (zz_rc fS38 rfl rfl (fun h => h) (zz_rc fS33 rfl rfl (fun h => h) (zz_rc fS29 rfl rfl (fun h => h) (zz_rc fS24 rfl rfl (fun h => h) (zz_rc fS20 rfl rfl (fun h => h) (zz_rc fS15 rfl rfl (fun h => h) (zz_rc fS11 rfl rfl (fun h => h) (zz_rc fS6 rfl rfl (fun h => h) rfl))))))))))))
                  have g330 := zz_G.r G_S283 1088 3 (-2147483648) 2147483647 rfl rfl
                  have e331 : S324 1088 3 = S283 1088 3 := (zz_rc fS324 rfl rfl (fun h => h) (zz_rc fS293 rfl rfl (fun h => h) rfl))
                  have g332 := zz_G.r G_S20 1088 5 (-2147483648) 2147483647 rfl rfl
                  have e333 : S324 1088 5 = S20 1088 5 := (zz_rc fS324 rfl rfl (fun h => h) (zz_rc fS293 rfl rfl (fun h => h) (zz_rc fS283 rfl rfl (fun h => h) (zz_rc fS42 rfl rfl (fun h => h) (zz_rc fS38 rfl rfl (fun h => h) (zz_rc fS33 rfl rfl (fun h => h) (zz_rc fS29 rfl rfl (fun h => h) (zz_rc fS24 rfl rfl (fun h => h) rfl))))))))
                  have g334 := zz_G.r G_S324 1088 7 (-2147483648) 2147483647 rfl rfl
                  have g335 := zz_G.r G_S38 1088 9 (-2147483648) 2147483647 rfl rfl
                  have e336 : S324 1088 9 = S38 1088 9 := (zz_rc fS324 rfl rfl (fun h => h) (zz_rc fS293 rfl rfl (fun h => h) (zz_rc fS283 rfl rfl (fun h => h) (zz_rc fS42 rfl rfl (fun h => h) rfl))))
                  have g337 := zz_G.r G_S6 1089 1 (-2147483648) 2147483647 rfl rfl
                  have e338 : S324 1089 1 = S6 1089 1 := (zz_rc fS324 rfl rfl (fun h => h) (zz_rc fS293 rfl rfl (fun h => h) (zz_rc fS283 rfl rfl (fun h => h) (zz_rc fS42 rfl rfl (fun h => h) (zz_rc fS38 rfl rfl (fun h => h) (zz_rc fS33 rfl rfl (fun h => h) (zz_rc fS29 rfl rfl (fun h => h) (zz_rc fS24 rfl rfl (fun h => h) (zz_rc fS20 rfl rfl (fun h => h) (zz_rc fS15 rfl rfl (fun h => h) (zz_rc fS11 rfl rfl (fun h => h) rfl)))))))))))
                  have g339 := zz_G.r G_S15 1089 3 (-2147483648) 2147483647 rfl rfl
                  have e340 : S324 1089 3 = S15 1089 3 := (zz_rc fS324 rfl rfl (fun h => h) (zz_rc fS293 rfl rfl (fun h => h) (zz_rc fS283 rfl rfl (fun h => h) (zz_rc fS42 rfl rfl (fun h => h) (zz_rc fS38 rfl rfl (fun h => h) (zz_rc fS33 rfl rfl (fun h => h) (zz_rc fS29 rfl rfl (fun h => h) (zz_rc fS24 rfl rfl (fun h => h) (zz_rc fS20 rfl rfl (fun h => h) rfl)))))))))
                  have g341 := zz_G.r G_S24 1089 5 (-2147483648) 2147483647 rfl rfl
                  have e342 : S324 1089 5 = S24 1089 5 := (zz_rc fS324 rfl rfl (fun h => h) (zz_rc fS293 rfl rfl (fun h => h) (zz_rc fS283 rfl rfl (fun h => h) (zz_rc fS42 rfl rfl (fun h => h) (zz_rc fS38 rfl rfl (fun h => h) (zz_rc fS33 rfl rfl (fun h => h) (zz_rc fS29 rfl rfl (fun h => h) rfl)))))))
                  have g343 := zz_G.r G_S293 1089 7 (-2147483648) 2147483647 rfl rfl
                  have e344 : S324 1089 7 = S293 1089 7 := (zz_rc fS324 rfl rfl (fun h => h) rfl)
                  have g345 := zz_G.r G_S42 1089 9 (-2147483648) 2147483647 rfl rfl
                  have e346 : S324 1089 9 = S42 1089 9 := (zz_rc fS324 rfl rfl (fun h => h) (zz_rc fS293 rfl rfl (fun h => h) (zz_rc fS283 rfl rfl (fun h => h) rfl)))
                  exact zz_vret zd_14_22_494 rfl (Nat.zero_le _) (Nat.zero_le _) ⟨_, rfl, G_S324, F_S324, by omega, by omega, by omega, by omega, by omega, by omega, by omega, by omega, by omega⟩
              by_cases c347 : S0 1087 0 = 7
              · refine zz_swIn 7 328 c347 (by decide) zd_14_22_91 rfl rfl ?_
                refine zz_aload_n (x := 1079) rfl zd_14_22_419 ?_
                refine zz_aload_n (x := 1079) rfl zd_14_22_420 ?_
                refine zz_getr (kd := 0) (z := 1088) zd_14_22_421 zf_Md_39 zT_1079 rfl (zz_ltn hn rfl) (zz_G.eq G_S42 1079 12 1088 rfl rfl) (by decide) 1088 rfl ?_
                refine zz_iconst zd_14_22_424 ?_
                refine zz_iload_n (x := S0 1087 8) rfl zd_14_22_425 ?_
                refine zz_aload_n (x := 1079) rfl zd_14_22_426 ?_
                refine zz_iload_n (x := S0 1087 8) rfl zd_14_22_427 ?_
                refine zz_iload_n (x := S0 1087 7) rfl zd_14_22_428 ?_
                have e348 : S42 1087 6 = S0 1087 6 := (zz_rc fS42 rfl rfl (fun h => h) (zz_rc fS38 rfl rfl (fun h => h) (zz_rc fS33 rfl rfl (fun h => h) (zz_rc fS29 rfl rfl (fun h => h) (zz_rc fS24 rfl rfl (fun h => h) (zz_rc fS20 rfl rfl (fun h => h) (zz_rc fS15 rfl rfl (fun h => h) (zz_rc fS11 rfl rfl (fun h => h) (zz_rc fS6 rfl rfl (fun h => h) (zz_rc fS2 rfl rfl (fun h => h) rfl))))))))))
                have g349 := zz_G.r G_S0 1079 1 2 8 rfl rfl
                have e350 : S42 1079 1 = S0 1079 1 := (zz_rc fS42 rfl rfl (fun h => h) (zz_rc fS38 rfl rfl (fun h => h) (zz_rc fS33 rfl rfl (fun h => h) (zz_rc fS29 rfl rfl (fun h => h) (zz_rc fS24 rfl rfl (fun h => h) (zz_rc fS20 rfl rfl (fun h => h) (zz_rc fS15 rfl rfl (fun h => h) (zz_rc fS11 rfl rfl (fun h => h) (zz_rc fS6 rfl rfl (fun h => h) (zz_rc fS2 rfl rfl (fun h => h) rfl))))))))))
                refine zz_callVI [zi (S0 1087 8), zi (S0 1087 7)] zd_14_22_429 zk_Md_231 zT_1079 (zz_ltn hn rfl) rfl rfl ⟨Nat.le_of_ble_eq_true rfl, Nat.le_of_ble_eq_true rfl⟩ ⟨rfl, rfl⟩ (Nat.zero_le _) (Nat.zero_le _) (zc_rowsEnd_14_21 (S0 1087 8) (S0 1087 7) S42 n hn G_S42 (by omega) (by omega) (by omega)) (fun v352 S351 hP => ?_)
                obtain ⟨rfl, o353, o354⟩ := hP
                rw [show S42 1087 6 = S0 1087 6 from (zz_rc fS42 rfl rfl (fun h => h) (zz_rc fS38 rfl rfl (fun h => h) (zz_rc fS33 rfl rfl (fun h => h) (zz_rc fS29 rfl rfl (fun h => h) (zz_rc fS24 rfl rfl (fun h => h) (zz_rc fS20 rfl rfl (fun h => h) (zz_rc fS15 rfl rfl (fun h => h) (zz_rc fS11 rfl rfl (fun h => h) (zz_rc fS6 rfl rfl (fun h => h) (zz_rc fS2 rfl rfl (fun h => h) rfl)))))))))), show S42 1079 1 = S0 1079 1 from (zz_rc fS42 rfl rfl (fun h => h) (zz_rc fS38 rfl rfl (fun h => h) (zz_rc fS33 rfl rfl (fun h => h) (zz_rc fS29 rfl rfl (fun h => h) (zz_rc fS24 rfl rfl (fun h => h) (zz_rc fS20 rfl rfl (fun h => h) (zz_rc fS15 rfl rfl (fun h => h) (zz_rc fS11 rfl rfl (fun h => h) (zz_rc fS6 rfl rfl (fun h => h) (zz_rc fS2 rfl rfl (fun h => h) rfl))))))))))] at o354
                refine zz_callVV [.ref 1088, zi 3, zi (S0 1087 8), zi v352] zd_14_22_432 zk_Md_227 zT_1079 (zz_ltn hn rfl) rfl rfl ⟨Nat.le_of_ble_eq_true rfl, Nat.le_of_ble_eq_true rfl⟩ ⟨rfl, rfl⟩ (Nat.zero_le _) (Nat.zero_le _) (zc_reach_14_20x_1088_3 (S0 1087 8) v352 S42 n hn G_S42 (by omega) (by omega)) (fun S355 hP => ?_)
                obtain ⟨G_S355, fS355, o357, o358⟩ := hP
                have F_S355 := zz_fr.trans F_S42 fS355 rfl zz_nv
                refine zz_aload_n (x := 1079) rfl zd_14_22_435 ?_
                refine zz_aload_n (x := 1079) rfl zd_14_22_436 ?_
                refine zz_getr (kd := 0) (z := 1089) zd_14_22_437 zf_Md_42 zT_1079 rfl (zz_ltn hn rfl) (zz_G.eq G_S355 1079 13 1089 rfl rfl) (by decide) 1089 rfl ?_
                refine zz_iconst zd_14_22_440 ?_
                refine zz_iload_n (x := S0 1087 9) rfl zd_14_22_441 ?_
                refine zz_aload_n (x := 1079) rfl zd_14_22_442 ?_
                refine zz_iload_n (x := S0 1087 9) rfl zd_14_22_443 ?_
                refine zz_iload_n (x := S0 1087 7) rfl zd_14_22_444 ?_
                have e359 : S355 1087 6 = S0 1087 6 := (zz_rc fS355 rfl rfl (fun h => h) (zz_rc fS42 rfl rfl (fun h => h) (zz_rc fS38 rfl rfl (fun h => h) (zz_rc fS33 rfl rfl (fun h => h) (zz_rc fS29 rfl rfl (fun h => h) (zz_rc fS24 rfl rfl (fun h => h) (zz_rc fS20 rfl rfl (fun h => h) (zz_rc fS15 rfl rfl (fun h => h) (zz_rc fS11 rfl rfl (fun h => h) (zz_rc fS6 rfl rfl (fun h => h) (zz_rc fS2 rfl rfl (fun h => h) rfl)))))))))))
                have e360 : S355 1079 1 = S0 1079 1 := (zz_rc fS355 rfl rfl (fun h => h) (zz_rc fS42 rfl rfl (fun h => h) (zz_rc fS38 rfl rfl (fun h => h) (zz_rc fS33 rfl rfl (fun h => h) (zz_rc fS29 rfl rfl (fun h => h) (zz_rc fS24 rfl rfl (fun h => h) (zz_rc fS20 rfl rfl (fun h => h) (zz_rc fS15 rfl rfl (fun h => h) (zz_rc fS11 rfl rfl (fun h => h) (zz_rc fS6 rfl rfl (fun h => h) (zz_rc fS2 rfl rfl (fun h => h) rfl)))))))))))
                refine zz_callVI [zi (S0 1087 9), zi (S0 1087 7)] zd_14_22_445 zk_Md_231 zT_1079 (zz_ltn hn rfl) rfl rfl ⟨Nat.le_of_ble_eq_true rfl, Nat.le_of_ble_eq_true rfl⟩ ⟨rfl, rfl⟩ (Nat.zero_le _) (Nat.zero_le _) (zc_rowsEnd_14_21 (S0 1087 9) (S0 1087 7) S355 n hn G_S355 (by omega) (by omega) (by omega)) (fun v362 S361 hP => ?_)
                obtain ⟨rfl, o363, o364⟩ := hP
                rw [show S355 1087 6 = S0 1087 6 from (zz_rc fS355 rfl rfl (fun h => h) (zz_rc fS42 rfl rfl (fun h => h) (zz_rc fS38 rfl rfl (fun h => h) (zz_rc fS33 rfl rfl (fun h => h) (zz_rc fS29 rfl rfl (fun h => h) (zz_rc fS24 rfl rfl (fun h => h) (zz_rc fS20 rfl rfl (fun h => h) (zz_rc fS15 rfl rfl (fun h => h) (zz_rc fS11 rfl rfl (fun h => h) (zz_rc fS6 rfl rfl (fun h => h) (zz_rc fS2 rfl rfl (fun h => h) rfl))))))))))), show S355 1079 1 = S0 1079 1 from (zz_rc fS355 rfl rfl (fun h => h) (zz_rc fS42 rfl rfl (fun h => h) (zz_rc fS38 rfl rfl (fun h => h) (zz_rc fS33 rfl rfl (fun h => h) (zz_rc fS29 rfl rfl (fun h => h) (zz_rc fS24 rfl rfl (fun h => h) (zz_rc fS20 rfl rfl (fun h => h) (zz_rc fS15 rfl rfl (fun h => h) (zz_rc fS11 rfl rfl (fun h => h) (zz_rc fS6 rfl rfl (fun h => h) (zz_rc fS2 rfl rfl (fun h => h) rfl)))))))))))] at o364
                refine zz_callVV [.ref 1089, zi 4, zi (S0 1087 9), zi v362] zd_14_22_448 zk_Md_227 zT_1079 (zz_ltn hn rfl) rfl rfl ⟨Nat.le_of_ble_eq_true rfl, Nat.le_of_ble_eq_true rfl⟩ ⟨rfl, rfl⟩ (Nat.zero_le _) (Nat.zero_le _) (zc_reach_14_20x_1089_4 (S0 1087 9) v362 S355 n hn G_S355 (by omega) (by omega)) (fun S365 hP => ?_)
                obtain ⟨G_S365, fS365, o367, o368⟩ := hP
                have F_S365 := zz_fr.trans F_S355 fS365 rfl zz_nv
                refine zz_goto zd_14_22_451 ?_
                have g369 := zz_G.r G_S2 1088 1 (-2147483648) 2147483647 rfl rfl
                have e370 : S365 1088 1 = S2 1088 1 := (zz_rc fS365 rfl rfl (fun h => h) (zz_rc fS355 rfl rfl (fun h => h) (zz_rc fS42 rfl rfl (fun h => h) (zz_rc fS38 rfl rfl (fun h => h) (zz_rc fS33 rfl rfl (fun h => h) (zz_rc fS29 rfl rfl (fun h => h) (zz_rc fS24 rfl rfl (fun h => h) (zz_rc fS20 rfl rfl (fun h => h) (zz_rc fS15 rfl rfl (fun h => h) (zz_rc fS11 rfl rfl (fun h => h) (zz_rc fS6 rfl rfl (fun h => h) rfl)))))))))))
                have g371 := zz_G.r G_S11 1088 3 (-2147483648) 2147483647 rfl rfl
                have e372 : S365 1088 3 = S11 1088 3 := (zz_rc fS365 rfl rfl (fun h => h) (zz_rc fS355 rfl rfl (fun h => h) (zz_rc fS42 rfl rfl (fun h => h) (zz_rc fS38 rfl rfl (fun h => h) (zz_rc fS33 rfl rfl (fun h => h) (zz_rc fS29 rfl rfl (fun h => h) (zz_rc fS24 rfl rfl (fun h => h) (zz_rc fS20 rfl rfl (fun h => h) (zz_rc fS15 rfl rfl (fun h => h) rfl)))))))))
                have g373 := zz_G.r G_S20 1088 5 (-2147483648) 2147483647 rfl rfl
                have e374 : S365 1088 5 = S20 1088 5 := (zz_rc fS365 rfl rfl (fun h => h) (zz_rc fS355 rfl rfl (fun h => h) (zz_rc fS42 rfl rfl (fun h => h) (zz_rc fS38 rfl rfl (fun h => h) (zz_rc fS33 rfl rfl (fun h => h) (zz_rc fS29 rfl rfl (fun h => h) (zz_rc fS24 rfl rfl (fun h => h) rfl)))))))
                have g375 := zz_G.r G_S355 1088 7 (-2147483648) 2147483647 rfl rfl
                have e376 : S365 1088 7 = S355 1088 7 := (zz_rc fS365 rfl rfl (fun h => h) rfl)
                have g377 := zz_G.r G_S38 1088 9 (-2147483648) 2147483647 rfl rfl
                have e378 : S365 1088 9 = S38 1088 9 := (zz_rc fS365 rfl rfl (fun h => h) (zz_rc fS355 rfl rfl (fun h => h) (zz_rc fS42 rfl rfl (fun h => h) rfl)))
                have g379 := zz_G.r G_S6 1089 1 (-2147483648) 2147483647 rfl rfl
                have e380 : S365 1089 1 = S6 1089 1 := (zz_rc fS365 rfl rfl (fun h => h) (zz_rc fS355 rfl rfl (fun h => h) (zz_rc fS42 rfl rfl (fun h => h) (zz_rc fS38 rfl rfl (fun h => h) (zz_rc fS33 rfl rfl (fun h => h) (zz_rc fS29 rfl rfl (fun h => h) (zz_rc fS24 rfl rfl (fun h => h) (zz_rc fS20 rfl rfl (fun h => h) (zz_rc fS15 rfl rfl (fun h => h) (zz_rc fS11 rfl rfl (fun h => h) rfl))))))))))
                have g381 := zz_G.r G_S15 1089 3 (-2147483648) 2147483647 rfl rfl
                have e382 : S365 1089 3 = S15 1089 3 := (zz_rc fS365 rfl rfl (fun h => h) (zz_rc fS355 rfl rfl (fun h => h) (zz_rc fS42 rfl rfl (fun h => h) (zz_rc fS38 rfl rfl (fun h => h) (zz_rc fS33 rfl rfl (fun h => h) (zz_rc fS29 rfl rfl (fun h => h) (zz_rc fS24 rfl rfl (fun h => h) (zz_rc fS20 rfl rfl (fun h => h) rfl))))))))
                have g383 := zz_G.r G_S24 1089 5 (-2147483648) 2147483647 rfl rfl
                have e384 : S365 1089 5 = S24 1089 5 := (zz_rc fS365 rfl rfl (fun h => h) (zz_rc fS355 rfl rfl (fun h => h) (zz_rc fS42 rfl rfl (fun h => h) (zz_rc fS38 rfl rfl (fun h => h) (zz_rc fS33 rfl rfl (fun h => h) (zz_rc fS29 rfl rfl (fun h => h) rfl))))))
                have g385 := zz_G.r G_S33 1089 7 (-2147483648) 2147483647 rfl rfl
                have e386 : S365 1089 7 = S33 1089 7 := (zz_rc fS365 rfl rfl (fun h => h) (zz_rc fS355 rfl rfl (fun h => h) (zz_rc fS42 rfl rfl (fun h => h) (zz_rc fS38 rfl rfl (fun h => h) rfl))))
                have g387 := zz_G.r G_S365 1089 9 (-2147483648) 2147483647 rfl rfl
                exact zz_vret zd_14_22_494 rfl (Nat.zero_le _) (Nat.zero_le _) ⟨_, rfl, G_S365, F_S365, by omega, by omega, by omega, by omega, by omega, by omega, by omega, by omega, by omega⟩
              by_cases c388 : S0 1087 0 = 8
              · refine zz_swIn 8 363 c388 (by decide) zd_14_22_91 rfl rfl ?_
                refine zz_aload_n (x := 1079) rfl zd_14_22_454 ?_
                refine zz_aload_n (x := 1079) rfl zd_14_22_455 ?_
                refine zz_getr (kd := 0) (z := 1088) zd_14_22_456 zf_Md_39 zT_1079 rfl (zz_ltn hn rfl) (zz_G.eq G_S42 1079 12 1088 rfl rfl) (by decide) 1088 rfl ?_
                refine zz_iconst zd_14_22_459 ?_
                refine zz_iload_n (x := S0 1087 8) rfl zd_14_22_460 ?_
                refine zz_aload_n (x := 1079) rfl zd_14_22_461 ?_
                refine zz_iload_n (x := S0 1087 8) rfl zd_14_22_462 ?_
                refine zz_iload_n (x := S0 1087 7) rfl zd_14_22_463 ?_
                have e389 : S42 1087 6 = S0 1087 6 := (zz_rc fS42 rfl rfl (fun h => h) (zz_rc fS38 rfl rfl (fun h => h) (zz_rc fS33 rfl rfl (fun h => h) (zz_rc fS29 rfl rfl (fun h => h) (zz_rc fS24 rfl rfl (fun h => h) (zz_rc fS20 rfl rfl (fun h => h) (zz_rc fS15 rfl rfl (fun h => h) (zz_rc fS11 rfl rfl (fun h => h) (zz_rc fS6 rfl rfl (fun h => h) (zz_rc fS2 rfl rfl (fun h => h) rfl))))))))))
                have g390 := zz_G.r G_S0 1079 1 2 8 rfl rfl
                have e391 : S42 1079 1 = S0 1079 1 := (zz_rc fS42 rfl rfl (fun h => h) (zz_rc fS38 rfl rfl (fun h => h) (zz_rc fS33 rfl rfl (fun h => h) (zz_rc fS29 rfl rfl (fun h => h) (zz_rc fS24 rfl rfl (fun h => h) (zz_rc fS20 rfl rfl (fun h => h) (zz_rc fS15 rfl rfl (fun h => h) (zz_rc fS11 rfl rfl (fun h => h) (zz_rc fS6 rfl rfl (fun h => h) (zz_rc fS2 rfl rfl (fun h => h) rfl))))))))))
                refine zz_callVI [zi (S0 1087 8), zi (S0 1087 7)] zd_14_22_464 zk_Md_231 zT_1079 (zz_ltn hn rfl) rfl rfl ⟨Nat.le_of_ble_eq_true rfl, Nat.le_of_ble_eq_true rfl⟩ ⟨rfl, rfl⟩ (Nat.zero_le _) (Nat.zero_le _) (zc_rowsEnd_14_21 (S0 1087 8) (S0 1087 7) S42 n hn G_S42 (by omega) (by omega) (by omega)) (fun v393 S392 hP => ?_)
                obtain ⟨rfl, o394, o395⟩ := hP
                rw [show S42 1087 6 = S0 1087 6 from (zz_rc fS42 rfl rfl (fun h => h) (zz_rc fS38 rfl rfl (fun h => h) (zz_rc fS33 rfl rfl (fun h => h) (zz_rc fS29 rfl rfl (fun h => h) (zz_rc fS24 rfl rfl (fun h => h) (zz_rc fS20 rfl rfl (fun h => h) (zz_rc fS15 rfl rfl (fun h => h) (zz_rc fS11 rfl rfl (fun h => h) (zz_rc fS6 rfl rfl (fun h => h) (zz_rc fS2 rfl rfl (fun h => h) rfl)))))))))), show S42 1079 1 = S0 1079 1 from (zz_rc fS42 rfl rfl (fun h => h) (zz_rc fS38 rfl rfl (fun h => h) (zz_rc fS33 rfl rfl (fun h => h) (zz_rc fS29 rfl rfl (fun h => h) (zz_rc fS24 rfl rfl (fun h => h) (zz_rc fS20 rfl rfl (fun h => h) (zz_rc fS15 rfl rfl (fun h => h) (zz_rc fS11 rfl rfl (fun h => h) (zz_rc fS6 rfl rfl (fun h => h) (zz_rc fS2 rfl rfl (fun h => h) rfl))))))))))] at o395
                refine zz_callVV [.ref 1088, zi 4, zi (S0 1087 8), zi v393] zd_14_22_467 zk_Md_227 zT_1079 (zz_ltn hn rfl) rfl rfl ⟨Nat.le_of_ble_eq_true rfl, Nat.le_of_ble_eq_true rfl⟩ ⟨rfl, rfl⟩ (Nat.zero_le _) (Nat.zero_le _) (zc_reach_14_20x_1088_4 (S0 1087 8) v393 S42 n hn G_S42 (by omega) (by omega)) (fun S396 hP => ?_)
                obtain ⟨G_S396, fS396, o398, o399⟩ := hP
                have F_S396 := zz_fr.trans F_S42 fS396 rfl zz_nv
                refine zz_aload_n (x := 1079) rfl zd_14_22_470 ?_
                refine zz_aload_n (x := 1079) rfl zd_14_22_471 ?_
                refine zz_getr (kd := 0) (z := 1089) zd_14_22_472 zf_Md_42 zT_1079 rfl (zz_ltn hn rfl) (zz_G.eq G_S396 1079 13 1089 rfl rfl) (by decide) 1089 rfl ?_
                refine zz_iconst zd_14_22_475 ?_
                refine zz_aload_n (x := 1079) rfl zd_14_22_476 ?_
                refine zz_getr (kd := 0) (z := 1087) zd_14_22_477 zf_Md_36 zT_1079 rfl (zz_ltn hn rfl) (zz_G.eq G_S396 1079 11 1087 rfl rfl) (by decide) 1087 rfl ?_
                refine zz_iconst zd_14_22_480 ?_
                refine zz_iald (z := S0 1087 5) zd_14_22_481 zT_1087 rfl (zz_ltn hn rfl) (by decide) (by decide) (zz_rc fS396 rfl rfl (fun h => h) (zz_rc fS42 rfl rfl (fun h => h) (zz_rc fS38 rfl rfl (fun h => h) (zz_rc fS33 rfl rfl (fun h => h) (zz_rc fS29 rfl rfl (fun h => h) (zz_rc fS24 rfl rfl (fun h => h) (zz_rc fS20 rfl rfl (fun h => h) (zz_rc fS15 rfl rfl (fun h => h) (zz_rc fS11 rfl rfl (fun h => h) (zz_rc fS6 rfl rfl (fun h => h) (zz_rc fS2 rfl rfl (fun h => h) rfl))))))))))) ?_
                refine zz_iload (x := (S0 1087 5) + (((S0 1087 6) - 1) * (S0 1087 10))) rfl zd_14_22_482 ?_
                refine zz_iload_n (x := S0 1087 7) rfl zd_14_22_484 ?_
                refine zz_iadd zd_14_22_485 ?_
                refine zz_nme (fun v400 ev400 => ?_)
                refine zz_iconst zd_14_22_486 ?_
                refine zz_isub zd_14_22_487 ?_
                refine zz_callVV [.ref 1089, zi 0, zi (S0 1087 5), zi (v400 - 1)] zd_14_22_488 zk_Md_227 zT_1079 (zz_ltn hn rfl) rfl rfl ⟨Nat.le_of_ble_eq_true rfl, Nat.le_of_ble_eq_true rfl⟩ ⟨rfl, rfl⟩ (Nat.zero_le _) (Nat.zero_le _) (zc_reach_14_20x_1089_0 (S0 1087 5) (v400 - 1) S396 n hn G_S396 (by omega) (by omega)) (fun S401 hP => ?_)
                obtain ⟨G_S401, fS401, o403, o404⟩ := hP
                have F_S401 := zz_fr.trans F_S396 fS401 rfl zz_nv
                refine zz_goto zd_14_22_491 ?_
                have g405 := zz_G.r G_S2 1088 1 (-2147483648) 2147483647 rfl rfl
                have e406 : S401 1088 1 = S2 1088 1 := (zz_rc fS401 rfl rfl (fun h => h) (zz_rc fS396 rfl rfl (fun h => h) (zz_rc fS42 rfl rfl (fun h => h) (zz_rc fS38 rfl rfl (fun h => h) (zz_rc fS33 rfl rfl (fun h => h) (zz_rc fS29 rfl rfl (fun h => h) (zz_rc fS24 rfl rfl (fun h => h) (zz_rc fS20 rfl rfl (fun h => h) (zz_rc fS15 rfl rfl (fun h => h) (zz_rc fS11 rfl rfl (fun h => h) (zz_rc fS6 rfl rfl (fun h => h) rfl)))))))))))
                have g407 := zz_G.r G_S11 1088 3 (-2147483648) 2147483647 rfl rfl
                have e408 : S401 1088 3 = S11 1088 3 := (zz_rc fS401 rfl rfl (fun h => h) (zz_rc fS396 rfl rfl (fun h => h) (zz_rc fS42 rfl rfl (fun h => h) (zz_rc fS38 rfl rfl (fun h => h) (zz_rc fS33 rfl rfl (fun h => h) (zz_rc fS29 rfl rfl (fun h => h) (zz_rc fS24 rfl rfl (fun h => h) (zz_rc fS20 rfl rfl (fun h => h) (zz_rc fS15 rfl rfl (fun h => h) rfl)))))))))
                have g409 := zz_G.r G_S20 1088 5 (-2147483648) 2147483647 rfl rfl
                have e410 : S401 1088 5 = S20 1088 5 := (zz_rc fS401 rfl rfl (fun h => h) (zz_rc fS396 rfl rfl (fun h => h) (zz_rc fS42 rfl rfl (fun h => h) (zz_rc fS38 rfl rfl (fun h => h) (zz_rc fS33 rfl rfl (fun h => h) (zz_rc fS29 rfl rfl (fun h => h) (zz_rc fS24 rfl rfl (fun h => h) rfl)))))))
                have g411 := zz_G.r G_S29 1088 7 (-2147483648) 2147483647 rfl rfl
                have e412 : S401 1088 7 = S29 1088 7 := (zz_rc fS401 rfl rfl (fun h => h) (zz_rc fS396 rfl rfl (fun h => h) (zz_rc fS42 rfl rfl (fun h => h) (zz_rc fS38 rfl rfl (fun h => h) (zz_rc fS33 rfl rfl (fun h => h) rfl)))))
                have g413 := zz_G.r G_S396 1088 9 (-2147483648) 2147483647 rfl rfl
                have e414 : S401 1088 9 = S396 1088 9 := (zz_rc fS401 rfl rfl (fun h => h) rfl)
                have g415 := zz_G.r G_S401 1089 1 (-2147483648) 2147483647 rfl rfl
                have g416 := zz_G.r G_S15 1089 3 (-2147483648) 2147483647 rfl rfl
                have e417 : S401 1089 3 = S15 1089 3 := (zz_rc fS401 rfl rfl (fun h => h) (zz_rc fS396 rfl rfl (fun h => h) (zz_rc fS42 rfl rfl (fun h => h) (zz_rc fS38 rfl rfl (fun h => h) (zz_rc fS33 rfl rfl (fun h => h) (zz_rc fS29 rfl rfl (fun h => h) (zz_rc fS24 rfl rfl (fun h => h) (zz_rc fS20 rfl rfl (fun h => h) rfl))))))))
                have g418 := zz_G.r G_S24 1089 5 (-2147483648) 2147483647 rfl rfl
                have e419 : S401 1089 5 = S24 1089 5 := (zz_rc fS401 rfl rfl (fun h => h) (zz_rc fS396 rfl rfl (fun h => h) (zz_rc fS42 rfl rfl (fun h => h) (zz_rc fS38 rfl rfl (fun h => h) (zz_rc fS33 rfl rfl (fun h => h) (zz_rc fS29 rfl rfl (fun h => h) rfl))))))
                have g420 := zz_G.r G_S33 1089 7 (-2147483648) 2147483647 rfl rfl
                have e421 : S401 1089 7 = S33 1089 7 := (zz_rc fS401 rfl rfl (fun h => h) (zz_rc fS396 rfl rfl (fun h => h) (zz_rc fS42 rfl rfl (fun h => h) (zz_rc fS38 rfl rfl (fun h => h) rfl))))
                have g422 := zz_G.r G_S42 1089 9 (-2147483648) 2147483647 rfl rfl
                have e423 : S401 1089 9 = S42 1089 9 := (zz_rc fS401 rfl rfl (fun h => h) (zz_rc fS396 rfl rfl (fun h => h) rfl))
                exact zz_vret zd_14_22_494 rfl (Nat.zero_le _) (Nat.zero_le _) ⟨_, rfl, G_S401, F_S401, by omega, by omega, by omega, by omega, by omega, by omega, by omega, by omega, by omega⟩
              refine zz_swOut (by omega) (by omega) zd_14_22_91 rfl ?_
              have g425 := zz_G.r G_S2 1088 1 (-2147483648) 2147483647 rfl rfl
              have e426 : S42 1088 1 = S2 1088 1 := (zz_rc fS42 rfl rfl (fun h => h) (zz_rc fS38 rfl rfl (fun h => h) (zz_rc fS33 rfl rfl (fun h => h) (zz_rc fS29 rfl rfl (fun h => h) (zz_rc fS24 rfl rfl (fun h => h) (zz_rc fS20 rfl rfl (fun h => h) (zz_rc fS15 rfl rfl (fun h => h) (zz_rc fS11 rfl rfl (fun h => h) (zz_rc fS6 rfl rfl (fun h => h) rfl)))))))))
              have g427 := zz_G.r G_S11 1088 3 (-2147483648) 2147483647 rfl rfl
              have e428 : S42 1088 3 = S11 1088 3 := (zz_rc fS42 rfl rfl (fun h => h) (zz_rc fS38 rfl rfl (fun h => h) (zz_rc fS33 rfl rfl (fun h => h) (zz_rc fS29 rfl rfl (fun h => h) (zz_rc fS24 rfl rfl (fun h => h) (zz_rc fS20 rfl rfl (fun h => h) (zz_rc fS15 rfl rfl (fun h => h) rfl)))))))
              have g429 := zz_G.r G_S20 1088 5 (-2147483648) 2147483647 rfl rfl
              have e430 : S42 1088 5 = S20 1088 5 := (zz_rc fS42 rfl rfl (fun h => h) (zz_rc fS38 rfl rfl (fun h => h) (zz_rc fS33 rfl rfl (fun h => h) (zz_rc fS29 rfl rfl (fun h => h) (zz_rc fS24 rfl rfl (fun h => h) rfl)))))
              have g431 := zz_G.r G_S29 1088 7 (-2147483648) 2147483647 rfl rfl
              have e432 : S42 1088 7 = S29 1088 7 := (zz_rc fS42 rfl rfl (fun h => h) (zz_rc fS38 rfl rfl (fun h => h) (zz_rc fS33 rfl rfl (fun h => h) rfl)))
              have g433 := zz_G.r G_S38 1088 9 (-2147483648) 2147483647 rfl rfl
              have e434 : S42 1088 9 = S38 1088 9 := (zz_rc fS42 rfl rfl (fun h => h) rfl)
              have g435 := zz_G.r G_S6 1089 1 (-2147483648) 2147483647 rfl rfl
              have e436 : S42 1089 1 = S6 1089 1 := (zz_rc fS42 rfl rfl (fun h => h) (zz_rc fS38 rfl rfl (fun h => h) (zz_rc fS33 rfl rfl (fun h => h) (zz_rc fS29 rfl rfl (fun h => h) (zz_rc fS24 rfl rfl (fun h => h) (zz_rc fS20 rfl rfl (fun h => h) (zz_rc fS15 rfl rfl (fun h => h) (zz_rc fS11 rfl rfl (fun h => h) rfl))))))))
              have g437 := zz_G.r G_S15 1089 3 (-2147483648) 2147483647 rfl rfl
              have e438 : S42 1089 3 = S15 1089 3 := (zz_rc fS42 rfl rfl (fun h => h) (zz_rc fS38 rfl rfl (fun h => h) (zz_rc fS33 rfl rfl (fun h => h) (zz_rc fS29 rfl rfl (fun h => h) (zz_rc fS24 rfl rfl (fun h => h) (zz_rc fS20 rfl rfl (fun h => h) rfl))))))
              have g439 := zz_G.r G_S24 1089 5 (-2147483648) 2147483647 rfl rfl
              have e440 : S42 1089 5 = S24 1089 5 := (zz_rc fS42 rfl rfl (fun h => h) (zz_rc fS38 rfl rfl (fun h => h) (zz_rc fS33 rfl rfl (fun h => h) (zz_rc fS29 rfl rfl (fun h => h) rfl))))
              have g441 := zz_G.r G_S33 1089 7 (-2147483648) 2147483647 rfl rfl
              have e442 : S42 1089 7 = S33 1089 7 := (zz_rc fS42 rfl rfl (fun h => h) (zz_rc fS38 rfl rfl (fun h => h) rfl))
              have g443 := zz_G.r G_S42 1089 9 (-2147483648) 2147483647 rfl rfl
              exact zz_vret zd_14_22_494 rfl (Nat.zero_le _) (Nat.zero_le _) ⟨_, rfl, G_S42, F_S42, by omega, by omega, by omega, by omega, by omega, by omega, by omega, by omega, by omega⟩
            · exfalso; omega
abbrev zy_names_14_23 : mm_Y := (⟨"TensorForgeModel", "names", "(II)Z"⟩, prog_14_method_23_code, 4, (some .boolean))
theorem zyw_names_14_23 : mm_Yw zy_names_14_23 2 := ⟨mm_tb_1 1898 (by decide +kernel) rfl, mm_tb_1 12 (by decide +kernel) rfl, ⟨by decide, by decide⟩, by decide +kernel⟩
theorem zd_14_23_51 : zz_W zy_names_14_23 51 68 5 10 #[37, 68, 68, 39, 51, 53] := ⟨37, by decide +kernel⟩
theorem zg_14_23_0 : zq_at zy_names_14_23.2.1 0 26 ∧ zq_at zy_names_14_23.2.1 1 4 ∧ zq_at zy_names_14_23.2.1 2 159 ∧ zq_at zy_names_14_23.2.1 3 0 ∧ zq_at zy_names_14_23.2.1 4 19 ∧ zq_at zy_names_14_23.2.1 21 4 ∧ zq_at zy_names_14_23.2.1 22 167 ∧ zq_at zy_names_14_23.2.1 23 0 ∧ zq_at zy_names_14_23.2.1 24 4 ∧ zq_at zy_names_14_23.2.1 26 61 ∧ zq_at zy_names_14_23.2.1 27 26 ∧ zq_at zy_names_14_23.2.1 28 8 ∧ zq_at zy_names_14_23.2.1 29 159 ∧ zq_at zy_names_14_23.2.1 30 0 ∧ zq_at zy_names_14_23.2.1 31 15 ∧ zq_at zy_names_14_23.2.1 32 26 ∧ zq_at zy_names_14_23.2.1 33 16 ∧ zq_at zy_names_14_23.2.1 34 6 ∧ zq_at zy_names_14_23.2.1 35 159 ∧ zq_at zy_names_14_23.2.1 36 0 ∧ zq_at zy_names_14_23.2.1 37 9 ∧ zq_at zy_names_14_23.2.1 38 26 ∧ zq_at zy_names_14_23.2.1 39 16 ∧ zq_at zy_names_14_23.2.1 40 7 := by decide +kernel
theorem zd_14_23_0 : zz_D zy_names_14_23 0 (.iload_n 0) 1 1 := ⟨zq_26 zg_14_23_0.1, rfl⟩
theorem zd_14_23_1 : zz_D zy_names_14_23 1 (.iconst 1) 1 2 := ⟨zq_4 zg_14_23_0.2.1, rfl⟩
theorem zd_14_23_2 : zz_B zy_names_14_23 2 (Instr.if_icmp .eq) 21 5 := ⟨19, zq_159 zg_14_23_0.2.2.1 zg_14_23_0.2.2.2.1 zg_14_23_0.2.2.2.2.1 (by decide), rfl, rfl⟩
theorem zd_14_23_21 : zz_D zy_names_14_23 21 (.iconst 1) 1 22 := ⟨zq_4 zg_14_23_0.2.2.2.2.2.1, rfl⟩
theorem zd_14_23_22 : zz_B zy_names_14_23 22 Instr.goto 26 25 := ⟨4, zq_167 zg_14_23_0.2.2.2.2.2.2.1 zg_14_23_0.2.2.2.2.2.2.2.1 zg_14_23_0.2.2.2.2.2.2.2.2.1 (by decide), rfl, rfl⟩
theorem zd_14_23_26 : zz_D zy_names_14_23 26 (.istore_n 2) 1 27 := ⟨zq_61 zg_14_23_0.2.2.2.2.2.2.2.2.2.1, rfl⟩
theorem zd_14_23_27 : zz_D zy_names_14_23 27 (.iload_n 0) 1 28 := ⟨zq_26 zg_14_23_0.2.2.2.2.2.2.2.2.2.2.1, rfl⟩
theorem zd_14_23_28 : zz_D zy_names_14_23 28 (.iconst 5) 1 29 := ⟨zq_8 zg_14_23_0.2.2.2.2.2.2.2.2.2.2.2.1, rfl⟩
theorem zd_14_23_29 : zz_B zy_names_14_23 29 (Instr.if_icmp .eq) 44 32 := ⟨15, zq_159 zg_14_23_0.2.2.2.2.2.2.2.2.2.2.2.2.1 zg_14_23_0.2.2.2.2.2.2.2.2.2.2.2.2.2.1 zg_14_23_0.2.2.2.2.2.2.2.2.2.2.2.2.2.2.1 (by decide), rfl, rfl⟩
theorem zd_14_23_32 : zz_D zy_names_14_23 32 (.iload_n 0) 1 33 := ⟨zq_26 zg_14_23_0.2.2.2.2.2.2.2.2.2.2.2.2.2.2.2.1, rfl⟩
theorem zd_14_23_33 : zz_D zy_names_14_23 33 (.bipush 6) 2 35 := ⟨zq_16 zg_14_23_0.2.2.2.2.2.2.2.2.2.2.2.2.2.2.2.2.1 zg_14_23_0.2.2.2.2.2.2.2.2.2.2.2.2.2.2.2.2.2.1 (by decide), rfl⟩
theorem zd_14_23_35 : zz_B zy_names_14_23 35 (Instr.if_icmp .eq) 44 38 := ⟨9, zq_159 zg_14_23_0.2.2.2.2.2.2.2.2.2.2.2.2.2.2.2.2.2.2.1 zg_14_23_0.2.2.2.2.2.2.2.2.2.2.2.2.2.2.2.2.2.2.2.1 zg_14_23_0.2.2.2.2.2.2.2.2.2.2.2.2.2.2.2.2.2.2.2.2.1 (by decide), rfl, rfl⟩
theorem zd_14_23_38 : zz_D zy_names_14_23 38 (.iload_n 0) 1 39 := ⟨zq_26 zg_14_23_0.2.2.2.2.2.2.2.2.2.2.2.2.2.2.2.2.2.2.2.2.2.1, rfl⟩
theorem zd_14_23_39 : zz_D zy_names_14_23 39 (.bipush 7) 2 41 := ⟨zq_16 zg_14_23_0.2.2.2.2.2.2.2.2.2.2.2.2.2.2.2.2.2.2.2.2.2.2.1 zg_14_23_0.2.2.2.2.2.2.2.2.2.2.2.2.2.2.2.2.2.2.2.2.2.2.2 (by decide), rfl⟩
theorem zg_14_23_41 : zq_at zy_names_14_23.2.1 41 160 ∧ zq_at zy_names_14_23.2.1 42 0 ∧ zq_at zy_names_14_23.2.1 43 7 ∧ zq_at zy_names_14_23.2.1 48 3 ∧ zq_at zy_names_14_23.2.1 49 62 ∧ zq_at zy_names_14_23.2.1 50 27 ∧ zq_at zy_names_14_23.2.1 88 28 ∧ zq_at zy_names_14_23.2.1 89 172 ∧ zq_at zy_names_14_23.2.1 119 29 ∧ zq_at zy_names_14_23.2.1 120 154 ∧ zq_at zy_names_14_23.2.1 121 0 ∧ zq_at zy_names_14_23.2.1 122 9 ∧ zq_at zy_names_14_23.2.1 123 26 ∧ zq_at zy_names_14_23.2.1 124 16 ∧ zq_at zy_names_14_23.2.1 125 9 ∧ zq_at zy_names_14_23.2.1 126 160 ∧ zq_at zy_names_14_23.2.1 127 0 ∧ zq_at zy_names_14_23.2.1 128 7 ∧ zq_at zy_names_14_23.2.1 133 3 ∧ zq_at zy_names_14_23.2.1 134 172 ∧ zq_at zy_names_14_23.2.1 90 26 ∧ zq_at zy_names_14_23.2.1 91 16 ∧ zq_at zy_names_14_23.2.1 92 9 := by decide +kernel
theorem zd_14_23_41 : zz_B zy_names_14_23 41 (Instr.if_icmp .ne) 48 44 := ⟨7, zq_160 zg_14_23_41.1 zg_14_23_41.2.1 zg_14_23_41.2.2.1 (by decide), rfl, rfl⟩
theorem zd_14_23_48 : zz_D zy_names_14_23 48 (.iconst 0) 1 49 := ⟨zq_3 zg_14_23_41.2.2.2.1, rfl⟩
theorem zd_14_23_49 : zz_D zy_names_14_23 49 (.istore_n 3) 1 50 := ⟨zq_62 zg_14_23_41.2.2.2.2.1, rfl⟩
theorem zd_14_23_50 : zz_D zy_names_14_23 50 (.iload_n 1) 1 51 := ⟨zq_27 zg_14_23_41.2.2.2.2.2.1, rfl⟩
theorem zd_14_23_88 : zz_D zy_names_14_23 88 (.iload_n 2) 1 89 := ⟨zq_28 zg_14_23_41.2.2.2.2.2.2.1, rfl⟩
theorem zd_14_23_89 : zz_D zy_names_14_23 89 (.ireturn) 1 90 := ⟨zq_172 zg_14_23_41.2.2.2.2.2.2.2.1, rfl⟩
theorem zd_14_23_119 : zz_D zy_names_14_23 119 (.iload_n 3) 1 120 := ⟨zq_29 zg_14_23_41.2.2.2.2.2.2.2.2.1, rfl⟩
theorem zd_14_23_120 : zz_B zy_names_14_23 120 (Instr.ifCond .ne) 129 123 := ⟨9, zq_154 zg_14_23_41.2.2.2.2.2.2.2.2.2.1 zg_14_23_41.2.2.2.2.2.2.2.2.2.2.1 zg_14_23_41.2.2.2.2.2.2.2.2.2.2.2.1 (by decide), rfl, rfl⟩
theorem zd_14_23_123 : zz_D zy_names_14_23 123 (.iload_n 0) 1 124 := ⟨zq_26 zg_14_23_41.2.2.2.2.2.2.2.2.2.2.2.2.1, rfl⟩
theorem zd_14_23_124 : zz_D zy_names_14_23 124 (.bipush 9) 2 126 := ⟨zq_16 zg_14_23_41.2.2.2.2.2.2.2.2.2.2.2.2.2.1 zg_14_23_41.2.2.2.2.2.2.2.2.2.2.2.2.2.2.1 (by decide), rfl⟩
theorem zd_14_23_126 : zz_B zy_names_14_23 126 (Instr.if_icmp .ne) 133 129 := ⟨7, zq_160 zg_14_23_41.2.2.2.2.2.2.2.2.2.2.2.2.2.2.2.1 zg_14_23_41.2.2.2.2.2.2.2.2.2.2.2.2.2.2.2.2.1 zg_14_23_41.2.2.2.2.2.2.2.2.2.2.2.2.2.2.2.2.2.1 (by decide), rfl, rfl⟩
theorem zd_14_23_133 : zz_D zy_names_14_23 133 (.iconst 0) 1 134 := ⟨zq_3 zg_14_23_41.2.2.2.2.2.2.2.2.2.2.2.2.2.2.2.2.2.2.1, rfl⟩
theorem zd_14_23_134 : zz_D zy_names_14_23 134 (.ireturn) 1 135 := ⟨zq_172 zg_14_23_41.2.2.2.2.2.2.2.2.2.2.2.2.2.2.2.2.2.2.2.1, rfl⟩
theorem zd_14_23_90 : zz_D zy_names_14_23 90 (.iload_n 0) 1 91 := ⟨zq_26 zg_14_23_41.2.2.2.2.2.2.2.2.2.2.2.2.2.2.2.2.2.2.2.2.1, rfl⟩
theorem zd_14_23_91 : zz_D zy_names_14_23 91 (.bipush 9) 2 93 := ⟨zq_16 zg_14_23_41.2.2.2.2.2.2.2.2.2.2.2.2.2.2.2.2.2.2.2.2.2.1 zg_14_23_41.2.2.2.2.2.2.2.2.2.2.2.2.2.2.2.2.2.2.2.2.2.2 (by decide), rfl⟩
theorem zg_14_23_93 : zq_at zy_names_14_23.2.1 93 159 ∧ zq_at zy_names_14_23.2.1 94 0 ∧ zq_at zy_names_14_23.2.1 95 7 ∧ zq_at zy_names_14_23.2.1 96 4 ∧ zq_at zy_names_14_23.2.1 97 167 ∧ zq_at zy_names_14_23.2.1 98 0 ∧ zq_at zy_names_14_23.2.1 99 4 ∧ zq_at zy_names_14_23.2.1 101 172 ∧ zq_at zy_names_14_23.2.1 102 29 ∧ zq_at zy_names_14_23.2.1 103 172 ∧ zq_at zy_names_14_23.2.1 104 28 ∧ zq_at zy_names_14_23.2.1 105 154 ∧ zq_at zy_names_14_23.2.1 106 0 ∧ zq_at zy_names_14_23.2.1 107 8 ∧ zq_at zy_names_14_23.2.1 113 4 ∧ zq_at zy_names_14_23.2.1 114 167 ∧ zq_at zy_names_14_23.2.1 115 0 ∧ zq_at zy_names_14_23.2.1 116 4 ∧ zq_at zy_names_14_23.2.1 118 172 ∧ zq_at zy_names_14_23.2.1 5 26 ∧ zq_at zy_names_14_23.2.1 6 5 ∧ zq_at zy_names_14_23.2.1 7 159 ∧ zq_at zy_names_14_23.2.1 8 0 ∧ zq_at zy_names_14_23.2.1 9 14 := by decide +kernel
theorem zd_14_23_93 : zz_B zy_names_14_23 93 (Instr.if_icmp .eq) 100 96 := ⟨7, zq_159 zg_14_23_93.1 zg_14_23_93.2.1 zg_14_23_93.2.2.1 (by decide), rfl, rfl⟩
theorem zd_14_23_96 : zz_D zy_names_14_23 96 (.iconst 1) 1 97 := ⟨zq_4 zg_14_23_93.2.2.2.1, rfl⟩
theorem zd_14_23_97 : zz_B zy_names_14_23 97 Instr.goto 101 100 := ⟨4, zq_167 zg_14_23_93.2.2.2.2.1 zg_14_23_93.2.2.2.2.2.1 zg_14_23_93.2.2.2.2.2.2.1 (by decide), rfl, rfl⟩
theorem zd_14_23_101 : zz_D zy_names_14_23 101 (.ireturn) 1 102 := ⟨zq_172 zg_14_23_93.2.2.2.2.2.2.2.1, rfl⟩
theorem zd_14_23_102 : zz_D zy_names_14_23 102 (.iload_n 3) 1 103 := ⟨zq_29 zg_14_23_93.2.2.2.2.2.2.2.2.1, rfl⟩
theorem zd_14_23_103 : zz_D zy_names_14_23 103 (.ireturn) 1 104 := ⟨zq_172 zg_14_23_93.2.2.2.2.2.2.2.2.2.1, rfl⟩
theorem zd_14_23_104 : zz_D zy_names_14_23 104 (.iload_n 2) 1 105 := ⟨zq_28 zg_14_23_93.2.2.2.2.2.2.2.2.2.2.1, rfl⟩
theorem zd_14_23_105 : zz_B zy_names_14_23 105 (Instr.ifCond .ne) 113 108 := ⟨8, zq_154 zg_14_23_93.2.2.2.2.2.2.2.2.2.2.2.1 zg_14_23_93.2.2.2.2.2.2.2.2.2.2.2.2.1 zg_14_23_93.2.2.2.2.2.2.2.2.2.2.2.2.2.1 (by decide), rfl, rfl⟩
theorem zd_14_23_113 : zz_D zy_names_14_23 113 (.iconst 1) 1 114 := ⟨zq_4 zg_14_23_93.2.2.2.2.2.2.2.2.2.2.2.2.2.2.1, rfl⟩
theorem zd_14_23_114 : zz_B zy_names_14_23 114 Instr.goto 118 117 := ⟨4, zq_167 zg_14_23_93.2.2.2.2.2.2.2.2.2.2.2.2.2.2.2.1 zg_14_23_93.2.2.2.2.2.2.2.2.2.2.2.2.2.2.2.2.1 zg_14_23_93.2.2.2.2.2.2.2.2.2.2.2.2.2.2.2.2.2.1 (by decide), rfl, rfl⟩
theorem zd_14_23_118 : zz_D zy_names_14_23 118 (.ireturn) 1 119 := ⟨zq_172 zg_14_23_93.2.2.2.2.2.2.2.2.2.2.2.2.2.2.2.2.2.2.1, rfl⟩
theorem zd_14_23_5 : zz_D zy_names_14_23 5 (.iload_n 0) 1 6 := ⟨zq_26 zg_14_23_93.2.2.2.2.2.2.2.2.2.2.2.2.2.2.2.2.2.2.2.1, rfl⟩
theorem zd_14_23_6 : zz_D zy_names_14_23 6 (.iconst 2) 1 7 := ⟨zq_5 zg_14_23_93.2.2.2.2.2.2.2.2.2.2.2.2.2.2.2.2.2.2.2.2.1, rfl⟩
theorem zd_14_23_7 : zz_B zy_names_14_23 7 (Instr.if_icmp .eq) 21 10 := ⟨14, zq_159 zg_14_23_93.2.2.2.2.2.2.2.2.2.2.2.2.2.2.2.2.2.2.2.2.2.1 zg_14_23_93.2.2.2.2.2.2.2.2.2.2.2.2.2.2.2.2.2.2.2.2.2.2.1 zg_14_23_93.2.2.2.2.2.2.2.2.2.2.2.2.2.2.2.2.2.2.2.2.2.2.2 (by decide), rfl, rfl⟩
theorem zg_14_23_10 : zq_at zy_names_14_23.2.1 10 26 ∧ zq_at zy_names_14_23.2.1 11 7 ∧ zq_at zy_names_14_23.2.1 12 159 ∧ zq_at zy_names_14_23.2.1 13 0 ∧ zq_at zy_names_14_23.2.1 14 9 ∧ zq_at zy_names_14_23.2.1 15 26 ∧ zq_at zy_names_14_23.2.1 16 16 ∧ zq_at zy_names_14_23.2.1 17 8 ∧ zq_at zy_names_14_23.2.1 18 160 ∧ zq_at zy_names_14_23.2.1 19 0 ∧ zq_at zy_names_14_23.2.1 20 7 ∧ zq_at zy_names_14_23.2.1 25 3 ∧ zq_at zy_names_14_23.2.1 44 4 ∧ zq_at zy_names_14_23.2.1 45 167 ∧ zq_at zy_names_14_23.2.1 46 0 ∧ zq_at zy_names_14_23.2.1 47 4 ∧ zq_at zy_names_14_23.2.1 129 4 ∧ zq_at zy_names_14_23.2.1 130 167 ∧ zq_at zy_names_14_23.2.1 131 0 ∧ zq_at zy_names_14_23.2.1 132 4 ∧ zq_at zy_names_14_23.2.1 108 26 ∧ zq_at zy_names_14_23.2.1 109 8 := by decide +kernel
theorem zd_14_23_10 : zz_D zy_names_14_23 10 (.iload_n 0) 1 11 := ⟨zq_26 zg_14_23_10.1, rfl⟩
theorem zd_14_23_11 : zz_D zy_names_14_23 11 (.iconst 4) 1 12 := ⟨zq_7 zg_14_23_10.2.1, rfl⟩
theorem zd_14_23_12 : zz_B zy_names_14_23 12 (Instr.if_icmp .eq) 21 15 := ⟨9, zq_159 zg_14_23_10.2.2.1 zg_14_23_10.2.2.2.1 zg_14_23_10.2.2.2.2.1 (by decide), rfl, rfl⟩
theorem zd_14_23_15 : zz_D zy_names_14_23 15 (.iload_n 0) 1 16 := ⟨zq_26 zg_14_23_10.2.2.2.2.2.1, rfl⟩
theorem zd_14_23_16 : zz_D zy_names_14_23 16 (.bipush 8) 2 18 := ⟨zq_16 zg_14_23_10.2.2.2.2.2.2.1 zg_14_23_10.2.2.2.2.2.2.2.1 (by decide), rfl⟩
theorem zd_14_23_18 : zz_B zy_names_14_23 18 (Instr.if_icmp .ne) 25 21 := ⟨7, zq_160 zg_14_23_10.2.2.2.2.2.2.2.2.1 zg_14_23_10.2.2.2.2.2.2.2.2.2.1 zg_14_23_10.2.2.2.2.2.2.2.2.2.2.1 (by decide), rfl, rfl⟩
theorem zd_14_23_25 : zz_D zy_names_14_23 25 (.iconst 0) 1 26 := ⟨zq_3 zg_14_23_10.2.2.2.2.2.2.2.2.2.2.2.1, rfl⟩
theorem zd_14_23_44 : zz_D zy_names_14_23 44 (.iconst 1) 1 45 := ⟨zq_4 zg_14_23_10.2.2.2.2.2.2.2.2.2.2.2.2.1, rfl⟩
theorem zd_14_23_45 : zz_B zy_names_14_23 45 Instr.goto 49 48 := ⟨4, zq_167 zg_14_23_10.2.2.2.2.2.2.2.2.2.2.2.2.2.1 zg_14_23_10.2.2.2.2.2.2.2.2.2.2.2.2.2.2.1 zg_14_23_10.2.2.2.2.2.2.2.2.2.2.2.2.2.2.2.1 (by decide), rfl, rfl⟩
theorem zd_14_23_129 : zz_D zy_names_14_23 129 (.iconst 1) 1 130 := ⟨zq_4 zg_14_23_10.2.2.2.2.2.2.2.2.2.2.2.2.2.2.2.2.1, rfl⟩
theorem zd_14_23_130 : zz_B zy_names_14_23 130 Instr.goto 134 133 := ⟨4, zq_167 zg_14_23_10.2.2.2.2.2.2.2.2.2.2.2.2.2.2.2.2.2.1 zg_14_23_10.2.2.2.2.2.2.2.2.2.2.2.2.2.2.2.2.2.2.1 zg_14_23_10.2.2.2.2.2.2.2.2.2.2.2.2.2.2.2.2.2.2.2.1 (by decide), rfl, rfl⟩
theorem zd_14_23_108 : zz_D zy_names_14_23 108 (.iload_n 0) 1 109 := ⟨zq_26 zg_14_23_10.2.2.2.2.2.2.2.2.2.2.2.2.2.2.2.2.2.2.2.2.1, rfl⟩
theorem zd_14_23_109 : zz_D zy_names_14_23 109 (.iconst 5) 1 110 := ⟨zq_8 zg_14_23_10.2.2.2.2.2.2.2.2.2.2.2.2.2.2.2.2.2.2.2.2.2, rfl⟩
theorem zg_14_23_110 : zq_at zy_names_14_23.2.1 110 160 ∧ zq_at zy_names_14_23.2.1 111 0 ∧ zq_at zy_names_14_23.2.1 112 7 ∧ zq_at zy_names_14_23.2.1 117 3 ∧ zq_at zy_names_14_23.2.1 100 3 := by decide +kernel
theorem zd_14_23_110 : zz_B zy_names_14_23 110 (Instr.if_icmp .ne) 117 113 := ⟨7, zq_160 zg_14_23_110.1 zg_14_23_110.2.1 zg_14_23_110.2.2.1 (by decide), rfl, rfl⟩
theorem zd_14_23_117 : zz_D zy_names_14_23 117 (.iconst 0) 1 118 := ⟨zq_3 zg_14_23_110.2.2.2.1, rfl⟩
theorem zd_14_23_100 : zz_D zy_names_14_23 100 (.iconst 0) 1 101 := ⟨zq_3 zg_14_23_110.2.2.2.2, rfl⟩

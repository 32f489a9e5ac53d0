-- TensorForge$Machine shapeFits (J)Z
abbrev zr_shapeFits_6_7 : Room := { frames := 1, cells := 0, slots := 0, locals := 14 }
def zp_shapeFits_6_7 (p0 : Int) (S0 : zz_S) : Int → zz_S → Prop := fun r S => S0 = S ∧ (0 ≤ r ∧ r ≤ 1) ∧ (r = 1 → zz_fy p0 0 15 = 9 ∨ (1 ≤ zz_fy p0 20 63 ∧ 1 ≤ zz_fy p0 26 31 ∧ zz_fy p0 26 31 ≤ S0 1031 6)) ∧ (zz_sh (zz_fy p0 0 15) (zz_fy p0 20 63) (zz_fy p0 26 31) (S0 1031 6) = 1 - r)
theorem zc_shapeFits_6_7 {g : mm_G} {l : Launch} (p0 : Int) (S0 : zz_S) (n : Nat) (hn : zz_end ≤ n) (G_S0 : zz_G S0) (hp0 : (-9223372036854775808) ≤ p0 ∧ p0 ≤ 9223372036854775807) : mm_Met g l zy_shapeFits_6_7 zr_shapeFits_6_7 [.ref 1031, zl p0] (zz_M S0 n) n (zz_QI n (zp_shapeFits_6_7 p0 S0)) := by
  refine zz_enter (by decide) (Nat.le_of_ble_eq_true rfl) (zz_less (ls1 := [some (.ref 1031), some (zl p0), none]) ⟨rfl, ⟨rfl, trivial⟩⟩ ?_)
  refine zz_lload_n (x := p0) rfl zd_6_7_0 ?_
  refine zz_iconst zd_6_7_1 ?_
  refine zz_callSI [zl p0, zi 0] zd_6_7_2 zk_Machine_72 rfl rfl ⟨Nat.le_of_ble_eq_true rfl, Nat.le_of_ble_eq_true rfl⟩ ⟨rfl, rfl⟩ (Nat.zero_le _) (Nat.zero_le _) (zc_get_12_2x_0 p0 S0 n hn G_S0 (by omega)) (fun v2 S1 hP => ?_)
  obtain ⟨rfl, o3, o4⟩ := hP
  subst o4
  refine zz_bipush (by decide) zd_6_7_5 ?_
  refine zz_icmp_ne (by omega) (by omega) zd_6_7_7 (fun c5 => ?_) (fun c5 => ?_)
  · refine zz_lload_n (x := p0) rfl zd_6_7_12 ?_
    refine zz_bipush (by decide) zd_6_7_13 ?_
    refine zz_callSI [zl p0, zi 7] zd_6_7_15 zk_Machine_72 rfl rfl ⟨Nat.le_of_ble_eq_true rfl, Nat.le_of_ble_eq_true rfl⟩ ⟨rfl, rfl⟩ (Nat.zero_le _) (Nat.zero_le _) (zc_get_12_2x_7 p0 S0 n hn G_S0 (by omega)) (fun v7 S6 hP => ?_)
    obtain ⟨rfl, o8, o9⟩ := hP
    subst o9
    refine zz_istore_n [some (.ref 1031), some (zl p0), none, some (zi (zz_fy p0 26 31))] zd_6_7_18 (by decide) rfl ?_
    refine zz_lload_n (x := p0) rfl zd_6_7_19 ?_
    refine zz_bipush (by decide) zd_6_7_20 ?_
    refine zz_callSI [zl p0, zi 6] zd_6_7_22 zk_Machine_72 rfl rfl ⟨Nat.le_of_ble_eq_true rfl, Nat.le_of_ble_eq_true rfl⟩ ⟨rfl, rfl⟩ (Nat.zero_le _) (Nat.zero_le _) (zc_get_12_2x_6 p0 S0 n hn G_S0 (by omega)) (fun v11 S10 hP => ?_)
    obtain ⟨rfl, o12, o13⟩ := hP
    subst o13
    refine zz_if_le (by omega) zd_6_7_25 (fun c14 => ?_) (fun c14 => ?_)
    · refine zz_iconst zd_6_7_44 ?_
      exact zz_zret zd_6_7_45 rfl (by omega) (Nat.zero_le _) (Nat.zero_le _) ⟨_, _, rfl, rfl, by omega, by omega, zz_shx (by omega)⟩
    · refine zz_iload_n (x := zz_fy p0 26 31) rfl zd_6_7_28 ?_
      refine zz_if_le (by omega) zd_6_7_29 (fun c15 => ?_) (fun c15 => ?_)
      · refine zz_iconst zd_6_7_44 ?_
        exact zz_zret zd_6_7_45 rfl (by omega) (Nat.zero_le _) (Nat.zero_le _) ⟨_, _, rfl, rfl, by omega, by omega, zz_shx (by omega)⟩
      · refine zz_iload_n (x := zz_fy p0 26 31) rfl zd_6_7_32 ?_
        refine zz_aload_n (x := 1031) rfl zd_6_7_33 ?_
        have g16 := zz_G.r G_S0 1031 6 2 8 rfl rfl
        refine zz_geti (z := S0 1031 6) zd_6_7_34 zf_Machine_36 zT_1031 rfl (zz_ltn hn rfl) rfl ?_
        refine zz_icmp_gt (by omega) (by omega) zd_6_7_37 (fun c17 => ?_) (fun c17 => ?_)
        · refine zz_iconst zd_6_7_44 ?_
          exact zz_zret zd_6_7_45 rfl (by omega) (Nat.zero_le _) (Nat.zero_le _) ⟨_, _, rfl, rfl, by omega, by omega, zz_shx (by omega)⟩
        · refine zz_iconst zd_6_7_40 ?_
          refine zz_goto zd_6_7_41 ?_
          exact zz_zret zd_6_7_45 rfl (by omega) (Nat.zero_le _) (Nat.zero_le _) ⟨_, _, rfl, rfl, by omega, by omega, zz_shx (by omega)⟩
  · refine zz_iconst zd_6_7_10 ?_
    exact zz_zret zd_6_7_11 rfl (by omega) (Nat.zero_le _) (Nat.zero_le _) ⟨_, _, rfl, rfl, by omega, by omega, zz_shx (by omega)⟩
theorem zk_Machine_55 : mm_Vl "TensorForge$Machine" 55 3 1 zy_shapeFits_6_7 := ⟨zyw_shapeFits_6_7, (R_Machine, F_Machine, 14), rfl, mm_tb_1 507 (by decide +kernel) rfl, mm_tb_1 509 (by decide +kernel) rfl, mm_tb_s 0 (by decide +kernel) rfl⟩
abbrev zy_numberFits_6_8 : mm_Y := (⟨"TensorForge$Machine", "numberFits", "(J)Z"⟩, prog_6_method_8_code, 4, (some .boolean))
theorem zyw_numberFits_6_8 : mm_Yw zy_numberFits_6_8 1 := ⟨mm_tb_1 515 (by decide +kernel) rfl, mm_tb_1 4 (by decide +kernel) rfl, ⟨by decide, by decide⟩, by decide +kernel⟩
theorem zd_6_8_12 : zz_W zy_numberFits_6_8 12 69 5 9 #[36, 58, 69, 69, 58] := ⟨36, by decide +kernel⟩
theorem zg_6_6_12 : zq_at zy_forbids_6_6.2.1 12 153 ∧ zq_at zy_forbids_6_6.2.1 13 0 ∧ zq_at zy_forbids_6_6.2.1 14 18 ∧ zq_at zy_forbids_6_6.2.1 30 4 ∧ zq_at zy_forbids_6_6.2.1 31 172 ∧ zq_at zy_forbids_6_6.2.1 15 42 ∧ zq_at zy_forbids_6_6.2.1 16 31 ∧ zq_at zy_forbids_6_6.2.1 17 182 ∧ zq_at zy_forbids_6_6.2.1 18 0 ∧ zq_at zy_forbids_6_6.2.1 19 58 := by decide +kernel
theorem zd_6_6_12 : zz_B zy_forbids_6_6 12 (Instr.ifCond .eq) 30 15 := ⟨18, zq_153 zg_6_6_12.1 zg_6_6_12.2.1 zg_6_6_12.2.2.1 (by decide), rfl, rfl⟩
theorem zd_6_6_30 : zz_D zy_forbids_6_6 30 (.iconst 1) 1 31 := ⟨zq_4 zg_6_6_12.2.2.2.1, rfl⟩
theorem zd_6_6_31 : zz_D zy_forbids_6_6 31 (.ireturn) 1 32 := ⟨zq_172 zg_6_6_12.2.2.2.2.1, rfl⟩
theorem zd_6_6_15 : zz_D zy_forbids_6_6 15 (.aload_n 0) 1 16 := ⟨zq_42 zg_6_6_12.2.2.2.2.2.1, rfl⟩
theorem zd_6_6_16 : zz_D zy_forbids_6_6 16 (.lload_n 1) 1 17 := ⟨zq_31 zg_6_6_12.2.2.2.2.2.2.1, rfl⟩
theorem zd_6_6_17 : zz_D zy_forbids_6_6 17 (.invokevirtual 58) 3 20 := ⟨zq_182 zg_6_6_12.2.2.2.2.2.2.2.1 zg_6_6_12.2.2.2.2.2.2.2.2.1 zg_6_6_12.2.2.2.2.2.2.2.2.2 rfl, rfl⟩
theorem zg_6_8_0 : zq_at zy_numberFits_6_8.2.1 0 31 ∧ zq_at zy_numberFits_6_8.2.1 1 16 ∧ zq_at zy_numberFits_6_8.2.1 2 11 ∧ zq_at zy_numberFits_6_8.2.1 3 184 ∧ zq_at zy_numberFits_6_8.2.1 4 0 ∧ zq_at zy_numberFits_6_8.2.1 5 72 ∧ zq_at zy_numberFits_6_8.2.1 6 62 ∧ zq_at zy_numberFits_6_8.2.1 7 31 ∧ zq_at zy_numberFits_6_8.2.1 8 3 ∧ zq_at zy_numberFits_6_8.2.1 9 184 ∧ zq_at zy_numberFits_6_8.2.1 10 0 ∧ zq_at zy_numberFits_6_8.2.1 11 72 ∧ zq_at zy_numberFits_6_8.2.1 48 29 ∧ zq_at zy_numberFits_6_8.2.1 49 5 ∧ zq_at zy_numberFits_6_8.2.1 50 108 ∧ zq_at zy_numberFits_6_8.2.1 51 158 ∧ zq_at zy_numberFits_6_8.2.1 52 0 ∧ zq_at zy_numberFits_6_8.2.1 53 17 ∧ zq_at zy_numberFits_6_8.2.1 68 3 ∧ zq_at zy_numberFits_6_8.2.1 69 172 ∧ zq_at zy_numberFits_6_8.2.1 54 29 ∧ zq_at zy_numberFits_6_8.2.1 55 5 ∧ zq_at zy_numberFits_6_8.2.1 56 108 ∧ zq_at zy_numberFits_6_8.2.1 57 42 := by decide +kernel
theorem zd_6_8_0 : zz_D zy_numberFits_6_8 0 (.lload_n 1) 1 1 := ⟨zq_31 zg_6_8_0.1, rfl⟩
theorem zd_6_8_1 : zz_D zy_numberFits_6_8 1 (.bipush 11) 2 3 := ⟨zq_16 zg_6_8_0.2.1 zg_6_8_0.2.2.1 (by decide), rfl⟩
theorem zd_6_8_3 : zz_D zy_numberFits_6_8 3 (.invokestatic 72) 3 6 := ⟨zq_184 zg_6_8_0.2.2.2.1 zg_6_8_0.2.2.2.2.1 zg_6_8_0.2.2.2.2.2.1 rfl, rfl⟩
theorem zd_6_8_6 : zz_D zy_numberFits_6_8 6 (.istore_n 3) 1 7 := ⟨zq_62 zg_6_8_0.2.2.2.2.2.2.1, rfl⟩
theorem zd_6_8_7 : zz_D zy_numberFits_6_8 7 (.lload_n 1) 1 8 := ⟨zq_31 zg_6_8_0.2.2.2.2.2.2.2.1, rfl⟩
theorem zd_6_8_8 : zz_D zy_numberFits_6_8 8 (.iconst 0) 1 9 := ⟨zq_3 zg_6_8_0.2.2.2.2.2.2.2.2.1, rfl⟩
theorem zd_6_8_9 : zz_D zy_numberFits_6_8 9 (.invokestatic 72) 3 12 := ⟨zq_184 zg_6_8_0.2.2.2.2.2.2.2.2.2.1 zg_6_8_0.2.2.2.2.2.2.2.2.2.2.1 zg_6_8_0.2.2.2.2.2.2.2.2.2.2.2.1 rfl, rfl⟩
theorem zd_6_8_48 : zz_D zy_numberFits_6_8 48 (.iload_n 3) 1 49 := ⟨zq_29 zg_6_8_0.2.2.2.2.2.2.2.2.2.2.2.2.1, rfl⟩
theorem zd_6_8_49 : zz_D zy_numberFits_6_8 49 (.iconst 2) 1 50 := ⟨zq_5 zg_6_8_0.2.2.2.2.2.2.2.2.2.2.2.2.2.1, rfl⟩
theorem zd_6_8_50 : zz_D zy_numberFits_6_8 50 (.idiv) 1 51 := ⟨zq_108 zg_6_8_0.2.2.2.2.2.2.2.2.2.2.2.2.2.2.1, rfl⟩
theorem zd_6_8_51 : zz_B zy_numberFits_6_8 51 (Instr.ifCond .le) 68 54 := ⟨17, zq_158 zg_6_8_0.2.2.2.2.2.2.2.2.2.2.2.2.2.2.2.1 zg_6_8_0.2.2.2.2.2.2.2.2.2.2.2.2.2.2.2.2.1 zg_6_8_0.2.2.2.2.2.2.2.2.2.2.2.2.2.2.2.2.2.1 (by decide), rfl, rfl⟩
theorem zd_6_8_68 : zz_D zy_numberFits_6_8 68 (.iconst 0) 1 69 := ⟨zq_3 zg_6_8_0.2.2.2.2.2.2.2.2.2.2.2.2.2.2.2.2.2.2.1, rfl⟩
theorem zd_6_8_69 : zz_D zy_numberFits_6_8 69 (.ireturn) 1 70 := ⟨zq_172 zg_6_8_0.2.2.2.2.2.2.2.2.2.2.2.2.2.2.2.2.2.2.2.1, rfl⟩
theorem zd_6_8_54 : zz_D zy_numberFits_6_8 54 (.iload_n 3) 1 55 := ⟨zq_29 zg_6_8_0.2.2.2.2.2.2.2.2.2.2.2.2.2.2.2.2.2.2.2.2.1, rfl⟩
theorem zd_6_8_55 : zz_D zy_numberFits_6_8 55 (.iconst 2) 1 56 := ⟨zq_5 zg_6_8_0.2.2.2.2.2.2.2.2.2.2.2.2.2.2.2.2.2.2.2.2.2.1, rfl⟩
theorem zd_6_8_56 : zz_D zy_numberFits_6_8 56 (.idiv) 1 57 := ⟨zq_108 zg_6_8_0.2.2.2.2.2.2.2.2.2.2.2.2.2.2.2.2.2.2.2.2.2.2.1, rfl⟩
theorem zd_6_8_57 : zz_D zy_numberFits_6_8 57 (.aload_n 0) 1 58 := ⟨zq_42 zg_6_8_0.2.2.2.2.2.2.2.2.2.2.2.2.2.2.2.2.2.2.2.2.2.2.2, rfl⟩
theorem zg_6_8_58 : zq_at zy_numberFits_6_8.2.1 58 180 ∧ zq_at zy_numberFits_6_8.2.1 59 0 ∧ zq_at zy_numberFits_6_8.2.1 60 36 ∧ zq_at zy_numberFits_6_8.2.1 61 163 ∧ zq_at zy_numberFits_6_8.2.1 62 0 ∧ zq_at zy_numberFits_6_8.2.1 63 7 ∧ zq_at zy_numberFits_6_8.2.1 64 4 ∧ zq_at zy_numberFits_6_8.2.1 65 167 ∧ zq_at zy_numberFits_6_8.2.1 66 0 ∧ zq_at zy_numberFits_6_8.2.1 67 4 ∧ zq_at zy_numberFits_6_8.2.1 70 29 ∧ zq_at zy_numberFits_6_8.2.1 71 5 ∧ zq_at zy_numberFits_6_8.2.1 72 163 ∧ zq_at zy_numberFits_6_8.2.1 73 0 ∧ zq_at zy_numberFits_6_8.2.1 74 7 ∧ zq_at zy_numberFits_6_8.2.1 79 3 ∧ zq_at zy_numberFits_6_8.2.1 80 172 ∧ zq_at zy_numberFits_6_8.2.1 75 4 ∧ zq_at zy_numberFits_6_8.2.1 76 167 ∧ zq_at zy_numberFits_6_8.2.1 77 0 ∧ zq_at zy_numberFits_6_8.2.1 78 4 ∧ zq_at zy_numberFits_6_8.2.1 81 4 ∧ zq_at zy_numberFits_6_8.2.1 82 172 := by decide +kernel
theorem zd_6_8_58 : zz_D zy_numberFits_6_8 58 (.getfield 36) 3 61 := ⟨zq_180 zg_6_8_58.1 zg_6_8_58.2.1 zg_6_8_58.2.2.1 rfl, rfl⟩
theorem zd_6_8_61 : zz_B zy_numberFits_6_8 61 (Instr.if_icmp .gt) 68 64 := ⟨7, zq_163 zg_6_8_58.2.2.2.1 zg_6_8_58.2.2.2.2.1 zg_6_8_58.2.2.2.2.2.1 (by decide), rfl, rfl⟩
theorem zd_6_8_64 : zz_D zy_numberFits_6_8 64 (.iconst 1) 1 65 := ⟨zq_4 zg_6_8_58.2.2.2.2.2.2.1, rfl⟩
theorem zd_6_8_65 : zz_B zy_numberFits_6_8 65 Instr.goto 69 68 := ⟨4, zq_167 zg_6_8_58.2.2.2.2.2.2.2.1 zg_6_8_58.2.2.2.2.2.2.2.2.1 zg_6_8_58.2.2.2.2.2.2.2.2.2.1 (by decide), rfl, rfl⟩
theorem zd_6_8_70 : zz_D zy_numberFits_6_8 70 (.iload_n 3) 1 71 := ⟨zq_29 zg_6_8_58.2.2.2.2.2.2.2.2.2.2.1, rfl⟩
theorem zd_6_8_71 : zz_D zy_numberFits_6_8 71 (.iconst 2) 1 72 := ⟨zq_5 zg_6_8_58.2.2.2.2.2.2.2.2.2.2.2.1, rfl⟩
theorem zd_6_8_72 : zz_B zy_numberFits_6_8 72 (Instr.if_icmp .gt) 79 75 := ⟨7, zq_163 zg_6_8_58.2.2.2.2.2.2.2.2.2.2.2.2.1 zg_6_8_58.2.2.2.2.2.2.2.2.2.2.2.2.2.1 zg_6_8_58.2.2.2.2.2.2.2.2.2.2.2.2.2.2.1 (by decide), rfl, rfl⟩
theorem zd_6_8_79 : zz_D zy_numberFits_6_8 79 (.iconst 0) 1 80 := ⟨zq_3 zg_6_8_58.2.2.2.2.2.2.2.2.2.2.2.2.2.2.2.1, rfl⟩
theorem zd_6_8_80 : zz_D zy_numberFits_6_8 80 (.ireturn) 1 81 := ⟨zq_172 zg_6_8_58.2.2.2.2.2.2.2.2.2.2.2.2.2.2.2.2.1, rfl⟩
theorem zd_6_8_75 : zz_D zy_numberFits_6_8 75 (.iconst 1) 1 76 := ⟨zq_4 zg_6_8_58.2.2.2.2.2.2.2.2.2.2.2.2.2.2.2.2.2.1, rfl⟩
theorem zd_6_8_76 : zz_B zy_numberFits_6_8 76 Instr.goto 80 79 := ⟨4, zq_167 zg_6_8_58.2.2.2.2.2.2.2.2.2.2.2.2.2.2.2.2.2.2.1 zg_6_8_58.2.2.2.2.2.2.2.2.2.2.2.2.2.2.2.2.2.2.2.1 zg_6_8_58.2.2.2.2.2.2.2.2.2.2.2.2.2.2.2.2.2.2.2.2.1 (by decide), rfl, rfl⟩
theorem zd_6_8_81 : zz_D zy_numberFits_6_8 81 (.iconst 1) 1 82 := ⟨zq_4 zg_6_8_58.2.2.2.2.2.2.2.2.2.2.2.2.2.2.2.2.2.2.2.2.2.1, rfl⟩
theorem zd_6_8_82 : zz_D zy_numberFits_6_8 82 (.ireturn) 1 83 := ⟨zq_172 zg_6_8_58.2.2.2.2.2.2.2.2.2.2.2.2.2.2.2.2.2.2.2.2.2.2, rfl⟩
-- TensorForge$Machine numberFits (J)Z
abbrev zr_numberFits_6_8 : Room := { frames := 1, cells := 0, slots := 0, locals := 14 }
def zp_numberFits_6_8 (p0 : Int) (S0 : zz_S) : Int → zz_S → Prop := fun r S => S0 = S ∧ (0 ≤ r ∧ r ≤ 1) ∧ (r = 1 → zz_fy p0 0 15 = 5 → 1 ≤ zz_fy p0 59 31 / 2 ∧ zz_fy p0 59 31 / 2 ≤ S0 1031 6) ∧ (zz_nf (zz_fy p0 0 15) (zz_fy p0 59 31) (S0 1031 6) = 1 - r)
theorem zc_numberFits_6_8 {g : mm_G} {l : Launch} (p0 : Int) (S0 : zz_S) (n : Nat) (hn : zz_end ≤ n) (G_S0 : zz_G S0) (hp0 : (-9223372036854775808) ≤ p0 ∧ p0 ≤ 9223372036854775807) : mm_Met g l zy_numberFits_6_8 zr_numberFits_6_8 [.ref 1031, zl p0] (zz_M S0 n) n (zz_QI n (zp_numberFits_6_8 p0 S0)) := by
  refine zz_enter (by decide) (Nat.le_of_ble_eq_true rfl) (zz_less (ls1 := [some (.ref 1031), some (zl p0), none]) ⟨rfl, ⟨rfl, trivial⟩⟩ ?_)
  refine zz_lload_n (x := p0) rfl zd_6_8_0 ?_
  refine zz_bipush (by decide) zd_6_8_1 ?_
  refine zz_callSI [zl p0, zi 11] zd_6_8_3 zk_Machine_72 rfl rfl ⟨Nat.le_of_ble_eq_true rfl, Nat.le_of_ble_eq_true rfl⟩ ⟨rfl, rfl⟩ (Nat.zero_le _) (Nat.zero_le _) (zc_get_12_2x_11 p0 S0 n hn G_S0 (by omega)) (fun v2 S1 hP => ?_)
  obtain ⟨rfl, o3, o4⟩ := hP
  subst o4
  refine zz_istore_n [some (.ref 1031), some (zl p0), none, some (zi (zz_fy p0 59 31))] zd_6_8_6 (by decide) rfl ?_
  refine zz_lload_n (x := p0) rfl zd_6_8_7 ?_
  refine zz_iconst zd_6_8_8 ?_
  refine zz_callSI [zl p0, zi 0] zd_6_8_9 zk_Machine_72 rfl rfl ⟨Nat.le_of_ble_eq_true rfl, Nat.le_of_ble_eq_true rfl⟩ ⟨rfl, rfl⟩ (Nat.zero_le _) (Nat.zero_le _) (zc_get_12_2x_0 p0 S0 n hn G_S0 (by omega)) (fun v6 S5 hP => ?_)
  obtain ⟨rfl, o7, o8⟩ := hP
  subst o8
  by_cases c9 : zz_fy p0 0 15 = 5
  · refine zz_swIn 5 36 c9 (by decide) zd_6_8_12 rfl rfl ?_
    refine zz_iload_n (x := zz_fy p0 59 31) rfl zd_6_8_48 ?_
    refine zz_iconst zd_6_8_49 ?_
    refine zz_idiv (by omega) (by omega) zd_6_8_50 (fun v10 hv10 av10 bv10 cv10 => ?_)
    obtain rfl : v10 = (zz_fy p0 59 31) / 2 := by omega
    refine zz_if_le (by omega) zd_6_8_51 (fun c11 => ?_) (fun c11 => ?_)
    · refine zz_iconst zd_6_8_68 ?_
      exact zz_zret zd_6_8_69 rfl (by omega) (Nat.zero_le _) (Nat.zero_le _) ⟨_, _, rfl, rfl, by omega, by omega, zz_nfx (by omega)⟩
    · refine zz_iload_n (x := zz_fy p0 59 31) rfl zd_6_8_54 ?_
      refine zz_iconst zd_6_8_55 ?_
      refine zz_idiv (by omega) (by omega) zd_6_8_56 (fun v12 hv12 av12 bv12 cv12 => ?_)
      obtain rfl : v12 = (zz_fy p0 59 31) / 2 := by omega
      refine zz_aload_n (x := 1031) rfl zd_6_8_57 ?_
      have g13 := zz_G.r G_S0 1031 6 2 8 rfl rfl
      refine zz_geti (z := S0 1031 6) zd_6_8_58 zf_Machine_36 zT_1031 rfl (zz_ltn hn rfl) rfl ?_
      refine zz_icmp_gt (by omega) (by omega) zd_6_8_61 (fun c14 => ?_) (fun c14 => ?_)
      · refine zz_iconst zd_6_8_68 ?_
        exact zz_zret zd_6_8_69 rfl (by omega) (Nat.zero_le _) (Nat.zero_le _) ⟨_, _, rfl, rfl, by omega, by omega, zz_nfx (by omega)⟩
      · refine zz_iconst zd_6_8_64 ?_
        refine zz_goto zd_6_8_65 ?_
        exact zz_zret zd_6_8_69 rfl (by omega) (Nat.zero_le _) (Nat.zero_le _) ⟨_, _, rfl, rfl, by omega, by omega, zz_nfx (by omega)⟩
  by_cases c15 : zz_fy p0 0 15 = 6
  · refine zz_swIn 6 58 c15 (by decide) zd_6_8_12 rfl rfl ?_
    refine zz_iload_n (x := zz_fy p0 59 31) rfl zd_6_8_70 ?_
    refine zz_iconst zd_6_8_71 ?_
    refine zz_icmp_gt (by omega) (by omega) zd_6_8_72 (fun c16 => ?_) (fun c16 => ?_)
    · refine zz_iconst zd_6_8_79 ?_
      exact zz_zret zd_6_8_80 rfl (by omega) (Nat.zero_le _) (Nat.zero_le _) ⟨_, _, rfl, rfl, by omega, by omega, zz_nfx (by omega)⟩
    · refine zz_iconst zd_6_8_75 ?_
      refine zz_goto zd_6_8_76 ?_
      exact zz_zret zd_6_8_80 rfl (by omega) (Nat.zero_le _) (Nat.zero_le _) ⟨_, _, rfl, rfl, by omega, by omega, zz_nfx (by omega)⟩
  by_cases c17 : zz_fy p0 0 15 = 7
  · refine zz_swIn 7 69 c17 (by decide) zd_6_8_12 rfl rfl ?_
    refine zz_iconst zd_6_8_81 ?_
    exact zz_zret zd_6_8_82 rfl (by omega) (Nat.zero_le _) (Nat.zero_le _) ⟨_, _, rfl, rfl, by omega, by omega, zz_nfx (by omega)⟩
  by_cases c18 : zz_fy p0 0 15 = 8
  · refine zz_swIn 8 69 c18 (by decide) zd_6_8_12 rfl rfl ?_
    refine zz_iconst zd_6_8_81 ?_
    exact zz_zret zd_6_8_82 rfl (by omega) (Nat.zero_le _) (Nat.zero_le _) ⟨_, _, rfl, rfl, by omega, by omega, zz_nfx (by omega)⟩
  by_cases c19 : zz_fy p0 0 15 = 9
  · refine zz_swIn 9 58 c19 (by decide) zd_6_8_12 rfl rfl ?_
    refine zz_iload_n (x := zz_fy p0 59 31) rfl zd_6_8_70 ?_
    refine zz_iconst zd_6_8_71 ?_
    refine zz_icmp_gt (by omega) (by omega) zd_6_8_72 (fun c20 => ?_) (fun c20 => ?_)
    · refine zz_iconst zd_6_8_79 ?_
      exact zz_zret zd_6_8_80 rfl (by omega) (Nat.zero_le _) (Nat.zero_le _) ⟨_, _, rfl, rfl, by omega, by omega, zz_nfx (by omega)⟩
    · refine zz_iconst zd_6_8_75 ?_
      refine zz_goto zd_6_8_76 ?_
      exact zz_zret zd_6_8_80 rfl (by omega) (Nat.zero_le _) (Nat.zero_le _) ⟨_, _, rfl, rfl, by omega, by omega, zz_nfx (by omega)⟩
  refine zz_swOut (by omega) (by omega) zd_6_8_12 rfl ?_
  refine zz_iconst zd_6_8_81 ?_
  exact zz_zret zd_6_8_82 rfl (by omega) (Nat.zero_le _) (Nat.zero_le _) ⟨_, _, rfl, rfl, by omega, by omega, zz_nfx (by omega)⟩
theorem zk_Machine_58 : mm_Vl "TensorForge$Machine" 58 3 1 zy_numberFits_6_8 := ⟨zyw_numberFits_6_8, (R_Machine, F_Machine, 14), rfl, mm_tb_1 512 (by decide +kernel) rfl, mm_tb_1 514 (by decide +kernel) rfl, mm_tb_s 1 (by decide +kernel) rfl⟩
abbrev zy_tokensFit_6_9 : mm_Y := (⟨"TensorForge$Machine", "tokensFit", "(J)Z"⟩, prog_6_method_9_code, 3, (some .boolean))
theorem zyw_tokensFit_6_9 : mm_Yw zy_tokensFit_6_9 1 := ⟨mm_tb_1 518 (by decide +kernel) rfl, mm_tb_1 4 (by decide +kernel) rfl, ⟨by decide, by decide⟩, by decide +kernel⟩
abbrev zy_unitOf_12_10 : mm_Y := (⟨"TensorForge$Words", "unitOf", "(J)I"⟩, prog_12_method_10_code, 3, (some .int))
theorem zyw_unitOf_12_10 : mm_Yw zy_unitOf_12_10 1 := ⟨mm_tb_1 521 (by decide +kernel) rfl, mm_tb_1 20 (by decide +kernel) rfl, ⟨by decide, by decide⟩, by decide +kernel⟩
theorem zg_6_6_20 : zq_at zy_forbids_6_6.2.1 20 153 ∧ zq_at zy_forbids_6_6.2.1 21 0 ∧ zq_at zy_forbids_6_6.2.1 22 10 ∧ zq_at zy_forbids_6_6.2.1 23 31 ∧ zq_at zy_forbids_6_6.2.1 24 184 ∧ zq_at zy_forbids_6_6.2.1 25 0 ∧ zq_at zy_forbids_6_6.2.1 26 61 := by decide +kernel
theorem zd_6_6_20 : zz_B zy_forbids_6_6 20 (Instr.ifCond .eq) 30 23 := ⟨10, zq_153 zg_6_6_20.1 zg_6_6_20.2.1 zg_6_6_20.2.2.1 (by decide), rfl, rfl⟩
theorem zd_6_6_23 : zz_D zy_forbids_6_6 23 (.lload_n 1) 1 24 := ⟨zq_31 zg_6_6_20.2.2.2.1, rfl⟩
theorem zd_6_6_24 : zz_D zy_forbids_6_6 24 (.invokestatic 61) 3 27 := ⟨zq_184 zg_6_6_20.2.2.2.2.1 zg_6_6_20.2.2.2.2.2.1 zg_6_6_20.2.2.2.2.2.2 rfl, rfl⟩
theorem zg_6_9_0 : zq_at zy_tokensFit_6_9.2.1 0 30 ∧ zq_at zy_tokensFit_6_9.2.1 1 184 ∧ zq_at zy_tokensFit_6_9.2.1 2 0 ∧ zq_at zy_tokensFit_6_9.2.1 3 76 := by decide +kernel
theorem zd_6_9_0 : zz_D zy_tokensFit_6_9 0 (.lload_n 0) 1 1 := ⟨zq_30 zg_6_9_0.1, rfl⟩
theorem zd_6_9_1 : zz_D zy_tokensFit_6_9 1 (.invokestatic 76) 3 4 := ⟨zq_184 zg_6_9_0.2.1 zg_6_9_0.2.2.1 zg_6_9_0.2.2.2 rfl, rfl⟩
theorem zg_12_10_0 : zq_at zy_unitOf_12_10.2.1 0 30 ∧ zq_at zy_unitOf_12_10.2.1 1 3 ∧ zq_at zy_unitOf_12_10.2.1 2 184 ∧ zq_at zy_unitOf_12_10.2.1 3 0 ∧ zq_at zy_unitOf_12_10.2.1 4 16 ∧ zq_at zy_unitOf_12_10.2.1 5 61 ∧ zq_at zy_unitOf_12_10.2.1 6 28 ∧ zq_at zy_unitOf_12_10.2.1 7 16 ∧ zq_at zy_unitOf_12_10.2.1 8 9 ∧ zq_at zy_unitOf_12_10.2.1 9 160 ∧ zq_at zy_unitOf_12_10.2.1 10 0 ∧ zq_at zy_unitOf_12_10.2.1 11 10 ∧ zq_at zy_unitOf_12_10.2.1 19 28 ∧ zq_at zy_unitOf_12_10.2.1 20 16 ∧ zq_at zy_unitOf_12_10.2.1 21 8 ∧ zq_at zy_unitOf_12_10.2.1 22 160 ∧ zq_at zy_unitOf_12_10.2.1 23 0 ∧ zq_at zy_unitOf_12_10.2.1 24 5 ∧ zq_at zy_unitOf_12_10.2.1 27 28 ∧ zq_at zy_unitOf_12_10.2.1 28 8 ∧ zq_at zy_unitOf_12_10.2.1 29 161 ∧ zq_at zy_unitOf_12_10.2.1 30 0 ∧ zq_at zy_unitOf_12_10.2.1 31 7 ∧ zq_at zy_unitOf_12_10.2.1 36 3 := by decide +kernel
theorem zd_12_10_0 : zz_D zy_unitOf_12_10 0 (.lload_n 0) 1 1 := ⟨zq_30 zg_12_10_0.1, rfl⟩
theorem zd_12_10_1 : zz_D zy_unitOf_12_10 1 (.iconst 0) 1 2 := ⟨zq_3 zg_12_10_0.2.1, rfl⟩
theorem zd_12_10_2 : zz_D zy_unitOf_12_10 2 (.invokestatic 16) 3 5 := ⟨zq_184 zg_12_10_0.2.2.1 zg_12_10_0.2.2.2.1 zg_12_10_0.2.2.2.2.1 rfl, rfl⟩
theorem zd_12_10_5 : zz_D zy_unitOf_12_10 5 (.istore_n 2) 1 6 := ⟨zq_61 zg_12_10_0.2.2.2.2.2.1, rfl⟩
theorem zd_12_10_6 : zz_D zy_unitOf_12_10 6 (.iload_n 2) 1 7 := ⟨zq_28 zg_12_10_0.2.2.2.2.2.2.1, rfl⟩
theorem zd_12_10_7 : zz_D zy_unitOf_12_10 7 (.bipush 9) 2 9 := ⟨zq_16 zg_12_10_0.2.2.2.2.2.2.2.1 zg_12_10_0.2.2.2.2.2.2.2.2.1 (by decide), rfl⟩
theorem zd_12_10_9 : zz_B zy_unitOf_12_10 9 (Instr.if_icmp .ne) 19 12 := ⟨10, zq_160 zg_12_10_0.2.2.2.2.2.2.2.2.2.1 zg_12_10_0.2.2.2.2.2.2.2.2.2.2.1 zg_12_10_0.2.2.2.2.2.2.2.2.2.2.2.1 (by decide), rfl, rfl⟩
theorem zd_12_10_19 : zz_D zy_unitOf_12_10 19 (.iload_n 2) 1 20 := ⟨zq_28 zg_12_10_0.2.2.2.2.2.2.2.2.2.2.2.2.1, rfl⟩
theorem zd_12_10_20 : zz_D zy_unitOf_12_10 20 (.bipush 8) 2 22 := ⟨zq_16 zg_12_10_0.2.2.2.2.2.2.2.2.2.2.2.2.2.1 zg_12_10_0.2.2.2.2.2.2.2.2.2.2.2.2.2.2.1 (by decide), rfl⟩
theorem zd_12_10_22 : zz_B zy_unitOf_12_10 22 (Instr.if_icmp .ne) 27 25 := ⟨5, zq_160 zg_12_10_0.2.2.2.2.2.2.2.2.2.2.2.2.2.2.2.1 zg_12_10_0.2.2.2.2.2.2.2.2.2.2.2.2.2.2.2.2.1 zg_12_10_0.2.2.2.2.2.2.2.2.2.2.2.2.2.2.2.2.2.1 (by decide), rfl, rfl⟩
theorem zd_12_10_27 : zz_D zy_unitOf_12_10 27 (.iload_n 2) 1 28 := ⟨zq_28 zg_12_10_0.2.2.2.2.2.2.2.2.2.2.2.2.2.2.2.2.2.2.1, rfl⟩
theorem zd_12_10_28 : zz_D zy_unitOf_12_10 28 (.iconst 5) 1 29 := ⟨zq_8 zg_12_10_0.2.2.2.2.2.2.2.2.2.2.2.2.2.2.2.2.2.2.2.1, rfl⟩
theorem zd_12_10_29 : zz_B zy_unitOf_12_10 29 (Instr.if_icmp .lt) 36 32 := ⟨7, zq_161 zg_12_10_0.2.2.2.2.2.2.2.2.2.2.2.2.2.2.2.2.2.2.2.2.1 zg_12_10_0.2.2.2.2.2.2.2.2.2.2.2.2.2.2.2.2.2.2.2.2.2.1 zg_12_10_0.2.2.2.2.2.2.2.2.2.2.2.2.2.2.2.2.2.2.2.2.2.2.1 (by decide), rfl, rfl⟩
theorem zd_12_10_36 : zz_D zy_unitOf_12_10 36 (.iconst 0) 1 37 := ⟨zq_3 zg_12_10_0.2.2.2.2.2.2.2.2.2.2.2.2.2.2.2.2.2.2.2.2.2.2.2, rfl⟩
theorem zg_12_10_37 : zq_at zy_unitOf_12_10.2.1 37 172 ∧ zq_at zy_unitOf_12_10.2.1 32 4 ∧ zq_at zy_unitOf_12_10.2.1 33 167 ∧ zq_at zy_unitOf_12_10.2.1 34 0 ∧ zq_at zy_unitOf_12_10.2.1 35 4 ∧ zq_at zy_unitOf_12_10.2.1 25 5 ∧ zq_at zy_unitOf_12_10.2.1 26 172 ∧ zq_at zy_unitOf_12_10.2.1 12 30 ∧ zq_at zy_unitOf_12_10.2.1 13 16 ∧ zq_at zy_unitOf_12_10.2.1 14 11 ∧ zq_at zy_unitOf_12_10.2.1 15 184 ∧ zq_at zy_unitOf_12_10.2.1 16 0 ∧ zq_at zy_unitOf_12_10.2.1 17 16 ∧ zq_at zy_unitOf_12_10.2.1 18 172 := by decide +kernel
theorem zd_12_10_37 : zz_D zy_unitOf_12_10 37 (.ireturn) 1 38 := ⟨zq_172 zg_12_10_37.1, rfl⟩
theorem zd_12_10_32 : zz_D zy_unitOf_12_10 32 (.iconst 1) 1 33 := ⟨zq_4 zg_12_10_37.2.1, rfl⟩
theorem zd_12_10_33 : zz_B zy_unitOf_12_10 33 Instr.goto 37 36 := ⟨4, zq_167 zg_12_10_37.2.2.1 zg_12_10_37.2.2.2.1 zg_12_10_37.2.2.2.2.1 (by decide), rfl, rfl⟩
theorem zd_12_10_25 : zz_D zy_unitOf_12_10 25 (.iconst 2) 1 26 := ⟨zq_5 zg_12_10_37.2.2.2.2.2.1, rfl⟩
theorem zd_12_10_26 : zz_D zy_unitOf_12_10 26 (.ireturn) 1 27 := ⟨zq_172 zg_12_10_37.2.2.2.2.2.2.1, rfl⟩
theorem zd_12_10_12 : zz_D zy_unitOf_12_10 12 (.lload_n 0) 1 13 := ⟨zq_30 zg_12_10_37.2.2.2.2.2.2.2.1, rfl⟩
theorem zd_12_10_13 : zz_D zy_unitOf_12_10 13 (.bipush 11) 2 15 := ⟨zq_16 zg_12_10_37.2.2.2.2.2.2.2.2.1 zg_12_10_37.2.2.2.2.2.2.2.2.2.1 (by decide), rfl⟩
theorem zd_12_10_15 : zz_D zy_unitOf_12_10 15 (.invokestatic 16) 3 18 := ⟨zq_184 zg_12_10_37.2.2.2.2.2.2.2.2.2.2.1 zg_12_10_37.2.2.2.2.2.2.2.2.2.2.2.1 zg_12_10_37.2.2.2.2.2.2.2.2.2.2.2.2.1 rfl, rfl⟩
theorem zd_12_10_18 : zz_D zy_unitOf_12_10 18 (.ireturn) 1 19 := ⟨zq_172 zg_12_10_37.2.2.2.2.2.2.2.2.2.2.2.2.2, rfl⟩
-- TensorForge$Words unitOf (J)I
abbrev zr_unitOf_12_10 : Room := { frames := 1, cells := 0, slots := 0, locals := 14 }
def zp_unitOf_12_10 (p0 : Int) (S0 : zz_S) : Int → zz_S → Prop := fun r S => S0 = S ∧ ((-2147483648) ≤ r ∧ r ≤ 2147483647) ∧ ((zz_fy p0 0 15 = 9 ∧ r = zz_fy p0 59 31) ∨ (zz_fy p0 0 15 = 8 ∧ r = 2) ∨ (5 ≤ zz_fy p0 0 15 ∧ zz_fy p0 0 15 ≠ 8 ∧ zz_fy p0 0 15 ≠ 9 ∧ r = 1) ∨ (zz_fy p0 0 15 < 5 ∧ r = 0))
theorem zc_unitOf_12_10 {g : mm_G} {l : Launch} (p0 : Int) (S0 : zz_S) (n : Nat) (hn : zz_end ≤ n) (G_S0 : zz_G S0) (hp0 : (-9223372036854775808) ≤ p0 ∧ p0 ≤ 9223372036854775807) : mm_Met g l zy_unitOf_12_10 zr_unitOf_12_10 [zl p0] (zz_M S0 n) n (zz_QI n (zp_unitOf_12_10 p0 S0)) := by
  refine zz_enter (by decide) (Nat.le_of_ble_eq_true rfl) (zz_less (ls1 := [some (zl p0), none]) ⟨rfl, trivial⟩ ?_)
  refine zz_lload_n (x := p0) rfl zd_12_10_0 ?_
  refine zz_iconst zd_12_10_1 ?_
  refine zz_callSI [zl p0, zi 0] zd_12_10_2 zk_Words_16 rfl rfl ⟨Nat.le_of_ble_eq_true rfl, Nat.le_of_ble_eq_true rfl⟩ ⟨rfl, rfl⟩ (Nat.zero_le _) (Nat.zero_le _) (zc_get_12_2x_0 p0 S0 n hn G_S0 (by omega)) (fun v2 S1 hP => ?_)
  obtain ⟨rfl, o3, o4⟩ := hP
  subst o4
  refine zz_istore_n [some (zl p0), none, some (zi (zz_fy p0 0 15))] zd_12_10_5 (by decide) rfl ?_
  refine zz_iload_n (x := zz_fy p0 0 15) rfl zd_12_10_6 ?_
  refine zz_bipush (by decide) zd_12_10_7 ?_
  refine zz_icmp_ne (by omega) (by omega) zd_12_10_9 (fun c5 => ?_) (fun c5 => ?_)
  · refine zz_iload_n (x := zz_fy p0 0 15) rfl zd_12_10_19 ?_
    refine zz_bipush (by decide) zd_12_10_20 ?_
    refine zz_icmp_ne (by omega) (by omega) zd_12_10_22 (fun c6 => ?_) (fun c6 => ?_)
    · refine zz_iload_n (x := zz_fy p0 0 15) rfl zd_12_10_27 ?_
      refine zz_iconst zd_12_10_28 ?_
      refine zz_icmp_lt (by omega) (by omega) zd_12_10_29 (fun c7 => ?_) (fun c7 => ?_)
      · refine zz_iconst zd_12_10_36 ?_
        exact zz_iret zd_12_10_37 rfl (Nat.zero_le _) (Nat.zero_le _) ⟨_, _, rfl, rfl, by omega, by omega⟩
      · refine zz_iconst zd_12_10_32 ?_
        refine zz_goto zd_12_10_33 ?_
        exact zz_iret zd_12_10_37 rfl (Nat.zero_le _) (Nat.zero_le _) ⟨_, _, rfl, rfl, by omega, by omega⟩
    · refine zz_iconst zd_12_10_25 ?_
      exact zz_iret zd_12_10_26 rfl (Nat.zero_le _) (Nat.zero_le _) ⟨_, _, rfl, rfl, by omega, by omega⟩
  · refine zz_lload_n (x := p0) rfl zd_12_10_12 ?_
    refine zz_bipush (by decide) zd_12_10_13 ?_
    refine zz_callSI [zl p0, zi 11] zd_12_10_15 zk_Words_16 rfl rfl ⟨Nat.le_of_ble_eq_true rfl, Nat.le_of_ble_eq_true rfl⟩ ⟨rfl, rfl⟩ (Nat.zero_le _) (Nat.zero_le _) (zc_get_12_2x_11 p0 S0 n hn G_S0 (by omega)) (fun v9 S8 hP => ?_)
    obtain ⟨rfl, o10, o11⟩ := hP
    subst o11
    exact zz_iret zd_12_10_18 rfl (Nat.zero_le _) (Nat.zero_le _) ⟨_, _, rfl, rfl, by omega, by omega⟩
theorem zk_Machine_76 : mm_Sl "TensorForge$Machine" 76 1 zy_unitOf_12_10 := ⟨zyw_unitOf_12_10, mm_tb_1 519 (by decide +kernel) rfl, mm_tb_1 520 (by decide +kernel) rfl⟩
theorem zg_6_9_4 : zq_at zy_tokensFit_6_9.2.1 4 61 ∧ zq_at zy_tokensFit_6_9.2.1 5 28 ∧ zq_at zy_tokensFit_6_9.2.1 6 154 ∧ zq_at zy_tokensFit_6_9.2.1 7 0 ∧ zq_at zy_tokensFit_6_9.2.1 8 25 ∧ zq_at zy_tokensFit_6_9.2.1 31 28 ∧ zq_at zy_tokensFit_6_9.2.1 32 5 ∧ zq_at zy_tokensFit_6_9.2.1 33 160 ∧ zq_at zy_tokensFit_6_9.2.1 34 0 ∧ zq_at zy_tokensFit_6_9.2.1 35 19 ∧ zq_at zy_tokensFit_6_9.2.1 52 4 ∧ zq_at zy_tokensFit_6_9.2.1 53 167 ∧ zq_at zy_tokensFit_6_9.2.1 54 0 ∧ zq_at zy_tokensFit_6_9.2.1 55 4 ∧ zq_at zy_tokensFit_6_9.2.1 57 172 ∧ zq_at zy_tokensFit_6_9.2.1 36 30 ∧ zq_at zy_tokensFit_6_9.2.1 37 5 ∧ zq_at zy_tokensFit_6_9.2.1 38 184 ∧ zq_at zy_tokensFit_6_9.2.1 39 0 ∧ zq_at zy_tokensFit_6_9.2.1 40 80 := by decide +kernel
theorem zd_6_9_4 : zz_D zy_tokensFit_6_9 4 (.istore_n 2) 1 5 := ⟨zq_61 zg_6_9_4.1, rfl⟩
theorem zd_6_9_5 : zz_D zy_tokensFit_6_9 5 (.iload_n 2) 1 6 := ⟨zq_28 zg_6_9_4.2.1, rfl⟩
theorem zd_6_9_6 : zz_B zy_tokensFit_6_9 6 (Instr.ifCond .ne) 31 9 := ⟨25, zq_154 zg_6_9_4.2.2.1 zg_6_9_4.2.2.2.1 zg_6_9_4.2.2.2.2.1 (by decide), rfl, rfl⟩
theorem zd_6_9_31 : zz_D zy_tokensFit_6_9 31 (.iload_n 2) 1 32 := ⟨zq_28 zg_6_9_4.2.2.2.2.2.1, rfl⟩
theorem zd_6_9_32 : zz_D zy_tokensFit_6_9 32 (.iconst 2) 1 33 := ⟨zq_5 zg_6_9_4.2.2.2.2.2.2.1, rfl⟩
theorem zd_6_9_33 : zz_B zy_tokensFit_6_9 33 (Instr.if_icmp .ne) 52 36 := ⟨19, zq_160 zg_6_9_4.2.2.2.2.2.2.2.1 zg_6_9_4.2.2.2.2.2.2.2.2.1 zg_6_9_4.2.2.2.2.2.2.2.2.2.1 (by decide), rfl, rfl⟩
theorem zd_6_9_52 : zz_D zy_tokensFit_6_9 52 (.iconst 1) 1 53 := ⟨zq_4 zg_6_9_4.2.2.2.2.2.2.2.2.2.2.1, rfl⟩
theorem zd_6_9_53 : zz_B zy_tokensFit_6_9 53 Instr.goto 57 56 := ⟨4, zq_167 zg_6_9_4.2.2.2.2.2.2.2.2.2.2.2.1 zg_6_9_4.2.2.2.2.2.2.2.2.2.2.2.2.1 zg_6_9_4.2.2.2.2.2.2.2.2.2.2.2.2.2.1 (by decide), rfl, rfl⟩
theorem zd_6_9_57 : zz_D zy_tokensFit_6_9 57 (.ireturn) 1 58 := ⟨zq_172 zg_6_9_4.2.2.2.2.2.2.2.2.2.2.2.2.2.2.1, rfl⟩
theorem zd_6_9_36 : zz_D zy_tokensFit_6_9 36 (.lload_n 0) 1 37 := ⟨zq_30 zg_6_9_4.2.2.2.2.2.2.2.2.2.2.2.2.2.2.2.1, rfl⟩
theorem zd_6_9_37 : zz_D zy_tokensFit_6_9 37 (.iconst 2) 1 38 := ⟨zq_5 zg_6_9_4.2.2.2.2.2.2.2.2.2.2.2.2.2.2.2.2.1, rfl⟩
theorem zd_6_9_38 : zz_D zy_tokensFit_6_9 38 (.invokestatic 80) 3 41 := ⟨zq_184 zg_6_9_4.2.2.2.2.2.2.2.2.2.2.2.2.2.2.2.2.2.1 zg_6_9_4.2.2.2.2.2.2.2.2.2.2.2.2.2.2.2.2.2.2.1 zg_6_9_4.2.2.2.2.2.2.2.2.2.2.2.2.2.2.2.2.2.2.2 rfl, rfl⟩
-- TensorForge$Words has (JI)Z
abbrev zr_has_12_3x_2 : Room := { frames := 1, cells := 0, slots := 0, locals := 14 }
def zp_has_12_3x_2 (p0 : Int) (S0 : zz_S) : Int → zz_S → Prop := fun r S => S0 = S ∧ (0 ≤ r ∧ r ≤ 1) ∧ ((r = 1 ∧ zz_fy p0 5 1 ≠ 0) ∨ (r = 0 ∧ zz_fy p0 5 1 = 0))
theorem zc_has_12_3x_2 {g : mm_G} {l : Launch} (p0 : Int) (S0 : zz_S) (n : Nat) (hn : zz_end ≤ n) (G_S0 : zz_G S0) (hp0 : (-9223372036854775808) ≤ p0 ∧ p0 ≤ 9223372036854775807) : mm_Met g l zy_has_12_3 zr_has_12_3x_2 [zl p0, zi 2] (zz_M S0 n) n (zz_QI n (zp_has_12_3x_2 p0 S0)) := by
  refine zz_enter (by decide) (Nat.le_of_ble_eq_true rfl) (zz_less (ls1 := [some (zl p0), none, some (zi 2)]) ⟨rfl, ⟨rfl, trivial⟩⟩ ?_)
  refine zz_lload_n (x := p0) rfl zd_12_3_0 ?_
  refine zz_iload_n (x := 2) rfl zd_12_3_1 ?_
  refine zz_callSI [zl p0, zi 2] zd_12_3_2 zk_Words_16 rfl rfl ⟨Nat.le_of_ble_eq_true rfl, Nat.le_of_ble_eq_true rfl⟩ ⟨rfl, rfl⟩ (Nat.zero_le _) (Nat.zero_le _) (zc_get_12_2x_2 p0 S0 n hn G_S0 (by omega)) (fun v2 S1 hP => ?_)
  obtain ⟨rfl, o3, o4⟩ := hP
  subst o4
  refine zz_if_eq (by omega) zd_12_3_5 (fun c5 => ?_) (fun c5 => ?_)
  · refine zz_iconst zd_12_3_12 ?_
    exact zz_zret zd_12_3_13 rfl (by omega) (Nat.zero_le _) (Nat.zero_le _) ⟨_, _, rfl, rfl, by omega, by omega⟩
  · refine zz_iconst zd_12_3_8 ?_
    refine zz_goto zd_12_3_9 ?_
    exact zz_zret zd_12_3_13 rfl (by omega) (Nat.zero_le _) (Nat.zero_le _) ⟨_, _, rfl, rfl, by omega, by omega⟩
theorem zk_Machine_80 : mm_Sl "TensorForge$Machine" 80 2 zy_has_12_3 := ⟨zyw_has_12_3, mm_tb_1 522 (by decide +kernel) rfl, mm_tb_1 505 (by decide +kernel) rfl⟩
theorem zg_6_9_41 : zq_at zy_tokensFit_6_9.2.1 41 154 ∧ zq_at zy_tokensFit_6_9.2.1 42 0 ∧ zq_at zy_tokensFit_6_9.2.1 43 15 ∧ zq_at zy_tokensFit_6_9.2.1 44 30 ∧ zq_at zy_tokensFit_6_9.2.1 45 7 ∧ zq_at zy_tokensFit_6_9.2.1 46 184 ∧ zq_at zy_tokensFit_6_9.2.1 47 0 ∧ zq_at zy_tokensFit_6_9.2.1 48 80 := by decide +kernel
theorem zd_6_9_41 : zz_B zy_tokensFit_6_9 41 (Instr.ifCond .ne) 56 44 := ⟨15, zq_154 zg_6_9_41.1 zg_6_9_41.2.1 zg_6_9_41.2.2.1 (by decide), rfl, rfl⟩
theorem zd_6_9_44 : zz_D zy_tokensFit_6_9 44 (.lload_n 0) 1 45 := ⟨zq_30 zg_6_9_41.2.2.2.1, rfl⟩
theorem zd_6_9_45 : zz_D zy_tokensFit_6_9 45 (.iconst 4) 1 46 := ⟨zq_7 zg_6_9_41.2.2.2.2.1, rfl⟩
theorem zd_6_9_46 : zz_D zy_tokensFit_6_9 46 (.invokestatic 80) 3 49 := ⟨zq_184 zg_6_9_41.2.2.2.2.2.1 zg_6_9_41.2.2.2.2.2.2.1 zg_6_9_41.2.2.2.2.2.2.2 rfl, rfl⟩
-- TensorForge$Words has (JI)Z
abbrev zr_has_12_3x_4 : Room := { frames := 1, cells := 0, slots := 0, locals := 14 }
def zp_has_12_3x_4 (p0 : Int) (S0 : zz_S) : Int → zz_S → Prop := fun r S => S0 = S ∧ (0 ≤ r ∧ r ≤ 1) ∧ ((r = 1 ∧ zz_fy p0 7 1 ≠ 0) ∨ (r = 0 ∧ zz_fy p0 7 1 = 0))
theorem zc_has_12_3x_4 {g : mm_G} {l : Launch} (p0 : Int) (S0 : zz_S) (n : Nat) (hn : zz_end ≤ n) (G_S0 : zz_G S0) (hp0 : (-9223372036854775808) ≤ p0 ∧ p0 ≤ 9223372036854775807) : mm_Met g l zy_has_12_3 zr_has_12_3x_4 [zl p0, zi 4] (zz_M S0 n) n (zz_QI n (zp_has_12_3x_4 p0 S0)) := by
  refine zz_enter (by decide) (Nat.le_of_ble_eq_true rfl) (zz_less (ls1 := [some (zl p0), none, some (zi 4)]) ⟨rfl, ⟨rfl, trivial⟩⟩ ?_)
  refine zz_lload_n (x := p0) rfl zd_12_3_0 ?_
  refine zz_iload_n (x := 4) rfl zd_12_3_1 ?_
  refine zz_callSI [zl p0, zi 4] zd_12_3_2 zk_Words_16 rfl rfl ⟨Nat.le_of_ble_eq_true rfl, Nat.le_of_ble_eq_true rfl⟩ ⟨rfl, rfl⟩ (Nat.zero_le _) (Nat.zero_le _) (zc_get_12_2x_4 p0 S0 n hn G_S0 (by omega)) (fun v2 S1 hP => ?_)
  obtain ⟨rfl, o3, o4⟩ := hP
  subst o4
  refine zz_if_eq (by omega) zd_12_3_5 (fun c5 => ?_) (fun c5 => ?_)
  · refine zz_iconst zd_12_3_12 ?_
    exact zz_zret zd_12_3_13 rfl (by omega) (Nat.zero_le _) (Nat.zero_le _) ⟨_, _, rfl, rfl, by omega, by omega⟩
  · refine zz_iconst zd_12_3_8 ?_
    refine zz_goto zd_12_3_9 ?_
    exact zz_zret zd_12_3_13 rfl (by omega) (Nat.zero_le _) (Nat.zero_le _) ⟨_, _, rfl, rfl, by omega, by omega⟩
theorem zg_6_9_49 : zq_at zy_tokensFit_6_9.2.1 49 154 ∧ zq_at zy_tokensFit_6_9.2.1 50 0 ∧ zq_at zy_tokensFit_6_9.2.1 51 7 ∧ zq_at zy_tokensFit_6_9.2.1 56 3 ∧ zq_at zy_tokensFit_6_9.2.1 9 30 ∧ zq_at zy_tokensFit_6_9.2.1 10 4 ∧ zq_at zy_tokensFit_6_9.2.1 11 184 ∧ zq_at zy_tokensFit_6_9.2.1 12 0 ∧ zq_at zy_tokensFit_6_9.2.1 13 80 := by decide +kernel
theorem zd_6_9_49 : zz_B zy_tokensFit_6_9 49 (Instr.ifCond .ne) 56 52 := ⟨7, zq_154 zg_6_9_49.1 zg_6_9_49.2.1 zg_6_9_49.2.2.1 (by decide), rfl, rfl⟩
theorem zd_6_9_56 : zz_D zy_tokensFit_6_9 56 (.iconst 0) 1 57 := ⟨zq_3 zg_6_9_49.2.2.2.1, rfl⟩
theorem zd_6_9_9 : zz_D zy_tokensFit_6_9 9 (.lload_n 0) 1 10 := ⟨zq_30 zg_6_9_49.2.2.2.2.1, rfl⟩
theorem zd_6_9_10 : zz_D zy_tokensFit_6_9 10 (.iconst 1) 1 11 := ⟨zq_4 zg_6_9_49.2.2.2.2.2.1, rfl⟩
theorem zd_6_9_11 : zz_D zy_tokensFit_6_9 11 (.invokestatic 80) 3 14 := ⟨zq_184 zg_6_9_49.2.2.2.2.2.2.1 zg_6_9_49.2.2.2.2.2.2.2.1 zg_6_9_49.2.2.2.2.2.2.2.2 rfl, rfl⟩
-- TensorForge$Words has (JI)Z
abbrev zr_has_12_3x_1 : Room := { frames := 1, cells := 0, slots := 0, locals := 14 }
def zp_has_12_3x_1 (p0 : Int) (S0 : zz_S) : Int → zz_S → Prop := fun r S => S0 = S ∧ (0 ≤ r ∧ r ≤ 1) ∧ ((r = 1 ∧ zz_fy p0 4 1 ≠ 0) ∨ (r = 0 ∧ zz_fy p0 4 1 = 0))
theorem zc_has_12_3x_1 {g : mm_G} {l : Launch} (p0 : Int) (S0 : zz_S) (n : Nat) (hn : zz_end ≤ n) (G_S0 : zz_G S0) (hp0 : (-9223372036854775808) ≤ p0 ∧ p0 ≤ 9223372036854775807) : mm_Met g l zy_has_12_3 zr_has_12_3x_1 [zl p0, zi 1] (zz_M S0 n) n (zz_QI n (zp_has_12_3x_1 p0 S0)) := by
  refine zz_enter (by decide) (Nat.le_of_ble_eq_true rfl) (zz_less (ls1 := [some (zl p0), none, some (zi 1)]) ⟨rfl, ⟨rfl, trivial⟩⟩ ?_)
  refine zz_lload_n (x := p0) rfl zd_12_3_0 ?_
  refine zz_iload_n (x := 1) rfl zd_12_3_1 ?_
  refine zz_callSI [zl p0, zi 1] zd_12_3_2 zk_Words_16 rfl rfl ⟨Nat.le_of_ble_eq_true rfl, Nat.le_of_ble_eq_true rfl⟩ ⟨rfl, rfl⟩ (Nat.zero_le _) (Nat.zero_le _) (zc_get_12_2x_1 p0 S0 n hn G_S0 (by omega)) (fun v2 S1 hP => ?_)
  obtain ⟨rfl, o3, o4⟩ := hP
  subst o4
  refine zz_if_eq (by omega) zd_12_3_5 (fun c5 => ?_) (fun c5 => ?_)
  · refine zz_iconst zd_12_3_12 ?_
    exact zz_zret zd_12_3_13 rfl (by omega) (Nat.zero_le _) (Nat.zero_le _) ⟨_, _, rfl, rfl, by omega, by omega⟩
  · refine zz_iconst zd_12_3_8 ?_
    refine zz_goto zd_12_3_9 ?_
    exact zz_zret zd_12_3_13 rfl (by omega) (Nat.zero_le _) (Nat.zero_le _) ⟨_, _, rfl, rfl, by omega, by omega⟩
theorem zg_6_9_14 : zq_at zy_tokensFit_6_9.2.1 14 154 ∧ zq_at zy_tokensFit_6_9.2.1 15 0 ∧ zq_at zy_tokensFit_6_9.2.1 16 15 ∧ zq_at zy_tokensFit_6_9.2.1 17 30 ∧ zq_at zy_tokensFit_6_9.2.1 18 6 ∧ zq_at zy_tokensFit_6_9.2.1 19 184 ∧ zq_at zy_tokensFit_6_9.2.1 20 0 ∧ zq_at zy_tokensFit_6_9.2.1 21 80 := by decide +kernel
theorem zd_6_9_14 : zz_B zy_tokensFit_6_9 14 (Instr.ifCond .ne) 29 17 := ⟨15, zq_154 zg_6_9_14.1 zg_6_9_14.2.1 zg_6_9_14.2.2.1 (by decide), rfl, rfl⟩
theorem zd_6_9_17 : zz_D zy_tokensFit_6_9 17 (.lload_n 0) 1 18 := ⟨zq_30 zg_6_9_14.2.2.2.1, rfl⟩
theorem zd_6_9_18 : zz_D zy_tokensFit_6_9 18 (.iconst 3) 1 19 := ⟨zq_6 zg_6_9_14.2.2.2.2.1, rfl⟩
theorem zd_6_9_19 : zz_D zy_tokensFit_6_9 19 (.invokestatic 80) 3 22 := ⟨zq_184 zg_6_9_14.2.2.2.2.2.1 zg_6_9_14.2.2.2.2.2.2.1 zg_6_9_14.2.2.2.2.2.2.2 rfl, rfl⟩
-- TensorForge$Words has (JI)Z
abbrev zr_has_12_3x_3 : Room := { frames := 1, cells := 0, slots := 0, locals := 14 }
def zp_has_12_3x_3 (p0 : Int) (S0 : zz_S) : Int → zz_S → Prop := fun r S => S0 = S ∧ (0 ≤ r ∧ r ≤ 1) ∧ ((r = 1 ∧ zz_fy p0 6 1 ≠ 0) ∨ (r = 0 ∧ zz_fy p0 6 1 = 0))
theorem zc_has_12_3x_3 {g : mm_G} {l : Launch} (p0 : Int) (S0 : zz_S) (n : Nat) (hn : zz_end ≤ n) (G_S0 : zz_G S0) (hp0 : (-9223372036854775808) ≤ p0 ∧ p0 ≤ 9223372036854775807) : mm_Met g l zy_has_12_3 zr_has_12_3x_3 [zl p0, zi 3] (zz_M S0 n) n (zz_QI n (zp_has_12_3x_3 p0 S0)) := by
  refine zz_enter (by decide) (Nat.le_of_ble_eq_true rfl) (zz_less (ls1 := [some (zl p0), none, some (zi 3)]) ⟨rfl, ⟨rfl, trivial⟩⟩ ?_)
  refine zz_lload_n (x := p0) rfl zd_12_3_0 ?_
  refine zz_iload_n (x := 3) rfl zd_12_3_1 ?_
  refine zz_callSI [zl p0, zi 3] zd_12_3_2 zk_Words_16 rfl rfl ⟨Nat.le_of_ble_eq_true rfl, Nat.le_of_ble_eq_true rfl⟩ ⟨rfl, rfl⟩ (Nat.zero_le _) (Nat.zero_le _) (zc_get_12_2x_3 p0 S0 n hn G_S0 (by omega)) (fun v2 S1 hP => ?_)
  obtain ⟨rfl, o3, o4⟩ := hP
  subst o4
  refine zz_if_eq (by omega) zd_12_3_5 (fun c5 => ?_) (fun c5 => ?_)
  · refine zz_iconst zd_12_3_12 ?_
    exact zz_zret zd_12_3_13 rfl (by omega) (Nat.zero_le _) (Nat.zero_le _) ⟨_, _, rfl, rfl, by omega, by omega⟩
  · refine zz_iconst zd_12_3_8 ?_
    refine zz_goto zd_12_3_9 ?_
    exact zz_zret zd_12_3_13 rfl (by omega) (Nat.zero_le _) (Nat.zero_le _) ⟨_, _, rfl, rfl, by omega, by omega⟩
theorem zg_6_9_22 : zq_at zy_tokensFit_6_9.2.1 22 154 ∧ zq_at zy_tokensFit_6_9.2.1 23 0 ∧ zq_at zy_tokensFit_6_9.2.1 24 7 ∧ zq_at zy_tokensFit_6_9.2.1 25 4 ∧ zq_at zy_tokensFit_6_9.2.1 26 167 ∧ zq_at zy_tokensFit_6_9.2.1 27 0 ∧ zq_at zy_tokensFit_6_9.2.1 28 4 ∧ zq_at zy_tokensFit_6_9.2.1 30 172 ∧ zq_at zy_tokensFit_6_9.2.1 29 3 := by decide +kernel
theorem zd_6_9_22 : zz_B zy_tokensFit_6_9 22 (Instr.ifCond .ne) 29 25 := ⟨7, zq_154 zg_6_9_22.1 zg_6_9_22.2.1 zg_6_9_22.2.2.1 (by decide), rfl, rfl⟩
theorem zd_6_9_25 : zz_D zy_tokensFit_6_9 25 (.iconst 1) 1 26 := ⟨zq_4 zg_6_9_22.2.2.2.1, rfl⟩
theorem zd_6_9_26 : zz_B zy_tokensFit_6_9 26 Instr.goto 30 29 := ⟨4, zq_167 zg_6_9_22.2.2.2.2.1 zg_6_9_22.2.2.2.2.2.1 zg_6_9_22.2.2.2.2.2.2.1 (by decide), rfl, rfl⟩
theorem zd_6_9_30 : zz_D zy_tokensFit_6_9 30 (.ireturn) 1 31 := ⟨zq_172 zg_6_9_22.2.2.2.2.2.2.2.1, rfl⟩
theorem zd_6_9_29 : zz_D zy_tokensFit_6_9 29 (.iconst 0) 1 30 := ⟨zq_3 zg_6_9_22.2.2.2.2.2.2.2.2, rfl⟩
-- TensorForge$Machine tokensFit (J)Z
abbrev zr_tokensFit_6_9 : Room := { frames := 2, cells := 0, slots := 0, locals := 28 }
def zp_tokensFit_6_9 (p0 : Int) (S0 : zz_S) : Int → zz_S → Prop := fun r S => S0 = S ∧ (0 ≤ r ∧ r ≤ 1) ∧ (zz_tf (zz_fy p0 0 15) (zz_fy p0 4 1) (zz_fy p0 5 1) (zz_fy p0 6 1) (zz_fy p0 7 1) (zz_fy p0 59 31) = 1 - r)
theorem zc_tokensFit_6_9 {g : mm_G} {l : Launch} (p0 : Int) (S0 : zz_S) (n : Nat) (hn : zz_end ≤ n) (G_S0 : zz_G S0) (hp0 : (-9223372036854775808) ≤ p0 ∧ p0 ≤ 9223372036854775807) : mm_Met g l zy_tokensFit_6_9 zr_tokensFit_6_9 [zl p0] (zz_M S0 n) n (zz_QI n (zp_tokensFit_6_9 p0 S0)) := by
  refine zz_enter (by decide) (Nat.le_of_ble_eq_true rfl) (zz_less (ls1 := [some (zl p0), none]) ⟨rfl, trivial⟩ ?_)
  refine zz_lload_n (x := p0) rfl zd_6_9_0 ?_
  refine zz_callSI [zl p0] zd_6_9_1 zk_Machine_76 rfl rfl ⟨Nat.le_of_ble_eq_true rfl, Nat.le_of_ble_eq_true rfl⟩ ⟨rfl, rfl⟩ (Nat.zero_le _) (Nat.zero_le _) (zc_unitOf_12_10 p0 S0 n hn G_S0 (by omega)) (fun v2 S1 hP => ?_)
  obtain ⟨rfl, o3, o4⟩ := hP
  refine zz_istore_n [some (zl p0), none, some (zi v2)] zd_6_9_4 (by decide) rfl ?_
  refine zz_iload_n (x := v2) rfl zd_6_9_5 ?_
  refine zz_if_ne (by omega) zd_6_9_6 (fun c5 => ?_) (fun c5 => ?_)
  · refine zz_iload_n (x := v2) rfl zd_6_9_31 ?_
    refine zz_iconst zd_6_9_32 ?_
    refine zz_icmp_ne (by omega) (by omega) zd_6_9_33 (fun c6 => ?_) (fun c6 => ?_)
    · refine zz_iconst zd_6_9_52 ?_
      refine zz_goto zd_6_9_53 ?_
      exact zz_zret zd_6_9_57 rfl (by omega) (Nat.zero_le _) (Nat.zero_le _) ⟨_, _, rfl, rfl, by omega, zz_tfx (by omega)⟩
    · refine zz_lload_n (x := p0) rfl zd_6_9_36 ?_
      refine zz_iconst zd_6_9_37 ?_
      refine zz_callSI [zl p0, zi 2] zd_6_9_38 zk_Machine_80 rfl rfl ⟨Nat.le_of_ble_eq_true rfl, Nat.le_of_ble_eq_true rfl⟩ ⟨rfl, rfl⟩ (Nat.zero_le _) (Nat.zero_le _) (zc_has_12_3x_2 p0 S0 n hn G_S0 (by omega)) (fun v8 S7 hP => ?_)
      obtain ⟨rfl, o9, o10⟩ := hP
      rcases (by omega : v8 = 0 ∨ v8 = 1) with rfl | rfl
      · refine zz_if_ne (by omega) zd_6_9_41 (fun c11 => ?_) (fun c11 => ?_)
        · exfalso; omega
        · refine zz_lload_n (x := p0) rfl zd_6_9_44 ?_
          refine zz_iconst zd_6_9_45 ?_
          refine zz_callSI [zl p0, zi 4] zd_6_9_46 zk_Machine_80 rfl rfl ⟨Nat.le_of_ble_eq_true rfl, Nat.le_of_ble_eq_true rfl⟩ ⟨rfl, rfl⟩ (Nat.zero_le _) (Nat.zero_le _) (zc_has_12_3x_4 p0 S0 n hn G_S0 (by omega)) (fun v13 S12 hP => ?_)
          obtain ⟨rfl, o14, o15⟩ := hP
          rcases (by omega : v13 = 0 ∨ v13 = 1) with rfl | rfl
          · refine zz_if_ne (by omega) zd_6_9_49 (fun c16 => ?_) (fun c16 => ?_)
            · exfalso; omega
            · refine zz_iconst zd_6_9_52 ?_
              refine zz_goto zd_6_9_53 ?_
              exact zz_zret zd_6_9_57 rfl (by omega) (Nat.zero_le _) (Nat.zero_le _) ⟨_, _, rfl, rfl, by omega, zz_tfx (by omega)⟩
          · refine zz_if_ne (by omega) zd_6_9_49 (fun c17 => ?_) (fun c17 => ?_)
            · refine zz_iconst zd_6_9_56 ?_
              exact zz_zret zd_6_9_57 rfl (by omega) (Nat.zero_le _) (Nat.zero_le _) ⟨_, _, rfl, rfl, by omega, zz_tfx (by omega)⟩
            · exfalso; omega
      · refine zz_if_ne (by omega) zd_6_9_41 (fun c18 => ?_) (fun c18 => ?_)
        · refine zz_iconst zd_6_9_56 ?_
          exact zz_zret zd_6_9_57 rfl (by omega) (Nat.zero_le _) (Nat.zero_le _) ⟨_, _, rfl, rfl, by omega, zz_tfx (by omega)⟩
        · exfalso; omega
  · refine zz_lload_n (x := p0) rfl zd_6_9_9 ?_
    refine zz_iconst zd_6_9_10 ?_
    refine zz_callSI [zl p0, zi 1] zd_6_9_11 zk_Machine_80 rfl rfl ⟨Nat.le_of_ble_eq_true rfl, Nat.le_of_ble_eq_true rfl⟩ ⟨rfl, rfl⟩ (Nat.zero_le _) (Nat.zero_le _) (zc_has_12_3x_1 p0 S0 n hn G_S0 (by omega)) (fun v20 S19 hP => ?_)
    obtain ⟨rfl, o21, o22⟩ := hP
    rcases (by omega : v20 = 0 ∨ v20 = 1) with rfl | rfl
    · refine zz_if_ne (by omega) zd_6_9_14 (fun c23 => ?_) (fun c23 => ?_)
      · exfalso; omega
      · refine zz_lload_n (x := p0) rfl zd_6_9_17 ?_
        refine zz_iconst zd_6_9_18 ?_
        refine zz_callSI [zl p0, zi 3] zd_6_9_19 zk_Machine_80 rfl rfl ⟨Nat.le_of_ble_eq_true rfl, Nat.le_of_ble_eq_true rfl⟩ ⟨rfl, rfl⟩ (Nat.zero_le _) (Nat.zero_le _) (zc_has_12_3x_3 p0 S0 n hn G_S0 (by omega)) (fun v25 S24 hP => ?_)
        obtain ⟨rfl, o26, o27⟩ := hP
        rcases (by omega : v25 = 0 ∨ v25 = 1) with rfl | rfl
        · refine zz_if_ne (by omega) zd_6_9_22 (fun c28 => ?_) (fun c28 => ?_)
          · exfalso; omega
          · refine zz_iconst zd_6_9_25 ?_
            refine zz_goto zd_6_9_26 ?_
            exact zz_zret zd_6_9_30 rfl (by omega) (Nat.zero_le _) (Nat.zero_le _) ⟨_, _, rfl, rfl, by omega, zz_tfx (by omega)⟩
        · refine zz_if_ne (by omega) zd_6_9_22 (fun c29 => ?_) (fun c29 => ?_)
          · refine zz_iconst zd_6_9_29 ?_
            exact zz_zret zd_6_9_30 rfl (by omega) (Nat.zero_le _) (Nat.zero_le _) ⟨_, _, rfl, rfl, by omega, zz_tfx (by omega)⟩
          · exfalso; omega
    · refine zz_if_ne (by omega) zd_6_9_14 (fun c30 => ?_) (fun c30 => ?_)
      · refine zz_iconst zd_6_9_29 ?_
        exact zz_zret zd_6_9_30 rfl (by omega) (Nat.zero_le _) (Nat.zero_le _) ⟨_, _, rfl, rfl, by omega, zz_tfx (by omega)⟩
      · exfalso; omega
theorem zk_Machine_61 : mm_Sl "TensorForge$Machine" 61 1 zy_tokensFit_6_9 := ⟨zyw_tokensFit_6_9, mm_tb_1 516 (by decide +kernel) rfl, mm_tb_1 517 (by decide +kernel) rfl⟩
abbrev zy_take_9_2 : mm_Y := (⟨"TensorForge$Reaches", "take", "(JI)V"⟩, prog_9_method_2_code, 12, none)
theorem zyw_take_9_2 : mm_Yw zy_take_9_2 2 := ⟨mm_tb_1 526 (by decide +kernel) rfl, mm_tb_1 5 (by decide +kernel) rfl, ⟨by decide, by decide⟩, by decide +kernel⟩
abbrev zy_forget_9_7 : mm_Y := (⟨"TensorForge$Reaches", "forget", "()V"⟩, prog_9_method_7_code, 1, none)
theorem zyw_forget_9_7 : mm_Yw zy_forget_9_7 0 := ⟨mm_tb_1 530 (by decide +kernel) rfl, mm_tb_1 5 (by decide +kernel) rfl, ⟨by decide, by decide⟩, by decide +kernel⟩
theorem zg_6_6_27 : zq_at zy_forbids_6_6.2.1 27 154 ∧ zq_at zy_forbids_6_6.2.1 28 0 ∧ zq_at zy_forbids_6_6.2.1 29 5 ∧ zq_at zy_forbids_6_6.2.1 32 42 ∧ zq_at zy_forbids_6_6.2.1 33 180 ∧ zq_at zy_forbids_6_6.2.1 34 0 ∧ zq_at zy_forbids_6_6.2.1 35 32 ∧ zq_at zy_forbids_6_6.2.1 36 31 ∧ zq_at zy_forbids_6_6.2.1 37 42 ∧ zq_at zy_forbids_6_6.2.1 38 180 ∧ zq_at zy_forbids_6_6.2.1 39 0 ∧ zq_at zy_forbids_6_6.2.1 40 36 ∧ zq_at zy_forbids_6_6.2.1 41 182 ∧ zq_at zy_forbids_6_6.2.1 42 0 ∧ zq_at zy_forbids_6_6.2.1 43 64 := by decide +kernel
theorem zd_6_6_27 : zz_B zy_forbids_6_6 27 (Instr.ifCond .ne) 32 30 := ⟨5, zq_154 zg_6_6_27.1 zg_6_6_27.2.1 zg_6_6_27.2.2.1 (by decide), rfl, rfl⟩
theorem zd_6_6_32 : zz_D zy_forbids_6_6 32 (.aload_n 0) 1 33 := ⟨zq_42 zg_6_6_27.2.2.2.1, rfl⟩
theorem zd_6_6_33 : zz_D zy_forbids_6_6 33 (.getfield 32) 3 36 := ⟨zq_180 zg_6_6_27.2.2.2.2.1 zg_6_6_27.2.2.2.2.2.1 zg_6_6_27.2.2.2.2.2.2.1 rfl, rfl⟩
theorem zd_6_6_36 : zz_D zy_forbids_6_6 36 (.lload_n 1) 1 37 := ⟨zq_31 zg_6_6_27.2.2.2.2.2.2.2.1, rfl⟩
theorem zd_6_6_37 : zz_D zy_forbids_6_6 37 (.aload_n 0) 1 38 := ⟨zq_42 zg_6_6_27.2.2.2.2.2.2.2.2.1, rfl⟩
theorem zd_6_6_38 : zz_D zy_forbids_6_6 38 (.getfield 36) 3 41 := ⟨zq_180 zg_6_6_27.2.2.2.2.2.2.2.2.2.1 zg_6_6_27.2.2.2.2.2.2.2.2.2.2.1 zg_6_6_27.2.2.2.2.2.2.2.2.2.2.2.1 rfl, rfl⟩
theorem zd_6_6_41 : zz_D zy_forbids_6_6 41 (.invokevirtual 64) 3 44 := ⟨zq_182 zg_6_6_27.2.2.2.2.2.2.2.2.2.2.2.2.1 zg_6_6_27.2.2.2.2.2.2.2.2.2.2.2.2.2.1 zg_6_6_27.2.2.2.2.2.2.2.2.2.2.2.2.2.2 rfl, rfl⟩
theorem zg_9_2_0 : zq_at zy_take_9_2.2.1 0 42 ∧ zq_at zy_take_9_2.2.1 1 182 ∧ zq_at zy_take_9_2.2.1 2 0 ∧ zq_at zy_take_9_2.2.1 3 24 := by decide +kernel
theorem zd_9_2_0 : zz_D zy_take_9_2 0 (.aload_n 0) 1 1 := ⟨zq_42 zg_9_2_0.1, rfl⟩
theorem zd_9_2_1 : zz_D zy_take_9_2 1 (.invokevirtual 24) 3 4 := ⟨zq_182 zg_9_2_0.2.1 zg_9_2_0.2.2.1 zg_9_2_0.2.2.2 rfl, rfl⟩
theorem zg_9_7_0 : zq_at zy_forget_9_7.2.1 0 42 ∧ zq_at zy_forget_9_7.2.1 1 180 ∧ zq_at zy_forget_9_7.2.1 2 0 ∧ zq_at zy_forget_9_7.2.1 3 11 ∧ zq_at zy_forget_9_7.2.1 4 3 ∧ zq_at zy_forget_9_7.2.1 5 184 ∧ zq_at zy_forget_9_7.2.1 6 0 ∧ zq_at zy_forget_9_7.2.1 7 55 := by decide +kernel
theorem zd_9_7_0 : zz_D zy_forget_9_7 0 (.aload_n 0) 1 1 := ⟨zq_42 zg_9_7_0.1, rfl⟩
theorem zd_9_7_1 : zz_D zy_forget_9_7 1 (.getfield 11) 3 4 := ⟨zq_180 zg_9_7_0.2.1 zg_9_7_0.2.2.1 zg_9_7_0.2.2.2.1 rfl, rfl⟩
theorem zd_9_7_4 : zz_D zy_forget_9_7 4 (.iconst 0) 1 5 := ⟨zq_3 zg_9_7_0.2.2.2.2.1, rfl⟩
theorem zd_9_7_5 : zz_D zy_forget_9_7 5 (.invokestatic 55) 3 8 := ⟨zq_184 zg_9_7_0.2.2.2.2.2.1 zg_9_7_0.2.2.2.2.2.2.1 zg_9_7_0.2.2.2.2.2.2.2 rfl, rfl⟩
-- java/util/Arrays fill ([II)V
abbrev zr_fill_27_103_1038 : Room := { frames := 0, cells := 0, slots := 0, locals := 0 }
def zp_fill_27_103_1038 (p1 : Int) (S0 : zz_S) : zz_S → Prop := fun S => zz_G S ∧ zz_fr [(1038, 0), (1038, 1), (1038, 2), (1038, 3), (1038, 4)] [] (fun _ _ => False) S0 S ∧ (S 1038 0 = p1) ∧ (S 1038 1 = p1) ∧ (S 1038 2 = p1) ∧ (S 1038 3 = p1) ∧ (S 1038 4 = p1)
theorem zc_fill_27_103_1038 {g : mm_G} {l : Launch} (p1 : Int) (S0 : zz_S) (n : Nat) (hn : zz_end ≤ n) (G_S0 : zz_G S0) (hp1 : (-2147483648) ≤ p1 ∧ p1 ≤ 2147483647) : mm_Met g l zy_fill_27_103 zr_fill_27_103_1038 [.ref 1038, zi p1] (zz_M S0 n) n (zz_QV n (zp_fill_27_103_1038 p1 S0)) := by
  refine zz_enter (by decide) (Nat.le_of_ble_eq_true rfl) (zz_less (ls1 := [some (.ref 1038), some (zi p1)]) ⟨rfl, ⟨rfl, trivial⟩⟩ ?_)
  have F_S0 : zz_fr [(1038, 0), (1038, 1), (1038, 2), (1038, 3), (1038, 4)] [] (fun _ _ => False) S0 S0 := zz_fr.refl
  refine zz_iconst zd_27_103_0 ?_
  refine zz_istore_n [some (.ref 1038), some (zi p1), some (zi 0)] zd_27_103_1 (by decide) rfl ?_
  refine zz_aload_n (x := 1038) rfl zd_27_103_2 ?_
  refine zz_alen zd_27_103_3 zT_1038 rfl (zz_ltn hn rfl) ?_
  refine zz_istore_n [some (.ref 1038), some (zi p1), some (zi 0), some (zi 5)] zd_27_103_4 (by decide) rfl ?_
  refine zz_iload_n (x := 0) rfl zd_27_103_5 ?_
  refine zz_iload_n (x := 5) rfl zd_27_103_6 ?_
  refine zz_icmp_ge (by omega) (by omega) zd_27_103_7 (fun c1 => ?_) (fun c1 => ?_)
  · exfalso; omega
  · refine zz_aload_n (x := 1038) rfl zd_27_103_10 ?_
    refine zz_iload_n (x := 0) rfl zd_27_103_11 ?_
    refine zz_iload_n (x := p1) rfl zd_27_103_12 ?_
    refine zz_iast zd_27_103_13 zT_1038 rfl (zz_ltn hn rfl) (by decide) (by decide) (fun S2 qS2 => ?_)
    have G_S2 := zz_G.put G_S0 qS2 (-2147483648) 2147483647 rfl (by omega)
    have F_S2 := zz_fr.puts F_S0 qS2 rfl
    refine zz_iinc [some (.ref 1038), some (zi p1), some (zi 1), some (zi 5)] zd_27_103_14 rfl rfl ?_
    refine zz_goto zd_27_103_17 ?_
    refine zz_iload_n (x := 1) rfl zd_27_103_5 ?_
    refine zz_iload_n (x := 5) rfl zd_27_103_6 ?_
    refine zz_icmp_ge (by omega) (by omega) zd_27_103_7 (fun c3 => ?_) (fun c3 => ?_)
    · exfalso; omega
    · refine zz_aload_n (x := 1038) rfl zd_27_103_10 ?_
      refine zz_iload_n (x := 1) rfl zd_27_103_11 ?_
      refine zz_iload_n (x := p1) rfl zd_27_103_12 ?_
      refine zz_iast zd_27_103_13 zT_1038 rfl (zz_ltn hn rfl) (by decide) (by decide) (fun S4 qS4 => ?_)
      have G_S4 := zz_G.put G_S2 qS4 (-2147483648) 2147483647 rfl (by omega)
      have F_S4 := zz_fr.puts F_S2 qS4 rfl
      refine zz_iinc [some (.ref 1038), some (zi p1), some (zi 2), some (zi 5)] zd_27_103_14 rfl rfl ?_
      refine zz_goto zd_27_103_17 ?_
      refine zz_iload_n (x := 2) rfl zd_27_103_5 ?_
      refine zz_iload_n (x := 5) rfl zd_27_103_6 ?_
      refine zz_icmp_ge (by omega) (by omega) zd_27_103_7 (fun c5 => ?_) (fun c5 => ?_)
      · exfalso; omega
      · refine zz_aload_n (x := 1038) rfl zd_27_103_10 ?_
        refine zz_iload_n (x := 2) rfl zd_27_103_11 ?_
        refine zz_iload_n (x := p1) rfl zd_27_103_12 ?_
        refine zz_iast zd_27_103_13 zT_1038 rfl (zz_ltn hn rfl) (by decide) (by decide) (fun S6 qS6 => ?_)
        have G_S6 := zz_G.put G_S4 qS6 (-2147483648) 2147483647 rfl (by omega)
        have F_S6 := zz_fr.puts F_S4 qS6 rfl
        refine zz_iinc [some (.ref 1038), some (zi p1), some (zi 3), some (zi 5)] zd_27_103_14 rfl rfl ?_
        refine zz_goto zd_27_103_17 ?_
        refine zz_iload_n (x := 3) rfl zd_27_103_5 ?_
        refine zz_iload_n (x := 5) rfl zd_27_103_6 ?_
        refine zz_icmp_ge (by omega) (by omega) zd_27_103_7 (fun c7 => ?_) (fun c7 => ?_)
        · exfalso; omega
        · refine zz_aload_n (x := 1038) rfl zd_27_103_10 ?_
          refine zz_iload_n (x := 3) rfl zd_27_103_11 ?_
          refine zz_iload_n (x := p1) rfl zd_27_103_12 ?_
          refine zz_iast zd_27_103_13 zT_1038 rfl (zz_ltn hn rfl) (by decide) (by decide) (fun S8 qS8 => ?_)
          have G_S8 := zz_G.put G_S6 qS8 (-2147483648) 2147483647 rfl (by omega)
          have F_S8 := zz_fr.puts F_S6 qS8 rfl
          refine zz_iinc [some (.ref 1038), some (zi p1), some (zi 4), some (zi 5)] zd_27_103_14 rfl rfl ?_
          refine zz_goto zd_27_103_17 ?_
          refine zz_iload_n (x := 4) rfl zd_27_103_5 ?_
          refine zz_iload_n (x := 5) rfl zd_27_103_6 ?_
          refine zz_icmp_ge (by omega) (by omega) zd_27_103_7 (fun c9 => ?_) (fun c9 => ?_)
          · exfalso; omega
          · refine zz_aload_n (x := 1038) rfl zd_27_103_10 ?_
            refine zz_iload_n (x := 4) rfl zd_27_103_11 ?_
            refine zz_iload_n (x := p1) rfl zd_27_103_12 ?_
            refine zz_iast zd_27_103_13 zT_1038 rfl (zz_ltn hn rfl) (by decide) (by decide) (fun S10 qS10 => ?_)
            have G_S10 := zz_G.put G_S8 qS10 (-2147483648) 2147483647 rfl (by omega)
            have F_S10 := zz_fr.puts F_S8 qS10 rfl
            refine zz_iinc [some (.ref 1038), some (zi p1), some (zi 5), some (zi 5)] zd_27_103_14 rfl rfl ?_
            refine zz_goto zd_27_103_17 ?_
            refine zz_iload_n (x := 5) rfl zd_27_103_5 ?_
            refine zz_iload_n (x := 5) rfl zd_27_103_6 ?_
            refine zz_icmp_ge (by omega) (by omega) zd_27_103_7 (fun c11 => ?_) (fun c11 => ?_)
            · have e12 : S10 1038 0 = p1 := (zz_ro qS10 (fun h => absurd h.2 (by decide)) (zz_ro qS8 (fun h => absurd h.2 (by decide)) (zz_ro qS6 (fun h => absurd h.2 (by decide)) (zz_ro qS4 (fun h => absurd h.2 (by decide)) (zz_rs qS2)))))
              have e13 : S10 1038 1 = p1 := (zz_ro qS10 (fun h => absurd h.2 (by decide)) (zz_ro qS8 (fun h => absurd h.2 (by decide)) (zz_ro qS6 (fun h => absurd h.2 (by decide)) (zz_rs qS4))))
              have e14 : S10 1038 2 = p1 := (zz_ro qS10 (fun h => absurd h.2 (by decide)) (zz_ro qS8 (fun h => absurd h.2 (by decide)) (zz_rs qS6)))
              have e15 : S10 1038 3 = p1 := (zz_ro qS10 (fun h => absurd h.2 (by decide)) (zz_rs qS8))
              have e16 : S10 1038 4 = p1 := (zz_rs qS10)
              exact zz_vret zd_27_103_20 rfl (Nat.zero_le _) (Nat.zero_le _) ⟨_, rfl, G_S10, F_S10, by omega, by omega, by omega, by omega, by omega⟩
            · exfalso; omega
theorem zk_Reaches_55 : mm_Sl "TensorForge$Reaches" 55 2 zy_fill_27_103 := ⟨zyw_fill_27_103, mm_tb_1 531 (by decide +kernel) rfl, mm_tb_1 532 (by decide +kernel) rfl⟩
theorem zg_9_7_8 : zq_at zy_forget_9_7.2.1 8 42 ∧ zq_at zy_forget_9_7.2.1 9 180 ∧ zq_at zy_forget_9_7.2.1 10 0 ∧ zq_at zy_forget_9_7.2.1 11 15 ∧ zq_at zy_forget_9_7.2.1 12 2 ∧ zq_at zy_forget_9_7.2.1 13 184 ∧ zq_at zy_forget_9_7.2.1 14 0 ∧ zq_at zy_forget_9_7.2.1 15 55 := by decide +kernel
theorem zd_9_7_8 : zz_D zy_forget_9_7 8 (.aload_n 0) 1 9 := ⟨zq_42 zg_9_7_8.1, rfl⟩
theorem zd_9_7_9 : zz_D zy_forget_9_7 9 (.getfield 15) 3 12 := ⟨zq_180 zg_9_7_8.2.1 zg_9_7_8.2.2.1 zg_9_7_8.2.2.2.1 rfl, rfl⟩
theorem zd_9_7_12 : zz_D zy_forget_9_7 12 (.iconst (-1)) 1 13 := ⟨zq_2 zg_9_7_8.2.2.2.2.1, rfl⟩
theorem zd_9_7_13 : zz_D zy_forget_9_7 13 (.invokestatic 55) 3 16 := ⟨zq_184 zg_9_7_8.2.2.2.2.2.1 zg_9_7_8.2.2.2.2.2.2.1 zg_9_7_8.2.2.2.2.2.2.2 rfl, rfl⟩
-- java/util/Arrays fill ([II)V
abbrev zr_fill_27_103_1039 : Room := { frames := 0, cells := 0, slots := 0, locals := 0 }
def zp_fill_27_103_1039 (p1 : Int) (S0 : zz_S) : zz_S → Prop := fun S => zz_G S ∧ zz_fr [(1039, 0), (1039, 1), (1039, 2), (1039, 3), (1039, 4)] [] (fun _ _ => False) S0 S ∧ (S 1039 0 = p1) ∧ (S 1039 1 = p1) ∧ (S 1039 2 = p1) ∧ (S 1039 3 = p1) ∧ (S 1039 4 = p1)
theorem zc_fill_27_103_1039 {g : mm_G} {l : Launch} (p1 : Int) (S0 : zz_S) (n : Nat) (hn : zz_end ≤ n) (G_S0 : zz_G S0) (hp1 : (-2147483648) ≤ p1 ∧ p1 ≤ 2147483647) : mm_Met g l zy_fill_27_103 zr_fill_27_103_1039 [.ref 1039, zi p1] (zz_M S0 n) n (zz_QV n (zp_fill_27_103_1039 p1 S0)) := by
  refine zz_enter (by decide) (Nat.le_of_ble_eq_true rfl) (zz_less (ls1 := [some (.ref 1039), some (zi p1)]) ⟨rfl, ⟨rfl, trivial⟩⟩ ?_)
  have F_S0 : zz_fr [(1039, 0), (1039, 1), (1039, 2), (1039, 3), (1039, 4)] [] (fun _ _ => False) S0 S0 := zz_fr.refl
  refine zz_iconst zd_27_103_0 ?_
  refine zz_istore_n [some (.ref 1039), some (zi p1), some (zi 0)] zd_27_103_1 (by decide) rfl ?_
  refine zz_aload_n (x := 1039) rfl zd_27_103_2 ?_
  refine zz_alen zd_27_103_3 zT_1039 rfl (zz_ltn hn rfl) ?_
  refine zz_istore_n [some (.ref 1039), some (zi p1), some (zi 0), some (zi 5)] zd_27_103_4 (by decide) rfl ?_
  refine zz_iload_n (x := 0) rfl zd_27_103_5 ?_
  refine zz_iload_n (x := 5) rfl zd_27_103_6 ?_
  refine zz_icmp_ge (by omega) (by omega) zd_27_103_7 (fun c1 => ?_) (fun c1 => ?_)
  · exfalso; omega
  · refine zz_aload_n (x := 1039) rfl zd_27_103_10 ?_
    refine zz_iload_n (x := 0) rfl zd_27_103_11 ?_
    refine zz_iload_n (x := p1) rfl zd_27_103_12 ?_
    refine zz_iast zd_27_103_13 zT_1039 rfl (zz_ltn hn rfl) (by decide) (by decide) (fun S2 qS2 => ?_)
    have G_S2 := zz_G.put G_S0 qS2 (-2147483648) 2147483647 rfl (by omega)
    have F_S2 := zz_fr.puts F_S0 qS2 rfl
    refine zz_iinc [some (.ref 1039), some (zi p1), some (zi 1), some (zi 5)] zd_27_103_14 rfl rfl ?_
    refine zz_goto zd_27_103_17 ?_
    refine zz_iload_n (x := 1) rfl zd_27_103_5 ?_
    refine zz_iload_n (x := 5) rfl zd_27_103_6 ?_
    refine zz_icmp_ge (by omega) (by omega) zd_27_103_7 (fun c3 => ?_) (fun c3 => ?_)
    · exfalso; omega
    · refine zz_aload_n (x := 1039) rfl zd_27_103_10 ?_
      refine zz_iload_n (x := 1) rfl zd_27_103_11 ?_
      refine zz_iload_n (x := p1) rfl zd_27_103_12 ?_
      refine zz_iast zd_27_103_13 zT_1039 rfl (zz_ltn hn rfl) (by decide) (by decide) (fun S4 qS4 => ?_)
      have G_S4 := zz_G.put G_S2 qS4 (-2147483648) 2147483647 rfl (by omega)
      have F_S4 := zz_fr.puts F_S2 qS4 rfl
      refine zz_iinc [some (.ref 1039), some (zi p1), some (zi 2), some (zi 5)] zd_27_103_14 rfl rfl ?_
      refine zz_goto zd_27_103_17 ?_
      refine zz_iload_n (x := 2) rfl zd_27_103_5 ?_
      refine zz_iload_n (x := 5) rfl zd_27_103_6 ?_
      refine zz_icmp_ge (by omega) (by omega) zd_27_103_7 (fun c5 => ?_) (fun c5 => ?_)
      · exfalso; omega
      · refine zz_aload_n (x := 1039) rfl zd_27_103_10 ?_
        refine zz_iload_n (x := 2) rfl zd_27_103_11 ?_
        refine zz_iload_n (x := p1) rfl zd_27_103_12 ?_
        refine zz_iast zd_27_103_13 zT_1039 rfl (zz_ltn hn rfl) (by decide) (by decide) (fun S6 qS6 => ?_)
        have G_S6 := zz_G.put G_S4 qS6 (-2147483648) 2147483647 rfl (by omega)
        have F_S6 := zz_fr.puts F_S4 qS6 rfl
        refine zz_iinc [some (.ref 1039), some (zi p1), some (zi 3), some (zi 5)] zd_27_103_14 rfl rfl ?_
        refine zz_goto zd_27_103_17 ?_
        refine zz_iload_n (x := 3) rfl zd_27_103_5 ?_
        refine zz_iload_n (x := 5) rfl zd_27_103_6 ?_
        refine zz_icmp_ge (by omega) (by omega) zd_27_103_7 (fun c7 => ?_) (fun c7 => ?_)
        · exfalso; omega
        · refine zz_aload_n (x := 1039) rfl zd_27_103_10 ?_
          refine zz_iload_n (x := 3) rfl zd_27_103_11 ?_
          refine zz_iload_n (x := p1) rfl zd_27_103_12 ?_
          refine zz_iast zd_27_103_13 zT_1039 rfl (zz_ltn hn rfl) (by decide) (by decide) (fun S8 qS8 => ?_)
          have G_S8 := zz_G.put G_S6 qS8 (-2147483648) 2147483647 rfl (by omega)
          have F_S8 := zz_fr.puts F_S6 qS8 rfl
          refine zz_iinc [some (.ref 1039), some (zi p1), some (zi 4), some (zi 5)] zd_27_103_14 rfl rfl ?_
          refine zz_goto zd_27_103_17 ?_
          refine zz_iload_n (x := 4) rfl zd_27_103_5 ?_
          refine zz_iload_n (x := 5) rfl zd_27_103_6 ?_
          refine zz_icmp_ge (by omega) (by omega) zd_27_103_7 (fun c9 => ?_) (fun c9 => ?_)
          · exfalso; omega
          · refine zz_aload_n (x := 1039) rfl zd_27_103_10 ?_
            refine zz_iload_n (x := 4) rfl zd_27_103_11 ?_
            refine zz_iload_n (x := p1) rfl zd_27_103_12 ?_
            refine zz_iast zd_27_103_13 zT_1039 rfl (zz_ltn hn rfl) (by decide) (by decide) (fun S10 qS10 => ?_)
            have G_S10 := zz_G.put G_S8 qS10 (-2147483648) 2147483647 rfl (by omega)
            have F_S10 := zz_fr.puts F_S8 qS10 rfl
            refine zz_iinc [some (.ref 1039), some (zi p1), some (zi 5), some (zi 5)] zd_27_103_14 rfl rfl ?_
            refine zz_goto zd_27_103_17 ?_
            refine zz_iload_n (x := 5) rfl zd_27_103_5 ?_
            refine zz_iload_n (x := 5) rfl zd_27_103_6 ?_
            refine zz_icmp_ge (by omega) (by omega) zd_27_103_7 (fun c11 => ?_) (fun c11 => ?_)
            · have e12 : S10 1039 0 = p1 := (zz_ro qS10 (fun h => absurd h.2 (by decide)) (zz_ro qS8 (fun h => absurd h.2 (by decide)) (zz_ro qS6 (fun h => absurd h.2 (by decide)) (zz_ro qS4 (fun h => absurd h.2 (by decide)) (zz_rs qS2)))))
              have e13 : S10 1039 1 = p1 := (zz_ro qS10 (fun h => absurd h.2 (by decide)) (zz_ro qS8 (fun h => absurd h.2 (by decide)) (zz_ro qS6 (fun h => absurd h.2 (by decide)) (zz_rs qS4))))
              have e14 : S10 1039 2 = p1 := (zz_ro qS10 (fun h => absurd h.2 (by decide)) (zz_ro qS8 (fun h => absurd h.2 (by decide)) (zz_rs qS6)))
              have e15 : S10 1039 3 = p1 := (zz_ro qS10 (fun h => absurd h.2 (by decide)) (zz_rs qS8))
              have e16 : S10 1039 4 = p1 := (zz_rs qS10)
              exact zz_vret zd_27_103_20 rfl (Nat.zero_le _) (Nat.zero_le _) ⟨_, rfl, G_S10, F_S10, by omega, by omega, by omega, by omega, by omega⟩
            · exfalso; omega
theorem zg_9_7_16 : zq_at zy_forget_9_7.2.1 16 42 ∧ zq_at zy_forget_9_7.2.1 17 180 ∧ zq_at zy_forget_9_7.2.1 18 0 ∧ zq_at zy_forget_9_7.2.1 19 18 ∧ zq_at zy_forget_9_7.2.1 20 3 ∧ zq_at zy_forget_9_7.2.1 21 184 ∧ zq_at zy_forget_9_7.2.1 22 0 ∧ zq_at zy_forget_9_7.2.1 23 55 := by decide +kernel
theorem zd_9_7_16 : zz_D zy_forget_9_7 16 (.aload_n 0) 1 17 := ⟨zq_42 zg_9_7_16.1, rfl⟩
theorem zd_9_7_17 : zz_D zy_forget_9_7 17 (.getfield 18) 3 20 := ⟨zq_180 zg_9_7_16.2.1 zg_9_7_16.2.2.1 zg_9_7_16.2.2.2.1 rfl, rfl⟩
theorem zd_9_7_20 : zz_D zy_forget_9_7 20 (.iconst 0) 1 21 := ⟨zq_3 zg_9_7_16.2.2.2.2.1, rfl⟩
theorem zd_9_7_21 : zz_D zy_forget_9_7 21 (.invokestatic 55) 3 24 := ⟨zq_184 zg_9_7_16.2.2.2.2.2.1 zg_9_7_16.2.2.2.2.2.2.1 zg_9_7_16.2.2.2.2.2.2.2 rfl, rfl⟩
-- java/util/Arrays fill ([II)V
abbrev zr_fill_27_103_1040 : Room := { frames := 0, cells := 0, slots := 0, locals := 0 }
def zp_fill_27_103_1040 (p1 : Int) (S0 : zz_S) : zz_S → Prop := fun S => zz_G S ∧ zz_fr [(1040, 0), (1040, 1), (1040, 2), (1040, 3), (1040, 4)] [] (fun _ _ => False) S0 S ∧ (S 1040 0 = p1) ∧ (S 1040 1 = p1) ∧ (S 1040 2 = p1) ∧ (S 1040 3 = p1) ∧ (S 1040 4 = p1)
theorem zc_fill_27_103_1040 {g : mm_G} {l : Launch} (p1 : Int) (S0 : zz_S) (n : Nat) (hn : zz_end ≤ n) (G_S0 : zz_G S0) (hp1 : (-2147483648) ≤ p1 ∧ p1 ≤ 2147483647) : mm_Met g l zy_fill_27_103 zr_fill_27_103_1040 [.ref 1040, zi p1] (zz_M S0 n) n (zz_QV n (zp_fill_27_103_1040 p1 S0)) := by
  refine zz_enter (by decide) (Nat.le_of_ble_eq_true rfl) (zz_less (ls1 := [some (.ref 1040), some (zi p1)]) ⟨rfl, ⟨rfl, trivial⟩⟩ ?_)
  have F_S0 : zz_fr [(1040, 0), (1040, 1), (1040, 2), (1040, 3), (1040, 4)] [] (fun _ _ => False) S0 S0 := zz_fr.refl
  refine zz_iconst zd_27_103_0 ?_
  refine zz_istore_n [some (.ref 1040), some (zi p1), some (zi 0)] zd_27_103_1 (by decide) rfl ?_
  refine zz_aload_n (x := 1040) rfl zd_27_103_2 ?_
  refine zz_alen zd_27_103_3 zT_1040 rfl (zz_ltn hn rfl) ?_
  refine zz_istore_n [some (.ref 1040), some (zi p1), some (zi 0), some (zi 5)] zd_27_103_4 (by decide) rfl ?_
  refine zz_iload_n (x := 0) rfl zd_27_103_5 ?_
  refine zz_iload_n (x := 5) rfl zd_27_103_6 ?_
  refine zz_icmp_ge (by omega) (by omega) zd_27_103_7 (fun c1 => ?_) (fun c1 => ?_)
  · exfalso; omega
  · refine zz_aload_n (x := 1040) rfl zd_27_103_10 ?_
    refine zz_iload_n (x := 0) rfl zd_27_103_11 ?_
    refine zz_iload_n (x := p1) rfl zd_27_103_12 ?_
    refine zz_iast zd_27_103_13 zT_1040 rfl (zz_ltn hn rfl) (by decide) (by decide) (fun S2 qS2 => ?_)
    have G_S2 := zz_G.put G_S0 qS2 (-2147483648) 2147483647 rfl (by omega)
    have F_S2 := zz_fr.puts F_S0 qS2 rfl
    refine zz_iinc [some (.ref 1040), some (zi p1), some (zi 1), some (zi 5)] zd_27_103_14 rfl rfl ?_
    refine zz_goto zd_27_103_17 ?_
    refine zz_iload_n (x := 1) rfl zd_27_103_5 ?_
    refine zz_iload_n (x := 5) rfl zd_27_103_6 ?_
    refine zz_icmp_ge (by omega) (by omega) zd_27_103_7 (fun c3 => ?_) (fun c3 => ?_)
    · exfalso; omega
    · refine zz_aload_n (x := 1040) rfl zd_27_103_10 ?_
      refine zz_iload_n (x := 1) rfl zd_27_103_11 ?_
      refine zz_iload_n (x := p1) rfl zd_27_103_12 ?_
      refine zz_iast zd_27_103_13 zT_1040 rfl (zz_ltn hn rfl) (by decide) (by decide) (fun S4 qS4 => ?_)
      have G_S4 := zz_G.put G_S2 qS4 (-2147483648) 2147483647 rfl (by omega)
      have F_S4 := zz_fr.puts F_S2 qS4 rfl
      refine zz_iinc [some (.ref 1040), some (zi p1), some (zi 2), some (zi 5)] zd_27_103_14 rfl rfl ?_
      refine zz_goto zd_27_103_17 ?_
      refine zz_iload_n (x := 2) rfl zd_27_103_5 ?_
      refine zz_iload_n (x := 5) rfl zd_27_103_6 ?_
      refine zz_icmp_ge (by omega) (by omega) zd_27_103_7 (fun c5 => ?_) (fun c5 => ?_)
      · exfalso; omega
      · refine zz_aload_n (x := 1040) rfl zd_27_103_10 ?_
        refine zz_iload_n (x := 2) rfl zd_27_103_11 ?_
        refine zz_iload_n (x := p1) rfl zd_27_103_12 ?_
        refine zz_iast zd_27_103_13 zT_1040 rfl (zz_ltn hn rfl) (by decide) (by decide) (fun S6 qS6 => ?_)
        have G_S6 := zz_G.put G_S4 qS6 (-2147483648) 2147483647 rfl (by omega)
        have F_S6 := zz_fr.puts F_S4 qS6 rfl
        refine zz_iinc [some (.ref 1040), some (zi p1), some (zi 3), some (zi 5)] zd_27_103_14 rfl rfl ?_
        refine zz_goto zd_27_103_17 ?_
        refine zz_iload_n (x := 3) rfl zd_27_103_5 ?_
        refine zz_iload_n (x := 5) rfl zd_27_103_6 ?_
        refine zz_icmp_ge (by omega) (by omega) zd_27_103_7 (fun c7 => ?_) (fun c7 => ?_)
        · exfalso; omega
        · refine zz_aload_n (x := 1040) rfl zd_27_103_10 ?_
          refine zz_iload_n (x := 3) rfl zd_27_103_11 ?_
          refine zz_iload_n (x := p1) rfl zd_27_103_12 ?_
          refine zz_iast zd_27_103_13 zT_1040 rfl (zz_ltn hn rfl) (by decide) (by decide) (fun S8 qS8 => ?_)
          have G_S8 := zz_G.put G_S6 qS8 (-2147483648) 2147483647 rfl (by omega)
          have F_S8 := zz_fr.puts F_S6 qS8 rfl
          refine zz_iinc [some (.ref 1040), some (zi p1), some (zi 4), some (zi 5)] zd_27_103_14 rfl rfl ?_
          refine zz_goto zd_27_103_17 ?_
          refine zz_iload_n (x := 4) rfl zd_27_103_5 ?_
          refine zz_iload_n (x := 5) rfl zd_27_103_6 ?_
          refine zz_icmp_ge (by omega) (by omega) zd_27_103_7 (fun c9 => ?_) (fun c9 => ?_)
          · exfalso; omega
          · refine zz_aload_n (x := 1040) rfl zd_27_103_10 ?_
            refine zz_iload_n (x := 4) rfl zd_27_103_11 ?_
            refine zz_iload_n (x := p1) rfl zd_27_103_12 ?_
            refine zz_iast zd_27_103_13 zT_1040 rfl (zz_ltn hn rfl) (by decide) (by decide) (fun S10 qS10 => ?_)
            have G_S10 := zz_G.put G_S8 qS10 (-2147483648) 2147483647 rfl (by omega)
            have F_S10 := zz_fr.puts F_S8 qS10 rfl
            refine zz_iinc [some (.ref 1040), some (zi p1), some (zi 5), some (zi 5)] zd_27_103_14 rfl rfl ?_
            refine zz_goto zd_27_103_17 ?_
            refine zz_iload_n (x := 5) rfl zd_27_103_5 ?_
            refine zz_iload_n (x := 5) rfl zd_27_103_6 ?_
            refine zz_icmp_ge (by omega) (by omega) zd_27_103_7 (fun c11 => ?_) (fun c11 => ?_)
            · have e12 : S10 1040 0 = p1 := (zz_ro qS10 (fun h => absurd h.2 (by decide)) (zz_ro qS8 (fun h => absurd h.2 (by decide)) (zz_ro qS6 (fun h => absurd h.2 (by decide)) (zz_ro qS4 (fun h => absurd h.2 (by decide)) (zz_rs qS2)))))
              have e13 : S10 1040 1 = p1 := (zz_ro qS10 (fun h => absurd h.2 (by decide)) (zz_ro qS8 (fun h => absurd h.2 (by decide)) (zz_ro qS6 (fun h => absurd h.2 (by decide)) (zz_rs qS4))))
              have e14 : S10 1040 2 = p1 := (zz_ro qS10 (fun h => absurd h.2 (by decide)) (zz_ro qS8 (fun h => absurd h.2 (by decide)) (zz_rs qS6)))
              have e15 : S10 1040 3 = p1 := (zz_ro qS10 (fun h => absurd h.2 (by decide)) (zz_rs qS8))
              have e16 : S10 1040 4 = p1 := (zz_rs qS10)
              exact zz_vret zd_27_103_20 rfl (Nat.zero_le _) (Nat.zero_le _) ⟨_, rfl, G_S10, F_S10, by omega, by omega, by omega, by omega, by omega⟩
            · exfalso; omega
theorem zg_9_7_24 : zq_at zy_forget_9_7.2.1 24 42 ∧ zq_at zy_forget_9_7.2.1 25 180 ∧ zq_at zy_forget_9_7.2.1 26 0 ∧ zq_at zy_forget_9_7.2.1 27 21 ∧ zq_at zy_forget_9_7.2.1 28 2 ∧ zq_at zy_forget_9_7.2.1 29 184 ∧ zq_at zy_forget_9_7.2.1 30 0 ∧ zq_at zy_forget_9_7.2.1 31 55 := by decide +kernel
theorem zd_9_7_24 : zz_D zy_forget_9_7 24 (.aload_n 0) 1 25 := ⟨zq_42 zg_9_7_24.1, rfl⟩
theorem zd_9_7_25 : zz_D zy_forget_9_7 25 (.getfield 21) 3 28 := ⟨zq_180 zg_9_7_24.2.1 zg_9_7_24.2.2.1 zg_9_7_24.2.2.2.1 rfl, rfl⟩
theorem zd_9_7_28 : zz_D zy_forget_9_7 28 (.iconst (-1)) 1 29 := ⟨zq_2 zg_9_7_24.2.2.2.2.1, rfl⟩
theorem zd_9_7_29 : zz_D zy_forget_9_7 29 (.invokestatic 55) 3 32 := ⟨zq_184 zg_9_7_24.2.2.2.2.2.1 zg_9_7_24.2.2.2.2.2.2.1 zg_9_7_24.2.2.2.2.2.2.2 rfl, rfl⟩
-- java/util/Arrays fill ([II)V
abbrev zr_fill_27_103_1041 : Room := { frames := 0, cells := 0, slots := 0, locals := 0 }
def zp_fill_27_103_1041 (p1 : Int) (S0 : zz_S) : zz_S → Prop := fun S => zz_G S ∧ zz_fr [(1041, 0), (1041, 1), (1041, 2), (1041, 3), (1041, 4)] [] (fun _ _ => False) S0 S ∧ (S 1041 0 = p1) ∧ (S 1041 1 = p1) ∧ (S 1041 2 = p1) ∧ (S 1041 3 = p1) ∧ (S 1041 4 = p1)
theorem zc_fill_27_103_1041 {g : mm_G} {l : Launch} (p1 : Int) (S0 : zz_S) (n : Nat) (hn : zz_end ≤ n) (G_S0 : zz_G S0) (hp1 : (-2147483648) ≤ p1 ∧ p1 ≤ 2147483647) : mm_Met g l zy_fill_27_103 zr_fill_27_103_1041 [.ref 1041, zi p1] (zz_M S0 n) n (zz_QV n (zp_fill_27_103_1041 p1 S0)) := by
  refine zz_enter (by decide) (Nat.le_of_ble_eq_true rfl) (zz_less (ls1 := [some (.ref 1041), some (zi p1)]) ⟨rfl, ⟨rfl, trivial⟩⟩ ?_)
  have F_S0 : zz_fr [(1041, 0), (1041, 1), (1041, 2), (1041, 3), (1041, 4)] [] (fun _ _ => False) S0 S0 := zz_fr.refl
  refine zz_iconst zd_27_103_0 ?_
  refine zz_istore_n [some (.ref 1041), some (zi p1), some (zi 0)] zd_27_103_1 (by decide) rfl ?_
  refine zz_aload_n (x := 1041) rfl zd_27_103_2 ?_
  refine zz_alen zd_27_103_3 zT_1041 rfl (zz_ltn hn rfl) ?_
  refine zz_istore_n [some (.ref 1041), some (zi p1), some (zi 0), some (zi 5)] zd_27_103_4 (by decide) rfl ?_
  refine zz_iload_n (x := 0) rfl zd_27_103_5 ?_
  refine zz_iload_n (x := 5) rfl zd_27_103_6 ?_
  refine zz_icmp_ge (by omega) (by omega) zd_27_103_7 (fun c1 => ?_) (fun c1 => ?_)
  · exfalso; omega
  · refine zz_aload_n (x := 1041) rfl zd_27_103_10 ?_
    refine zz_iload_n (x := 0) rfl zd_27_103_11 ?_
    refine zz_iload_n (x := p1) rfl zd_27_103_12 ?_
    refine zz_iast zd_27_103_13 zT_1041 rfl (zz_ltn hn rfl) (by decide) (by decide) (fun S2 qS2 => ?_)
    have G_S2 := zz_G.put G_S0 qS2 (-2147483648) 2147483647 rfl (by omega)
    have F_S2 := zz_fr.puts F_S0 qS2 rfl
    refine zz_iinc [some (.ref 1041), some (zi p1), some (zi 1), some (zi 5)] zd_27_103_14 rfl rfl ?_
    refine zz_goto zd_27_103_17 ?_
    refine zz_iload_n (x := 1) rfl zd_27_103_5 ?_
    refine zz_iload_n (x := 5) rfl zd_27_103_6 ?_
    refine zz_icmp_ge (by omega) (by omega) zd_27_103_7 (fun c3 => ?_) (fun c3 => ?_)
    · exfalso; omega
    · refine zz_aload_n (x := 1041) rfl zd_27_103_10 ?_
      refine zz_iload_n (x := 1) rfl zd_27_103_11 ?_
      refine zz_iload_n (x := p1) rfl zd_27_103_12 ?_
      refine zz_iast zd_27_103_13 zT_1041 rfl (zz_ltn hn rfl) (by decide) (by decide) (fun S4 qS4 => ?_)
      have G_S4 := zz_G.put G_S2 qS4 (-2147483648) 2147483647 rfl (by omega)
      have F_S4 := zz_fr.puts F_S2 qS4 rfl
      refine zz_iinc [some (.ref 1041), some (zi p1), some (zi 2), some (zi 5)] zd_27_103_14 rfl rfl ?_
      refine zz_goto zd_27_103_17 ?_
      refine zz_iload_n (x := 2) rfl zd_27_103_5 ?_
      refine zz_iload_n (x := 5) rfl zd_27_103_6 ?_
      refine zz_icmp_ge (by omega) (by omega) zd_27_103_7 (fun c5 => ?_) (fun c5 => ?_)
      · exfalso; omega
      · refine zz_aload_n (x := 1041) rfl zd_27_103_10 ?_
        refine zz_iload_n (x := 2) rfl zd_27_103_11 ?_
        refine zz_iload_n (x := p1) rfl zd_27_103_12 ?_
        refine zz_iast zd_27_103_13 zT_1041 rfl (zz_ltn hn rfl) (by decide) (by decide) (fun S6 qS6 => ?_)
        have G_S6 := zz_G.put G_S4 qS6 (-2147483648) 2147483647 rfl (by omega)
        have F_S6 := zz_fr.puts F_S4 qS6 rfl
        refine zz_iinc [some (.ref 1041), some (zi p1), some (zi 3), some (zi 5)] zd_27_103_14 rfl rfl ?_
        refine zz_goto zd_27_103_17 ?_
        refine zz_iload_n (x := 3) rfl zd_27_103_5 ?_
        refine zz_iload_n (x := 5) rfl zd_27_103_6 ?_
        refine zz_icmp_ge (by omega) (by omega) zd_27_103_7 (fun c7 => ?_) (fun c7 => ?_)
        · exfalso; omega
        · refine zz_aload_n (x := 1041) rfl zd_27_103_10 ?_
          refine zz_iload_n (x := 3) rfl zd_27_103_11 ?_
          refine zz_iload_n (x := p1) rfl zd_27_103_12 ?_
          refine zz_iast zd_27_103_13 zT_1041 rfl (zz_ltn hn rfl) (by decide) (by decide) (fun S8 qS8 => ?_)
          have G_S8 := zz_G.put G_S6 qS8 (-2147483648) 2147483647 rfl (by omega)
          have F_S8 := zz_fr.puts F_S6 qS8 rfl
          refine zz_iinc [some (.ref 1041), some (zi p1), some (zi 4), some (zi 5)] zd_27_103_14 rfl rfl ?_
          refine zz_goto zd_27_103_17 ?_
          refine zz_iload_n (x := 4) rfl zd_27_103_5 ?_
          refine zz_iload_n (x := 5) rfl zd_27_103_6 ?_
          refine zz_icmp_ge (by omega) (by omega) zd_27_103_7 (fun c9 => ?_) (fun c9 => ?_)
          · exfalso; omega
          · refine zz_aload_n (x := 1041) rfl zd_27_103_10 ?_
            refine zz_iload_n (x := 4) rfl zd_27_103_11 ?_
            refine zz_iload_n (x := p1) rfl zd_27_103_12 ?_
            refine zz_iast zd_27_103_13 zT_1041 rfl (zz_ltn hn rfl) (by decide) (by decide) (fun S10 qS10 => ?_)
            have G_S10 := zz_G.put G_S8 qS10 (-2147483648) 2147483647 rfl (by omega)
            have F_S10 := zz_fr.puts F_S8 qS10 rfl
            refine zz_iinc [some (.ref 1041), some (zi p1), some (zi 5), some (zi 5)] zd_27_103_14 rfl rfl ?_
            refine zz_goto zd_27_103_17 ?_
            refine zz_iload_n (x := 5) rfl zd_27_103_5 ?_
            refine zz_iload_n (x := 5) rfl zd_27_103_6 ?_
            refine zz_icmp_ge (by omega) (by omega) zd_27_103_7 (fun c11 => ?_) (fun c11 => ?_)
            · have e12 : S10 1041 0 = p1 := (zz_ro qS10 (fun h => absurd h.2 (by decide)) (zz_ro qS8 (fun h => absurd h.2 (by decide)) (zz_ro qS6 (fun h => absurd h.2 (by decide)) (zz_ro qS4 (fun h => absurd h.2 (by decide)) (zz_rs qS2)))))
              have e13 : S10 1041 1 = p1 := (zz_ro qS10 (fun h => absurd h.2 (by decide)) (zz_ro qS8 (fun h => absurd h.2 (by decide)) (zz_ro qS6 (fun h => absurd h.2 (by decide)) (zz_rs qS4))))
              have e14 : S10 1041 2 = p1 := (zz_ro qS10 (fun h => absurd h.2 (by decide)) (zz_ro qS8 (fun h => absurd h.2 (by decide)) (zz_rs qS6)))
              have e15 : S10 1041 3 = p1 := (zz_ro qS10 (fun h => absurd h.2 (by decide)) (zz_rs qS8))
              have e16 : S10 1041 4 = p1 := (zz_rs qS10)
              exact zz_vret zd_27_103_20 rfl (Nat.zero_le _) (Nat.zero_le _) ⟨_, rfl, G_S10, F_S10, by omega, by omega, by omega, by omega, by omega⟩
            · exfalso; omega
theorem zg_9_7_32 : zq_at zy_forget_9_7.2.1 32 177 := by decide +kernel
theorem zd_9_7_32 : zz_D zy_forget_9_7 32 (.return_) 1 33 := ⟨zq_177 zg_9_7_32, rfl⟩
-- TensorForge$Reaches forget ()V
abbrev zr_forget_9_7x_1037 : Room := { frames := 1, cells := 0, slots := 0, locals := 15 }
def zp_forget_9_7x_1037  (S0 : zz_S) : zz_S → Prop := fun S => zz_G S ∧ zz_fr [(1038, 0), (1038, 1), (1038, 2), (1038, 3), (1038, 4), (1039, 0), (1039, 1), (1039, 2), (1039, 3), (1039, 4), (1040, 0), (1040, 1), (1040, 2), (1040, 3), (1040, 4), (1041, 0), (1041, 1), (1041, 2), (1041, 3), (1041, 4)] [] (fun _ _ => False) S0 S ∧ (S 1039 0 = -1) ∧ (S 1039 1 = -1) ∧ (S 1039 2 = -1) ∧ (S 1039 3 = -1) ∧ (S 1039 4 = -1) ∧ (S 1041 0 = -1) ∧ (S 1041 1 = -1) ∧ (S 1041 2 = -1) ∧ (S 1041 3 = -1) ∧ (S 1041 4 = -1)
theorem zc_forget_9_7x_1037 {g : mm_G} {l : Launch}  (S0 : zz_S) (n : Nat) (hn : zz_end ≤ n) (G_S0 : zz_G S0)  : mm_Met g l zy_forget_9_7 zr_forget_9_7x_1037 [.ref 1037] (zz_M S0 n) n (zz_QV n (zp_forget_9_7x_1037  S0)) := by
  refine zz_enter (by decide) (Nat.le_of_ble_eq_true rfl) (zz_less (ls1 := [some (.ref 1037)]) ⟨rfl, trivial⟩ ?_)
  have F_S0 : zz_fr [(1038, 0), (1038, 1), (1038, 2), (1038, 3), (1038, 4), (1039, 0), (1039, 1), (1039, 2), (1039, 3), (1039, 4), (1040, 0), (1040, 1), (1040, 2), (1040, 3), (1040, 4), (1041, 0), (1041, 1), (1041, 2), (1041, 3), (1041, 4)] [] (fun _ _ => False) S0 S0 := zz_fr.refl
  refine zz_aload_n (x := 1037) rfl zd_9_7_0 ?_
  refine zz_getr (kd := 0) (z := 1038) zd_9_7_1 zf_Reaches_11 zT_1037 rfl (zz_ltn hn rfl) (zz_G.eq G_S0 1037 0 1038 rfl rfl) (by decide) 1038 rfl ?_
  refine zz_iconst zd_9_7_4 ?_
  refine zz_callSV [.ref 1038, zi 0] zd_9_7_5 zk_Reaches_55 rfl rfl ⟨Nat.le_of_ble_eq_true rfl, Nat.le_of_ble_eq_true rfl⟩ ⟨rfl, rfl⟩ (Nat.zero_le _) (Nat.zero_le _) (zc_fill_27_103_1038 0 S0 n hn G_S0 (by omega)) (fun S1 hP => ?_)
  obtain ⟨G_S1, fS1, o3, o4, o5, o6, o7⟩ := hP
  have F_S1 := zz_fr.trans F_S0 fS1 rfl zz_nv
  refine zz_aload_n (x := 1037) rfl zd_9_7_8 ?_
  refine zz_getr (kd := 0) (z := 1039) zd_9_7_9 zf_Reaches_15 zT_1037 rfl (zz_ltn hn rfl) (zz_G.eq G_S1 1037 1 1039 rfl rfl) (by decide) 1039 rfl ?_
  refine zz_iconst zd_9_7_12 ?_
  refine zz_callSV [.ref 1039, zi (-1)] zd_9_7_13 zk_Reaches_55 rfl rfl ⟨Nat.le_of_ble_eq_true rfl, Nat.le_of_ble_eq_true rfl⟩ ⟨rfl, rfl⟩ (Nat.zero_le _) (Nat.zero_le _) (zc_fill_27_103_1039 (-1) S1 n hn G_S1 (by omega)) (fun S8 hP => ?_)
  obtain ⟨G_S8, fS8, o10, o11, o12, o13, o14⟩ := hP
  have F_S8 := zz_fr.trans F_S1 fS8 rfl zz_nv
  refine zz_aload_n (x := 1037) rfl zd_9_7_16 ?_
  refine zz_getr (kd := 0) (z := 1040) zd_9_7_17 zf_Reaches_18 zT_1037 rfl (zz_ltn hn rfl) (zz_G.eq G_S8 1037 2 1040 rfl rfl) (by decide) 1040 rfl ?_
  refine zz_iconst zd_9_7_20 ?_
  refine zz_callSV [.ref 1040, zi 0] zd_9_7_21 zk_Reaches_55 rfl rfl ⟨Nat.le_of_ble_eq_true rfl, Nat.le_of_ble_eq_true rfl⟩ ⟨rfl, rfl⟩ (Nat.zero_le _) (Nat.zero_le _) (zc_fill_27_103_1040 0 S8 n hn G_S8 (by omega)) (fun S15 hP => ?_)
  obtain ⟨G_S15, fS15, o17, o18, o19, o20, o21⟩ := hP
  have F_S15 := zz_fr.trans F_S8 fS15 rfl zz_nv
  refine zz_aload_n (x := 1037) rfl zd_9_7_24 ?_
  refine zz_getr (kd := 0) (z := 1041) zd_9_7_25 zf_Reaches_21 zT_1037 rfl (zz_ltn hn rfl) (zz_G.eq G_S15 1037 3 1041 rfl rfl) (by decide) 1041 rfl ?_
  refine zz_iconst zd_9_7_28 ?_
  refine zz_callSV [.ref 1041, zi (-1)] zd_9_7_29 zk_Reaches_55 rfl rfl ⟨Nat.le_of_ble_eq_true rfl, Nat.le_of_ble_eq_true rfl⟩ ⟨rfl, rfl⟩ (Nat.zero_le _) (Nat.zero_le _) (zc_fill_27_103_1041 (-1) S15 n hn G_S15 (by omega)) (fun S22 hP => ?_)
  obtain ⟨G_S22, fS22, o24, o25, o26, o27, o28⟩ := hP
  have F_S22 := zz_fr.trans F_S15 fS22 rfl zz_nv
  have g29 := zz_G.r G_S8 1039 0 (-2147483648) 2147483647 rfl rfl
  have e30 : S22 1039 0 = S8 1039 0 := (zz_rc fS22 rfl rfl (fun h => h) (zz_rc fS15 rfl rfl (fun h => h) rfl))
  have g31 := zz_G.r G_S8 1039 1 (-2147483648) 2147483647 rfl rfl
  have e32 : S22 1039 1 = S8 1039 1 := (zz_rc fS22 rfl rfl (fun h => h) (zz_rc fS15 rfl rfl (fun h => h) rfl))
  have g33 := zz_G.r G_S8 1039 2 (-2147483648) 2147483647 rfl rfl
  have e34 : S22 1039 2 = S8 1039 2 := (zz_rc fS22 rfl rfl (fun h => h) (zz_rc fS15 rfl rfl (fun h => h) rfl))
  have g35 := zz_G.r G_S8 1039 3 (-2147483648) 2147483647 rfl rfl
  have e36 : S22 1039 3 = S8 1039 3 := (zz_rc fS22 rfl rfl (fun h => h) (zz_rc fS15 rfl rfl (fun h => h) rfl))
  have g37 := zz_G.r G_S8 1039 4 (-2147483648) 2147483647 rfl rfl
  have e38 : S22 1039 4 = S8 1039 4 := (zz_rc fS22 rfl rfl (fun h => h) (zz_rc fS15 rfl rfl (fun h => h) rfl))
  have g39 := zz_G.r G_S22 1041 0 (-2147483648) 2147483647 rfl rfl
  have g40 := zz_G.r G_S22 1041 1 (-2147483648) 2147483647 rfl rfl
  have g41 := zz_G.r G_S22 1041 2 (-2147483648) 2147483647 rfl rfl
  have g42 := zz_G.r G_S22 1041 3 (-2147483648) 2147483647 rfl rfl
  have g43 := zz_G.r G_S22 1041 4 (-2147483648) 2147483647 rfl rfl
  exact zz_vret zd_9_7_32 rfl (Nat.zero_le _) (Nat.zero_le _) ⟨_, rfl, G_S22, F_S22, by omega, by omega, by omega, by omega, by omega, by omega, by omega, by omega, by omega, by omega⟩
theorem zk_Reaches_24 : mm_Vl "TensorForge$Reaches" 24 4 0 zy_forget_9_7 := ⟨zyw_forget_9_7, (R_Reaches, F_Reaches, 4), rfl, mm_tb_1 527 (by decide +kernel) rfl, mm_tb_1 529 (by decide +kernel) rfl, mm_tb_s 2 (by decide +kernel) rfl⟩
theorem zk_Reaches_29 : mm_Sl "TensorForge$Reaches" 29 2 zy_get_12_2 := ⟨zyw_get_12_2, mm_tb_1 534 (by decide +kernel) rfl, mm_tb_1 493 (by decide +kernel) rfl⟩
theorem zd_9_2_75 : zz_W zy_take_9_2 75 151 1 8 #[45, 66, 87, 99, 151, 151, 151, 130] := ⟨45, by decide +kernel⟩
abbrev zy_reads_9_8 : mm_Y := (⟨"TensorForge$Reaches", "reads", "(III)V"⟩, prog_9_method_8_code, 4, none)
theorem zyw_reads_9_8 : mm_Yw zy_reads_9_8 3 := ⟨mm_tb_1 538 (by decide +kernel) rfl, mm_tb_1 5 (by decide +kernel) rfl, ⟨by decide, by decide⟩, by decide +kernel⟩
theorem zg_9_2_4 : zq_at zy_take_9_2.2.1 4 31 ∧ zq_at zy_take_9_2.2.1 5 3 ∧ zq_at zy_take_9_2.2.1 6 184 ∧ zq_at zy_take_9_2.2.1 7 0 ∧ zq_at zy_take_9_2.2.1 8 29 ∧ zq_at zy_take_9_2.2.1 9 54 ∧ zq_at zy_take_9_2.2.1 10 4 ∧ zq_at zy_take_9_2.2.1 11 31 ∧ zq_at zy_take_9_2.2.1 12 8 ∧ zq_at zy_take_9_2.2.1 13 184 ∧ zq_at zy_take_9_2.2.1 14 0 ∧ zq_at zy_take_9_2.2.1 15 29 ∧ zq_at zy_take_9_2.2.1 16 54 ∧ zq_at zy_take_9_2.2.1 17 5 ∧ zq_at zy_take_9_2.2.1 18 31 ∧ zq_at zy_take_9_2.2.1 19 16 ∧ zq_at zy_take_9_2.2.1 20 6 ∧ zq_at zy_take_9_2.2.1 21 184 ∧ zq_at zy_take_9_2.2.1 22 0 ∧ zq_at zy_take_9_2.2.1 23 29 ∧ zq_at zy_take_9_2.2.1 24 4 ∧ zq_at zy_take_9_2.2.1 25 100 ∧ zq_at zy_take_9_2.2.1 26 54 ∧ zq_at zy_take_9_2.2.1 27 6 := by decide +kernel
theorem zd_9_2_4 : zz_D zy_take_9_2 4 (.lload_n 1) 1 5 := ⟨zq_31 zg_9_2_4.1, rfl⟩
theorem zd_9_2_5 : zz_D zy_take_9_2 5 (.iconst 0) 1 6 := ⟨zq_3 zg_9_2_4.2.1, rfl⟩
theorem zd_9_2_6 : zz_D zy_take_9_2 6 (.invokestatic 29) 3 9 := ⟨zq_184 zg_9_2_4.2.2.1 zg_9_2_4.2.2.2.1 zg_9_2_4.2.2.2.2.1 rfl, rfl⟩
theorem zd_9_2_9 : zz_D zy_take_9_2 9 (.istore 4) 2 11 := ⟨zq_54 zg_9_2_4.2.2.2.2.2.1 zg_9_2_4.2.2.2.2.2.2.1, rfl⟩
theorem zd_9_2_11 : zz_D zy_take_9_2 11 (.lload_n 1) 1 12 := ⟨zq_31 zg_9_2_4.2.2.2.2.2.2.2.1, rfl⟩
theorem zd_9_2_12 : zz_D zy_take_9_2 12 (.iconst 5) 1 13 := ⟨zq_8 zg_9_2_4.2.2.2.2.2.2.2.2.1, rfl⟩
theorem zd_9_2_13 : zz_D zy_take_9_2 13 (.invokestatic 29) 3 16 := ⟨zq_184 zg_9_2_4.2.2.2.2.2.2.2.2.2.1 zg_9_2_4.2.2.2.2.2.2.2.2.2.2.1 zg_9_2_4.2.2.2.2.2.2.2.2.2.2.2.1 rfl, rfl⟩
theorem zd_9_2_16 : zz_D zy_take_9_2 16 (.istore 5) 2 18 := ⟨zq_54 zg_9_2_4.2.2.2.2.2.2.2.2.2.2.2.2.1 zg_9_2_4.2.2.2.2.2.2.2.2.2.2.2.2.2.1, rfl⟩
theorem zd_9_2_18 : zz_D zy_take_9_2 18 (.lload_n 1) 1 19 := ⟨zq_31 zg_9_2_4.2.2.2.2.2.2.2.2.2.2.2.2.2.2.1, rfl⟩
theorem zd_9_2_19 : zz_D zy_take_9_2 19 (.bipush 6) 2 21 := ⟨zq_16 zg_9_2_4.2.2.2.2.2.2.2.2.2.2.2.2.2.2.2.1 zg_9_2_4.2.2.2.2.2.2.2.2.2.2.2.2.2.2.2.2.1 (by decide), rfl⟩
theorem zd_9_2_21 : zz_D zy_take_9_2 21 (.invokestatic 29) 3 24 := ⟨zq_184 zg_9_2_4.2.2.2.2.2.2.2.2.2.2.2.2.2.2.2.2.2.1 zg_9_2_4.2.2.2.2.2.2.2.2.2.2.2.2.2.2.2.2.2.2.1 zg_9_2_4.2.2.2.2.2.2.2.2.2.2.2.2.2.2.2.2.2.2.2.1 rfl, rfl⟩
theorem zd_9_2_24 : zz_D zy_take_9_2 24 (.iconst 1) 1 25 := ⟨zq_4 zg_9_2_4.2.2.2.2.2.2.2.2.2.2.2.2.2.2.2.2.2.2.2.2.1, rfl⟩
theorem zd_9_2_25 : zz_D zy_take_9_2 25 (.isub) 1 26 := ⟨zq_100 zg_9_2_4.2.2.2.2.2.2.2.2.2.2.2.2.2.2.2.2.2.2.2.2.2.1, rfl⟩
theorem zd_9_2_26 : zz_D zy_take_9_2 26 (.istore 6) 2 28 := ⟨zq_54 zg_9_2_4.2.2.2.2.2.2.2.2.2.2.2.2.2.2.2.2.2.2.2.2.2.2.1 zg_9_2_4.2.2.2.2.2.2.2.2.2.2.2.2.2.2.2.2.2.2.2.2.2.2.2, rfl⟩
theorem zg_9_2_28 : zq_at zy_take_9_2.2.1 28 31 ∧ zq_at zy_take_9_2.2.1 29 16 ∧ zq_at zy_take_9_2.2.1 30 7 ∧ zq_at zy_take_9_2.2.1 31 184 ∧ zq_at zy_take_9_2.2.1 32 0 ∧ zq_at zy_take_9_2.2.1 33 29 ∧ zq_at zy_take_9_2.2.1 34 4 ∧ zq_at zy_take_9_2.2.1 35 100 ∧ zq_at zy_take_9_2.2.1 36 54 ∧ zq_at zy_take_9_2.2.1 37 7 ∧ zq_at zy_take_9_2.2.1 38 31 ∧ zq_at zy_take_9_2.2.1 39 16 ∧ zq_at zy_take_9_2.2.1 40 10 ∧ zq_at zy_take_9_2.2.1 41 184 ∧ zq_at zy_take_9_2.2.1 42 0 ∧ zq_at zy_take_9_2.2.1 43 29 ∧ zq_at zy_take_9_2.2.1 44 54 ∧ zq_at zy_take_9_2.2.1 45 8 ∧ zq_at zy_take_9_2.2.1 46 31 ∧ zq_at zy_take_9_2.2.1 47 16 ∧ zq_at zy_take_9_2.2.1 48 8 ∧ zq_at zy_take_9_2.2.1 49 184 ∧ zq_at zy_take_9_2.2.1 50 0 ∧ zq_at zy_take_9_2.2.1 51 29 := by decide +kernel
theorem zd_9_2_28 : zz_D zy_take_9_2 28 (.lload_n 1) 1 29 := ⟨zq_31 zg_9_2_28.1, rfl⟩
theorem zd_9_2_29 : zz_D zy_take_9_2 29 (.bipush 7) 2 31 := ⟨zq_16 zg_9_2_28.2.1 zg_9_2_28.2.2.1 (by decide), rfl⟩
theorem zd_9_2_31 : zz_D zy_take_9_2 31 (.invokestatic 29) 3 34 := ⟨zq_184 zg_9_2_28.2.2.2.1 zg_9_2_28.2.2.2.2.1 zg_9_2_28.2.2.2.2.2.1 rfl, rfl⟩
theorem zd_9_2_34 : zz_D zy_take_9_2 34 (.iconst 1) 1 35 := ⟨zq_4 zg_9_2_28.2.2.2.2.2.2.1, rfl⟩
theorem zd_9_2_35 : zz_D zy_take_9_2 35 (.isub) 1 36 := ⟨zq_100 zg_9_2_28.2.2.2.2.2.2.2.1, rfl⟩
theorem zd_9_2_36 : zz_D zy_take_9_2 36 (.istore 7) 2 38 := ⟨zq_54 zg_9_2_28.2.2.2.2.2.2.2.2.1 zg_9_2_28.2.2.2.2.2.2.2.2.2.1, rfl⟩
theorem zd_9_2_38 : zz_D zy_take_9_2 38 (.lload_n 1) 1 39 := ⟨zq_31 zg_9_2_28.2.2.2.2.2.2.2.2.2.2.1, rfl⟩
theorem zd_9_2_39 : zz_D zy_take_9_2 39 (.bipush 10) 2 41 := ⟨zq_16 zg_9_2_28.2.2.2.2.2.2.2.2.2.2.2.1 zg_9_2_28.2.2.2.2.2.2.2.2.2.2.2.2.1 (by decide), rfl⟩
theorem zd_9_2_41 : zz_D zy_take_9_2 41 (.invokestatic 29) 3 44 := ⟨zq_184 zg_9_2_28.2.2.2.2.2.2.2.2.2.2.2.2.2.1 zg_9_2_28.2.2.2.2.2.2.2.2.2.2.2.2.2.2.1 zg_9_2_28.2.2.2.2.2.2.2.2.2.2.2.2.2.2.2.1 rfl, rfl⟩
theorem zd_9_2_44 : zz_D zy_take_9_2 44 (.istore 8) 2 46 := ⟨zq_54 zg_9_2_28.2.2.2.2.2.2.2.2.2.2.2.2.2.2.2.2.1 zg_9_2_28.2.2.2.2.2.2.2.2.2.2.2.2.2.2.2.2.2.1, rfl⟩
theorem zd_9_2_46 : zz_D zy_take_9_2 46 (.lload_n 1) 1 47 := ⟨zq_31 zg_9_2_28.2.2.2.2.2.2.2.2.2.2.2.2.2.2.2.2.2.2.1, rfl⟩
theorem zd_9_2_47 : zz_D zy_take_9_2 47 (.bipush 8) 2 49 := ⟨zq_16 zg_9_2_28.2.2.2.2.2.2.2.2.2.2.2.2.2.2.2.2.2.2.2.1 zg_9_2_28.2.2.2.2.2.2.2.2.2.2.2.2.2.2.2.2.2.2.2.2.1 (by decide), rfl⟩
theorem zd_9_2_49 : zz_D zy_take_9_2 49 (.invokestatic 29) 3 52 := ⟨zq_184 zg_9_2_28.2.2.2.2.2.2.2.2.2.2.2.2.2.2.2.2.2.2.2.2.2.1 zg_9_2_28.2.2.2.2.2.2.2.2.2.2.2.2.2.2.2.2.2.2.2.2.2.2.1 zg_9_2_28.2.2.2.2.2.2.2.2.2.2.2.2.2.2.2.2.2.2.2.2.2.2.2 rfl, rfl⟩
theorem zg_9_2_52 : zq_at zy_take_9_2.2.1 52 54 ∧ zq_at zy_take_9_2.2.1 53 9 ∧ zq_at zy_take_9_2.2.1 54 21 ∧ zq_at zy_take_9_2.2.1 55 6 ∧ zq_at zy_take_9_2.2.1 56 29 ∧ zq_at zy_take_9_2.2.1 57 104 ∧ zq_at zy_take_9_2.2.1 58 21 ∧ zq_at zy_take_9_2.2.1 59 7 ∧ zq_at zy_take_9_2.2.1 60 96 ∧ zq_at zy_take_9_2.2.1 61 54 ∧ zq_at zy_take_9_2.2.1 62 10 ∧ zq_at zy_take_9_2.2.1 63 21 ∧ zq_at zy_take_9_2.2.1 64 6 ∧ zq_at zy_take_9_2.2.1 65 21 ∧ zq_at zy_take_9_2.2.1 66 8 ∧ zq_at zy_take_9_2.2.1 67 104 ∧ zq_at zy_take_9_2.2.1 68 21 ∧ zq_at zy_take_9_2.2.1 69 7 ∧ zq_at zy_take_9_2.2.1 70 96 ∧ zq_at zy_take_9_2.2.1 71 54 ∧ zq_at zy_take_9_2.2.1 72 11 ∧ zq_at zy_take_9_2.2.1 73 21 ∧ zq_at zy_take_9_2.2.1 74 4 ∧ zq_at zy_take_9_2.2.1 120 42 := by decide +kernel
theorem zd_9_2_52 : zz_D zy_take_9_2 52 (.istore 9) 2 54 := ⟨zq_54 zg_9_2_52.1 zg_9_2_52.2.1, rfl⟩
theorem zd_9_2_54 : zz_D zy_take_9_2 54 (.iload 6) 2 56 := ⟨zq_21 zg_9_2_52.2.2.1 zg_9_2_52.2.2.2.1, rfl⟩
theorem zd_9_2_56 : zz_D zy_take_9_2 56 (.iload_n 3) 1 57 := ⟨zq_29 zg_9_2_52.2.2.2.2.1, rfl⟩
theorem zd_9_2_57 : zz_D zy_take_9_2 57 (.imul) 1 58 := ⟨zq_104 zg_9_2_52.2.2.2.2.2.1, rfl⟩
theorem zd_9_2_58 : zz_D zy_take_9_2 58 (.iload 7) 2 60 := ⟨zq_21 zg_9_2_52.2.2.2.2.2.2.1 zg_9_2_52.2.2.2.2.2.2.2.1, rfl⟩
theorem zd_9_2_60 : zz_D zy_take_9_2 60 (.iadd) 1 61 := ⟨zq_96 zg_9_2_52.2.2.2.2.2.2.2.2.1, rfl⟩
theorem zd_9_2_61 : zz_D zy_take_9_2 61 (.istore 10) 2 63 := ⟨zq_54 zg_9_2_52.2.2.2.2.2.2.2.2.2.1 zg_9_2_52.2.2.2.2.2.2.2.2.2.2.1, rfl⟩
theorem zd_9_2_63 : zz_D zy_take_9_2 63 (.iload 6) 2 65 := ⟨zq_21 zg_9_2_52.2.2.2.2.2.2.2.2.2.2.2.1 zg_9_2_52.2.2.2.2.2.2.2.2.2.2.2.2.1, rfl⟩
theorem zd_9_2_65 : zz_D zy_take_9_2 65 (.iload 8) 2 67 := ⟨zq_21 zg_9_2_52.2.2.2.2.2.2.2.2.2.2.2.2.2.1 zg_9_2_52.2.2.2.2.2.2.2.2.2.2.2.2.2.2.1, rfl⟩
theorem zd_9_2_67 : zz_D zy_take_9_2 67 (.imul) 1 68 := ⟨zq_104 zg_9_2_52.2.2.2.2.2.2.2.2.2.2.2.2.2.2.2.1, rfl⟩
theorem zd_9_2_68 : zz_D zy_take_9_2 68 (.iload 7) 2 70 := ⟨zq_21 zg_9_2_52.2.2.2.2.2.2.2.2.2.2.2.2.2.2.2.2.1 zg_9_2_52.2.2.2.2.2.2.2.2.2.2.2.2.2.2.2.2.2.1, rfl⟩
theorem zd_9_2_70 : zz_D zy_take_9_2 70 (.iadd) 1 71 := ⟨zq_96 zg_9_2_52.2.2.2.2.2.2.2.2.2.2.2.2.2.2.2.2.2.2.1, rfl⟩
theorem zd_9_2_71 : zz_D zy_take_9_2 71 (.istore 11) 2 73 := ⟨zq_54 zg_9_2_52.2.2.2.2.2.2.2.2.2.2.2.2.2.2.2.2.2.2.2.1 zg_9_2_52.2.2.2.2.2.2.2.2.2.2.2.2.2.2.2.2.2.2.2.2.1, rfl⟩
theorem zd_9_2_73 : zz_D zy_take_9_2 73 (.iload 4) 2 75 := ⟨zq_21 zg_9_2_52.2.2.2.2.2.2.2.2.2.2.2.2.2.2.2.2.2.2.2.2.2.1 zg_9_2_52.2.2.2.2.2.2.2.2.2.2.2.2.2.2.2.2.2.2.2.2.2.2.1, rfl⟩
theorem zd_9_2_120 : zz_D zy_take_9_2 120 (.aload_n 0) 1 121 := ⟨zq_42 zg_9_2_52.2.2.2.2.2.2.2.2.2.2.2.2.2.2.2.2.2.2.2.2.2.2.2, rfl⟩
theorem zg_9_2_121 : zq_at zy_take_9_2.2.1 121 3 ∧ zq_at zy_take_9_2.2.1 122 21 ∧ zq_at zy_take_9_2.2.1 123 5 ∧ zq_at zy_take_9_2.2.1 124 21 ∧ zq_at zy_take_9_2.2.1 125 11 ∧ zq_at zy_take_9_2.2.1 126 182 ∧ zq_at zy_take_9_2.2.1 127 0 ∧ zq_at zy_take_9_2.2.1 128 33 := by decide +kernel
theorem zd_9_2_121 : zz_D zy_take_9_2 121 (.iconst 0) 1 122 := ⟨zq_3 zg_9_2_121.1, rfl⟩
theorem zd_9_2_122 : zz_D zy_take_9_2 122 (.iload 5) 2 124 := ⟨zq_21 zg_9_2_121.2.1 zg_9_2_121.2.2.1, rfl⟩
theorem zd_9_2_124 : zz_D zy_take_9_2 124 (.iload 11) 2 126 := ⟨zq_21 zg_9_2_121.2.2.2.1 zg_9_2_121.2.2.2.2.1, rfl⟩
theorem zd_9_2_126 : zz_D zy_take_9_2 126 (.invokevirtual 33) 3 129 := ⟨zq_182 zg_9_2_121.2.2.2.2.2.1 zg_9_2_121.2.2.2.2.2.2.1 zg_9_2_121.2.2.2.2.2.2.2 rfl, rfl⟩
theorem zg_9_8_0 : zq_at zy_reads_9_8.2.1 0 27 ∧ zq_at zy_reads_9_8.2.1 1 155 ∧ zq_at zy_reads_9_8.2.1 2 0 ∧ zq_at zy_reads_9_8.2.1 3 24 ∧ zq_at zy_reads_9_8.2.1 4 27 ∧ zq_at zy_reads_9_8.2.1 5 8 ∧ zq_at zy_reads_9_8.2.1 6 162 ∧ zq_at zy_reads_9_8.2.1 7 0 ∧ zq_at zy_reads_9_8.2.1 8 19 ∧ zq_at zy_reads_9_8.2.1 9 42 ∧ zq_at zy_reads_9_8.2.1 10 180 ∧ zq_at zy_reads_9_8.2.1 11 0 ∧ zq_at zy_reads_9_8.2.1 12 11 ∧ zq_at zy_reads_9_8.2.1 13 27 ∧ zq_at zy_reads_9_8.2.1 14 28 ∧ zq_at zy_reads_9_8.2.1 15 79 ∧ zq_at zy_reads_9_8.2.1 16 42 ∧ zq_at zy_reads_9_8.2.1 17 180 ∧ zq_at zy_reads_9_8.2.1 18 0 ∧ zq_at zy_reads_9_8.2.1 19 15 ∧ zq_at zy_reads_9_8.2.1 20 27 ∧ zq_at zy_reads_9_8.2.1 21 28 ∧ zq_at zy_reads_9_8.2.1 22 29 ∧ zq_at zy_reads_9_8.2.1 23 96 := by decide +kernel
theorem zd_9_8_0 : zz_D zy_reads_9_8 0 (.iload_n 1) 1 1 := ⟨zq_27 zg_9_8_0.1, rfl⟩
theorem zd_9_8_1 : zz_B zy_reads_9_8 1 (Instr.ifCond .lt) 25 4 := ⟨24, zq_155 zg_9_8_0.2.1 zg_9_8_0.2.2.1 zg_9_8_0.2.2.2.1 (by decide), rfl, rfl⟩
theorem zd_9_8_4 : zz_D zy_reads_9_8 4 (.iload_n 1) 1 5 := ⟨zq_27 zg_9_8_0.2.2.2.2.1, rfl⟩
theorem zd_9_8_5 : zz_D zy_reads_9_8 5 (.iconst 5) 1 6 := ⟨zq_8 zg_9_8_0.2.2.2.2.2.1, rfl⟩
theorem zd_9_8_6 : zz_B zy_reads_9_8 6 (Instr.if_icmp .ge) 25 9 := ⟨19, zq_162 zg_9_8_0.2.2.2.2.2.2.1 zg_9_8_0.2.2.2.2.2.2.2.1 zg_9_8_0.2.2.2.2.2.2.2.2.1 (by decide), rfl, rfl⟩
theorem zd_9_8_9 : zz_D zy_reads_9_8 9 (.aload_n 0) 1 10 := ⟨zq_42 zg_9_8_0.2.2.2.2.2.2.2.2.2.1, rfl⟩
theorem zd_9_8_10 : zz_D zy_reads_9_8 10 (.getfield 11) 3 13 := ⟨zq_180 zg_9_8_0.2.2.2.2.2.2.2.2.2.2.1 zg_9_8_0.2.2.2.2.2.2.2.2.2.2.2.1 zg_9_8_0.2.2.2.2.2.2.2.2.2.2.2.2.1 rfl, rfl⟩
theorem zd_9_8_13 : zz_D zy_reads_9_8 13 (.iload_n 1) 1 14 := ⟨zq_27 zg_9_8_0.2.2.2.2.2.2.2.2.2.2.2.2.2.1, rfl⟩
theorem zd_9_8_14 : zz_D zy_reads_9_8 14 (.iload_n 2) 1 15 := ⟨zq_28 zg_9_8_0.2.2.2.2.2.2.2.2.2.2.2.2.2.2.1, rfl⟩
theorem zd_9_8_15 : zz_D zy_reads_9_8 15 (.iastore) 1 16 := ⟨zq_79 zg_9_8_0.2.2.2.2.2.2.2.2.2.2.2.2.2.2.2.1, rfl⟩
theorem zd_9_8_16 : zz_D zy_reads_9_8 16 (.aload_n 0) 1 17 := ⟨zq_42 zg_9_8_0.2.2.2.2.2.2.2.2.2.2.2.2.2.2.2.2.1, rfl⟩
theorem zd_9_8_17 : zz_D zy_reads_9_8 17 (.getfield 15) 3 20 := ⟨zq_180 zg_9_8_0.2.2.2.2.2.2.2.2.2.2.2.2.2.2.2.2.2.1 zg_9_8_0.2.2.2.2.2.2.2.2.2.2.2.2.2.2.2.2.2.2.1 zg_9_8_0.2.2.2.2.2.2.2.2.2.2.2.2.2.2.2.2.2.2.2.1 rfl, rfl⟩
theorem zd_9_8_20 : zz_D zy_reads_9_8 20 (.iload_n 1) 1 21 := ⟨zq_27 zg_9_8_0.2.2.2.2.2.2.2.2.2.2.2.2.2.2.2.2.2.2.2.2.1, rfl⟩
theorem zd_9_8_21 : zz_D zy_reads_9_8 21 (.iload_n 2) 1 22 := ⟨zq_28 zg_9_8_0.2.2.2.2.2.2.2.2.2.2.2.2.2.2.2.2.2.2.2.2.2.1, rfl⟩
theorem zd_9_8_22 : zz_D zy_reads_9_8 22 (.iload_n 3) 1 23 := ⟨zq_29 zg_9_8_0.2.2.2.2.2.2.2.2.2.2.2.2.2.2.2.2.2.2.2.2.2.2.1, rfl⟩
theorem zd_9_8_23 : zz_D zy_reads_9_8 23 (.iadd) 1 24 := ⟨zq_96 zg_9_8_0.2.2.2.2.2.2.2.2.2.2.2.2.2.2.2.2.2.2.2.2.2.2.2, rfl⟩
theorem zg_9_8_24 : zq_at zy_reads_9_8.2.1 24 79 ∧ zq_at zy_reads_9_8.2.1 25 177 := by decide +kernel
theorem zd_9_8_24 : zz_D zy_reads_9_8 24 (.iastore) 1 25 := ⟨zq_79 zg_9_8_24.1, rfl⟩
theorem zd_9_8_25 : zz_D zy_reads_9_8 25 (.return_) 1 26 := ⟨zq_177 zg_9_8_24.2, rfl⟩
-- TensorForge$Reaches reads (III)V
abbrev zr_reads_9_8x_1037_0 : Room := { frames := 0, cells := 0, slots := 0, locals := 0 }
def zp_reads_9_8x_1037_0 (p1 : Int) (p2 : Int) (S0 : zz_S) : zz_S → Prop := fun S => zz_G S ∧ zz_fr [(1038, 0), (1039, 0)] [] (fun _ _ => False) S0 S ∧ (S 1039 0 = p1 + p2)
theorem zc_reads_9_8x_1037_0 {g : mm_G} {l : Launch} (p1 : Int) (p2 : Int) (S0 : zz_S) (n : Nat) (hn : zz_end ≤ n) (G_S0 : zz_G S0) (hp1 : 0 ≤ p1 ∧ p1 ≤ 4095) (hp2 : (-100000) ≤ p2 ∧ p2 ≤ 100000) : mm_Met g l zy_reads_9_8 zr_reads_9_8x_1037_0 [.ref 1037, zi 0, zi p1, zi p2] (zz_M S0 n) n (zz_QV n (zp_reads_9_8x_1037_0 p1 p2 S0)) := by
  refine zz_enter (by decide) (Nat.le_of_ble_eq_true rfl) (zz_less (ls1 := [some (.ref 1037), some (zi 0), some (zi p1), some (zi p2)]) ⟨rfl, ⟨rfl, ⟨rfl, ⟨rfl, trivial⟩⟩⟩⟩ ?_)
  have F_S0 : zz_fr [(1038, 0), (1039, 0)] [] (fun _ _ => False) S0 S0 := zz_fr.refl
  refine zz_iload_n (x := 0) rfl zd_9_8_0 ?_
  refine zz_if_lt (by omega) zd_9_8_1 (fun c1 => ?_) (fun c1 => ?_)
  · exfalso; omega
  · refine zz_iload_n (x := 0) rfl zd_9_8_4 ?_
    refine zz_iconst zd_9_8_5 ?_
    refine zz_icmp_ge (by omega) (by omega) zd_9_8_6 (fun c2 => ?_) (fun c2 => ?_)
    · exfalso; omega
    · refine zz_aload_n (x := 1037) rfl zd_9_8_9 ?_
      refine zz_getr (kd := 0) (z := 1038) zd_9_8_10 zf_Reaches_11 zT_1037 rfl (zz_ltn hn rfl) (zz_G.eq G_S0 1037 0 1038 rfl rfl) (by decide) 1038 rfl ?_
      refine zz_iload_n (x := 0) rfl zd_9_8_13 ?_
      refine zz_iload_n (x := p1) rfl zd_9_8_14 ?_
      refine zz_iast zd_9_8_15 zT_1038 rfl (zz_ltn hn rfl) (by decide) (by decide) (fun S3 qS3 => ?_)
      have G_S3 := zz_G.put G_S0 qS3 (-2147483648) 2147483647 rfl (by omega)
      have F_S3 := zz_fr.puts F_S0 qS3 rfl
      refine zz_aload_n (x := 1037) rfl zd_9_8_16 ?_
      refine zz_getr (kd := 0) (z := 1039) zd_9_8_17 zf_Reaches_15 zT_1037 rfl (zz_ltn hn rfl) (zz_G.eq G_S3 1037 1 1039 rfl rfl) (by decide) 1039 rfl ?_
      refine zz_iload_n (x := 0) rfl zd_9_8_20 ?_
      refine zz_iload_n (x := p1) rfl zd_9_8_21 ?_
      refine zz_iload_n (x := p2) rfl zd_9_8_22 ?_
      refine zz_iadd zd_9_8_23 ?_
      refine zz_iast zd_9_8_24 zT_1039 rfl (zz_ltn hn rfl) (by decide) (by decide) (fun S4 qS4 => ?_)
      have G_S4 := zz_G.put G_S3 qS4 (-2147483648) 2147483647 rfl (by omega)
      have F_S4 := zz_fr.puts F_S3 qS4 rfl
      have e5 : S4 1039 0 = p1 + p2 := (zz_rs qS4)
      exact zz_vret zd_9_8_25 rfl (Nat.zero_le _) (Nat.zero_le _) ⟨_, rfl, G_S4, F_S4, by omega⟩
theorem zk_Reaches_33 : mm_Vl "TensorForge$Reaches" 33 4 3 zy_reads_9_8 := ⟨zyw_reads_9_8, (R_Reaches, F_Reaches, 4), rfl, mm_tb_1 535 (by decide +kernel) rfl, mm_tb_1 537 (by decide +kernel) rfl, mm_tb_s 3 (by decide +kernel) rfl⟩
abbrev zy_writes_9_9 : mm_Y := (⟨"TensorForge$Reaches", "writes", "(III)V"⟩, prog_9_method_9_code, 4, none)
theorem zyw_writes_9_9 : mm_Yw zy_writes_9_9 3 := ⟨mm_tb_1 542 (by decide +kernel) rfl, mm_tb_1 5 (by decide +kernel) rfl, ⟨by decide, by decide⟩, by decide +kernel⟩
theorem zg_9_2_129 : zq_at zy_take_9_2.2.1 129 42 ∧ zq_at zy_take_9_2.2.1 130 4 ∧ zq_at zy_take_9_2.2.1 131 21 ∧ zq_at zy_take_9_2.2.1 132 9 ∧ zq_at zy_take_9_2.2.1 133 21 ∧ zq_at zy_take_9_2.2.1 134 10 ∧ zq_at zy_take_9_2.2.1 135 182 ∧ zq_at zy_take_9_2.2.1 136 0 ∧ zq_at zy_take_9_2.2.1 137 37 := by decide +kernel
theorem zd_9_2_129 : zz_D zy_take_9_2 129 (.aload_n 0) 1 130 := ⟨zq_42 zg_9_2_129.1, rfl⟩
theorem zd_9_2_130 : zz_D zy_take_9_2 130 (.iconst 1) 1 131 := ⟨zq_4 zg_9_2_129.2.1, rfl⟩
theorem zd_9_2_131 : zz_D zy_take_9_2 131 (.iload 9) 2 133 := ⟨zq_21 zg_9_2_129.2.2.1 zg_9_2_129.2.2.2.1, rfl⟩
theorem zd_9_2_133 : zz_D zy_take_9_2 133 (.iload 10) 2 135 := ⟨zq_21 zg_9_2_129.2.2.2.2.1 zg_9_2_129.2.2.2.2.2.1, rfl⟩
theorem zd_9_2_135 : zz_D zy_take_9_2 135 (.invokevirtual 37) 3 138 := ⟨zq_182 zg_9_2_129.2.2.2.2.2.2.1 zg_9_2_129.2.2.2.2.2.2.2.1 zg_9_2_129.2.2.2.2.2.2.2.2 rfl, rfl⟩
theorem zg_9_9_0 : zq_at zy_writes_9_9.2.1 0 27 ∧ zq_at zy_writes_9_9.2.1 1 155 ∧ zq_at zy_writes_9_9.2.1 2 0 ∧ zq_at zy_writes_9_9.2.1 3 24 ∧ zq_at zy_writes_9_9.2.1 4 27 ∧ zq_at zy_writes_9_9.2.1 5 8 ∧ zq_at zy_writes_9_9.2.1 6 162 ∧ zq_at zy_writes_9_9.2.1 7 0 ∧ zq_at zy_writes_9_9.2.1 8 19 ∧ zq_at zy_writes_9_9.2.1 9 42 ∧ zq_at zy_writes_9_9.2.1 10 180 ∧ zq_at zy_writes_9_9.2.1 11 0 ∧ zq_at zy_writes_9_9.2.1 12 18 ∧ zq_at zy_writes_9_9.2.1 13 27 ∧ zq_at zy_writes_9_9.2.1 14 28 ∧ zq_at zy_writes_9_9.2.1 15 79 ∧ zq_at zy_writes_9_9.2.1 16 42 ∧ zq_at zy_writes_9_9.2.1 17 180 ∧ zq_at zy_writes_9_9.2.1 18 0 ∧ zq_at zy_writes_9_9.2.1 19 21 ∧ zq_at zy_writes_9_9.2.1 20 27 ∧ zq_at zy_writes_9_9.2.1 21 28 ∧ zq_at zy_writes_9_9.2.1 22 29 ∧ zq_at zy_writes_9_9.2.1 23 96 := by decide +kernel
theorem zd_9_9_0 : zz_D zy_writes_9_9 0 (.iload_n 1) 1 1 := ⟨zq_27 zg_9_9_0.1, rfl⟩
theorem zd_9_9_1 : zz_B zy_writes_9_9 1 (Instr.ifCond .lt) 25 4 := ⟨24, zq_155 zg_9_9_0.2.1 zg_9_9_0.2.2.1 zg_9_9_0.2.2.2.1 (by decide), rfl, rfl⟩
theorem zd_9_9_4 : zz_D zy_writes_9_9 4 (.iload_n 1) 1 5 := ⟨zq_27 zg_9_9_0.2.2.2.2.1, rfl⟩
theorem zd_9_9_5 : zz_D zy_writes_9_9 5 (.iconst 5) 1 6 := ⟨zq_8 zg_9_9_0.2.2.2.2.2.1, rfl⟩
theorem zd_9_9_6 : zz_B zy_writes_9_9 6 (Instr.if_icmp .ge) 25 9 := ⟨19, zq_162 zg_9_9_0.2.2.2.2.2.2.1 zg_9_9_0.2.2.2.2.2.2.2.1 zg_9_9_0.2.2.2.2.2.2.2.2.1 (by decide), rfl, rfl⟩
theorem zd_9_9_9 : zz_D zy_writes_9_9 9 (.aload_n 0) 1 10 := ⟨zq_42 zg_9_9_0.2.2.2.2.2.2.2.2.2.1, rfl⟩
theorem zd_9_9_10 : zz_D zy_writes_9_9 10 (.getfield 18) 3 13 := ⟨zq_180 zg_9_9_0.2.2.2.2.2.2.2.2.2.2.1 zg_9_9_0.2.2.2.2.2.2.2.2.2.2.2.1 zg_9_9_0.2.2.2.2.2.2.2.2.2.2.2.2.1 rfl, rfl⟩
theorem zd_9_9_13 : zz_D zy_writes_9_9 13 (.iload_n 1) 1 14 := ⟨zq_27 zg_9_9_0.2.2.2.2.2.2.2.2.2.2.2.2.2.1, rfl⟩
theorem zd_9_9_14 : zz_D zy_writes_9_9 14 (.iload_n 2) 1 15 := ⟨zq_28 zg_9_9_0.2.2.2.2.2.2.2.2.2.2.2.2.2.2.1, rfl⟩
theorem zd_9_9_15 : zz_D zy_writes_9_9 15 (.iastore) 1 16 := ⟨zq_79 zg_9_9_0.2.2.2.2.2.2.2.2.2.2.2.2.2.2.2.1, rfl⟩
theorem zd_9_9_16 : zz_D zy_writes_9_9 16 (.aload_n 0) 1 17 := ⟨zq_42 zg_9_9_0.2.2.2.2.2.2.2.2.2.2.2.2.2.2.2.2.1, rfl⟩
theorem zd_9_9_17 : zz_D zy_writes_9_9 17 (.getfield 21) 3 20 := ⟨zq_180 zg_9_9_0.2.2.2.2.2.2.2.2.2.2.2.2.2.2.2.2.2.1 zg_9_9_0.2.2.2.2.2.2.2.2.2.2.2.2.2.2.2.2.2.2.1 zg_9_9_0.2.2.2.2.2.2.2.2.2.2.2.2.2.2.2.2.2.2.2.1 rfl, rfl⟩
theorem zd_9_9_20 : zz_D zy_writes_9_9 20 (.iload_n 1) 1 21 := ⟨zq_27 zg_9_9_0.2.2.2.2.2.2.2.2.2.2.2.2.2.2.2.2.2.2.2.2.1, rfl⟩
theorem zd_9_9_21 : zz_D zy_writes_9_9 21 (.iload_n 2) 1 22 := ⟨zq_28 zg_9_9_0.2.2.2.2.2.2.2.2.2.2.2.2.2.2.2.2.2.2.2.2.2.1, rfl⟩
theorem zd_9_9_22 : zz_D zy_writes_9_9 22 (.iload_n 3) 1 23 := ⟨zq_29 zg_9_9_0.2.2.2.2.2.2.2.2.2.2.2.2.2.2.2.2.2.2.2.2.2.2.1, rfl⟩
theorem zd_9_9_23 : zz_D zy_writes_9_9 23 (.iadd) 1 24 := ⟨zq_96 zg_9_9_0.2.2.2.2.2.2.2.2.2.2.2.2.2.2.2.2.2.2.2.2.2.2.2, rfl⟩
theorem zg_9_9_24 : zq_at zy_writes_9_9.2.1 24 79 ∧ zq_at zy_writes_9_9.2.1 25 177 := by decide +kernel
theorem zd_9_9_24 : zz_D zy_writes_9_9 24 (.iastore) 1 25 := ⟨zq_79 zg_9_9_24.1, rfl⟩
theorem zd_9_9_25 : zz_D zy_writes_9_9 25 (.return_) 1 26 := ⟨zq_177 zg_9_9_24.2, rfl⟩
-- TensorForge$Reaches writes (III)V
abbrev zr_writes_9_9x_1037_1 : Room := { frames := 0, cells := 0, slots := 0, locals := 0 }
def zp_writes_9_9x_1037_1 (p1 : Int) (p2 : Int) (S0 : zz_S) : zz_S → Prop := fun S => zz_G S ∧ zz_fr [(1040, 1), (1041, 1)] [] (fun _ _ => False) S0 S ∧ (S 1041 1 = p1 + p2)
theorem zc_writes_9_9x_1037_1 {g : mm_G} {l : Launch} (p1 : Int) (p2 : Int) (S0 : zz_S) (n : Nat) (hn : zz_end ≤ n) (G_S0 : zz_G S0) (hp1 : 0 ≤ p1 ∧ p1 ≤ 4095) (hp2 : (-100000) ≤ p2 ∧ p2 ≤ 100000) : mm_Met g l zy_writes_9_9 zr_writes_9_9x_1037_1 [.ref 1037, zi 1, zi p1, zi p2] (zz_M S0 n) n (zz_QV n (zp_writes_9_9x_1037_1 p1 p2 S0)) := by
  refine zz_enter (by decide) (Nat.le_of_ble_eq_true rfl) (zz_less (ls1 := [some (.ref 1037), some (zi 1), some (zi p1), some (zi p2)]) ⟨rfl, ⟨rfl, ⟨rfl, ⟨rfl, trivial⟩⟩⟩⟩ ?_)
  have F_S0 : zz_fr [(1040, 1), (1041, 1)] [] (fun _ _ => False) S0 S0 := zz_fr.refl
  refine zz_iload_n (x := 1) rfl zd_9_9_0 ?_
  refine zz_if_lt (by omega) zd_9_9_1 (fun c1 => ?_) (fun c1 => ?_)
  · exfalso; omega
  · refine zz_iload_n (x := 1) rfl zd_9_9_4 ?_
    refine zz_iconst zd_9_9_5 ?_
    refine zz_icmp_ge (by omega) (by omega) zd_9_9_6 (fun c2 => ?_) (fun c2 => ?_)
    · exfalso; omega
    · refine zz_aload_n (x := 1037) rfl zd_9_9_9 ?_
      refine zz_getr (kd := 0) (z := 1040) zd_9_9_10 zf_Reaches_18 zT_1037 rfl (zz_ltn hn rfl) (zz_G.eq G_S0 1037 2 1040 rfl rfl) (by decide) 1040 rfl ?_
      refine zz_iload_n (x := 1) rfl zd_9_9_13 ?_
      refine zz_iload_n (x := p1) rfl zd_9_9_14 ?_
      refine zz_iast zd_9_9_15 zT_1040 rfl (zz_ltn hn rfl) (by decide) (by decide) (fun S3 qS3 => ?_)
      have G_S3 := zz_G.put G_S0 qS3 (-2147483648) 2147483647 rfl (by omega)
      have F_S3 := zz_fr.puts F_S0 qS3 rfl
      refine zz_aload_n (x := 1037) rfl zd_9_9_16 ?_
      refine zz_getr (kd := 0) (z := 1041) zd_9_9_17 zf_Reaches_21 zT_1037 rfl (zz_ltn hn rfl) (zz_G.eq G_S3 1037 3 1041 rfl rfl) (by decide) 1041 rfl ?_
      refine zz_iload_n (x := 1) rfl zd_9_9_20 ?_
      refine zz_iload_n (x := p1) rfl zd_9_9_21 ?_
      refine zz_iload_n (x := p2) rfl zd_9_9_22 ?_
      refine zz_iadd zd_9_9_23 ?_
      refine zz_iast zd_9_9_24 zT_1041 rfl (zz_ltn hn rfl) (by decide) (by decide) (fun S4 qS4 => ?_)
      have G_S4 := zz_G.put G_S3 qS4 (-2147483648) 2147483647 rfl (by omega)
      have F_S4 := zz_fr.puts F_S3 qS4 rfl
      have e5 : S4 1041 1 = p1 + p2 := (zz_rs qS4)
      exact zz_vret zd_9_9_25 rfl (Nat.zero_le _) (Nat.zero_le _) ⟨_, rfl, G_S4, F_S4, by omega⟩
theorem zk_Reaches_37 : mm_Vl "TensorForge$Reaches" 37 4 3 zy_writes_9_9 := ⟨zyw_writes_9_9, (R_Reaches, F_Reaches, 4), rfl, mm_tb_1 539 (by decide +kernel) rfl, mm_tb_1 541 (by decide +kernel) rfl, mm_tb_s 4 (by decide +kernel) rfl⟩
theorem zg_9_2_138 : zq_at zy_take_9_2.2.1 138 167 ∧ zq_at zy_take_9_2.2.1 139 0 ∧ zq_at zy_take_9_2.2.1 140 94 ∧ zq_at zy_take_9_2.2.1 232 177 ∧ zq_at zy_take_9_2.2.1 141 42 ∧ zq_at zy_take_9_2.2.1 142 3 ∧ zq_at zy_take_9_2.2.1 143 21 ∧ zq_at zy_take_9_2.2.1 144 5 ∧ zq_at zy_take_9_2.2.1 145 21 ∧ zq_at zy_take_9_2.2.1 146 11 ∧ zq_at zy_take_9_2.2.1 147 182 ∧ zq_at zy_take_9_2.2.1 148 0 ∧ zq_at zy_take_9_2.2.1 149 33 ∧ zq_at zy_take_9_2.2.1 150 42 ∧ zq_at zy_take_9_2.2.1 151 5 ∧ zq_at zy_take_9_2.2.1 152 21 ∧ zq_at zy_take_9_2.2.1 153 9 ∧ zq_at zy_take_9_2.2.1 154 21 ∧ zq_at zy_take_9_2.2.1 155 10 ∧ zq_at zy_take_9_2.2.1 156 182 ∧ zq_at zy_take_9_2.2.1 157 0 ∧ zq_at zy_take_9_2.2.1 158 37 := by decide +kernel
theorem zd_9_2_138 : zz_B zy_take_9_2 138 Instr.goto 232 141 := ⟨94, zq_167 zg_9_2_138.1 zg_9_2_138.2.1 zg_9_2_138.2.2.1 (by decide), rfl, rfl⟩
theorem zd_9_2_232 : zz_D zy_take_9_2 232 (.return_) 1 233 := ⟨zq_177 zg_9_2_138.2.2.2.1, rfl⟩
theorem zd_9_2_141 : zz_D zy_take_9_2 141 (.aload_n 0) 1 142 := ⟨zq_42 zg_9_2_138.2.2.2.2.1, rfl⟩
theorem zd_9_2_142 : zz_D zy_take_9_2 142 (.iconst 0) 1 143 := ⟨zq_3 zg_9_2_138.2.2.2.2.2.1, rfl⟩
theorem zd_9_2_143 : zz_D zy_take_9_2 143 (.iload 5) 2 145 := ⟨zq_21 zg_9_2_138.2.2.2.2.2.2.1 zg_9_2_138.2.2.2.2.2.2.2.1, rfl⟩
theorem zd_9_2_145 : zz_D zy_take_9_2 145 (.iload 11) 2 147 := ⟨zq_21 zg_9_2_138.2.2.2.2.2.2.2.2.1 zg_9_2_138.2.2.2.2.2.2.2.2.2.1, rfl⟩
theorem zd_9_2_147 : zz_D zy_take_9_2 147 (.invokevirtual 33) 3 150 := ⟨zq_182 zg_9_2_138.2.2.2.2.2.2.2.2.2.2.1 zg_9_2_138.2.2.2.2.2.2.2.2.2.2.2.1 zg_9_2_138.2.2.2.2.2.2.2.2.2.2.2.2.1 rfl, rfl⟩
theorem zd_9_2_150 : zz_D zy_take_9_2 150 (.aload_n 0) 1 151 := ⟨zq_42 zg_9_2_138.2.2.2.2.2.2.2.2.2.2.2.2.2.1, rfl⟩
theorem zd_9_2_151 : zz_D zy_take_9_2 151 (.iconst 2) 1 152 := ⟨zq_5 zg_9_2_138.2.2.2.2.2.2.2.2.2.2.2.2.2.2.1, rfl⟩
theorem zd_9_2_152 : zz_D zy_take_9_2 152 (.iload 9) 2 154 := ⟨zq_21 zg_9_2_138.2.2.2.2.2.2.2.2.2.2.2.2.2.2.2.1 zg_9_2_138.2.2.2.2.2.2.2.2.2.2.2.2.2.2.2.2.1, rfl⟩
theorem zd_9_2_154 : zz_D zy_take_9_2 154 (.iload 10) 2 156 := ⟨zq_21 zg_9_2_138.2.2.2.2.2.2.2.2.2.2.2.2.2.2.2.2.2.1 zg_9_2_138.2.2.2.2.2.2.2.2.2.2.2.2.2.2.2.2.2.2.1, rfl⟩
theorem zd_9_2_156 : zz_D zy_take_9_2 156 (.invokevirtual 37) 3 159 := ⟨zq_182 zg_9_2_138.2.2.2.2.2.2.2.2.2.2.2.2.2.2.2.2.2.2.2.1 zg_9_2_138.2.2.2.2.2.2.2.2.2.2.2.2.2.2.2.2.2.2.2.2.1 zg_9_2_138.2.2.2.2.2.2.2.2.2.2.2.2.2.2.2.2.2.2.2.2.2 rfl, rfl⟩
-- TensorForge$Reaches writes (III)V
abbrev zr_writes_9_9x_1037_2 : Room := { frames := 0, cells := 0, slots := 0, locals := 0 }
def zp_writes_9_9x_1037_2 (p1 : Int) (p2 : Int) (S0 : zz_S) : zz_S → Prop := fun S => zz_G S ∧ zz_fr [(1040, 2), (1041, 2)] [] (fun _ _ => False) S0 S ∧ (S 1041 2 = p1 + p2)
theorem zc_writes_9_9x_1037_2 {g : mm_G} {l : Launch} (p1 : Int) (p2 : Int) (S0 : zz_S) (n : Nat) (hn : zz_end ≤ n) (G_S0 : zz_G S0) (hp1 : 0 ≤ p1 ∧ p1 ≤ 4095) (hp2 : (-100000) ≤ p2 ∧ p2 ≤ 100000) : mm_Met g l zy_writes_9_9 zr_writes_9_9x_1037_2 [.ref 1037, zi 2, zi p1, zi p2] (zz_M S0 n) n (zz_QV n (zp_writes_9_9x_1037_2 p1 p2 S0)) := by
  refine zz_enter (by decide) (Nat.le_of_ble_eq_true rfl) (zz_less (ls1 := [some (.ref 1037), some (zi 2), some (zi p1), some (zi p2)]) ⟨rfl, ⟨rfl, ⟨rfl, ⟨rfl, trivial⟩⟩⟩⟩ ?_)
  have F_S0 : zz_fr [(1040, 2), (1041, 2)] [] (fun _ _ => False) S0 S0 := zz_fr.refl
  refine zz_iload_n (x := 2) rfl zd_9_9_0 ?_
  refine zz_if_lt (by omega) zd_9_9_1 (fun c1 => ?_) (fun c1 => ?_)
  · exfalso; omega
  · refine zz_iload_n (x := 2) rfl zd_9_9_4 ?_
    refine zz_iconst zd_9_9_5 ?_
    refine zz_icmp_ge (by omega) (by omega) zd_9_9_6 (fun c2 => ?_) (fun c2 => ?_)
    · exfalso; omega
    · refine zz_aload_n (x := 1037) rfl zd_9_9_9 ?_
      refine zz_getr (kd := 0) (z := 1040) zd_9_9_10 zf_Reaches_18 zT_1037 rfl (zz_ltn hn rfl) (zz_G.eq G_S0 1037 2 1040 rfl rfl) (by decide) 1040 rfl ?_
      refine zz_iload_n (x := 2) rfl zd_9_9_13 ?_
      refine zz_iload_n (x := p1) rfl zd_9_9_14 ?_
      refine zz_iast zd_9_9_15 zT_1040 rfl (zz_ltn hn rfl) (by decide) (by decide) (fun S3 qS3 => ?_)
      have G_S3 := zz_G.put G_S0 qS3 (-2147483648) 2147483647 rfl (by omega)
      have F_S3 := zz_fr.puts F_S0 qS3 rfl
      refine zz_aload_n (x := 1037) rfl zd_9_9_16 ?_
      refine zz_getr (kd := 0) (z := 1041) zd_9_9_17 zf_Reaches_21 zT_1037 rfl (zz_ltn hn rfl) (zz_G.eq G_S3 1037 3 1041 rfl rfl) (by decide) 1041 rfl ?_
      refine zz_iload_n (x := 2) rfl zd_9_9_20 ?_
      refine zz_iload_n (x := p1) rfl zd_9_9_21 ?_
      refine zz_iload_n (x := p2) rfl zd_9_9_22 ?_
      refine zz_iadd zd_9_9_23 ?_
      refine zz_iast zd_9_9_24 zT_1041 rfl (zz_ltn hn rfl) (by decide) (by decide) (fun S4 qS4 => ?_)
      have G_S4 := zz_G.put G_S3 qS4 (-2147483648) 2147483647 rfl (by omega)
      have F_S4 := zz_fr.puts F_S3 qS4 rfl
      have e5 : S4 1041 2 = p1 + p2 := (zz_rs qS4)
      exact zz_vret zd_9_9_25 rfl (Nat.zero_le _) (Nat.zero_le _) ⟨_, rfl, G_S4, F_S4, by omega⟩
theorem zg_9_2_159 : zq_at zy_take_9_2.2.1 159 167 ∧ zq_at zy_take_9_2.2.1 160 0 ∧ zq_at zy_take_9_2.2.1 161 73 ∧ zq_at zy_take_9_2.2.1 162 42 ∧ zq_at zy_take_9_2.2.1 163 4 ∧ zq_at zy_take_9_2.2.1 164 21 ∧ zq_at zy_take_9_2.2.1 165 9 ∧ zq_at zy_take_9_2.2.1 166 21 ∧ zq_at zy_take_9_2.2.1 167 10 ∧ zq_at zy_take_9_2.2.1 168 182 ∧ zq_at zy_take_9_2.2.1 169 0 ∧ zq_at zy_take_9_2.2.1 170 37 ∧ zq_at zy_take_9_2.2.1 171 167 ∧ zq_at zy_take_9_2.2.1 172 0 ∧ zq_at zy_take_9_2.2.1 173 61 ∧ zq_at zy_take_9_2.2.1 174 42 ∧ zq_at zy_take_9_2.2.1 175 3 ∧ zq_at zy_take_9_2.2.1 176 21 ∧ zq_at zy_take_9_2.2.1 177 5 ∧ zq_at zy_take_9_2.2.1 178 21 ∧ zq_at zy_take_9_2.2.1 179 6 ∧ zq_at zy_take_9_2.2.1 180 21 ∧ zq_at zy_take_9_2.2.1 181 8 ∧ zq_at zy_take_9_2.2.1 182 104 := by decide +kernel
theorem zd_9_2_159 : zz_B zy_take_9_2 159 Instr.goto 232 162 := ⟨73, zq_167 zg_9_2_159.1 zg_9_2_159.2.1 zg_9_2_159.2.2.1 (by decide), rfl, rfl⟩
theorem zd_9_2_162 : zz_D zy_take_9_2 162 (.aload_n 0) 1 163 := ⟨zq_42 zg_9_2_159.2.2.2.1, rfl⟩
theorem zd_9_2_163 : zz_D zy_take_9_2 163 (.iconst 1) 1 164 := ⟨zq_4 zg_9_2_159.2.2.2.2.1, rfl⟩
theorem zd_9_2_164 : zz_D zy_take_9_2 164 (.iload 9) 2 166 := ⟨zq_21 zg_9_2_159.2.2.2.2.2.1 zg_9_2_159.2.2.2.2.2.2.1, rfl⟩
theorem zd_9_2_166 : zz_D zy_take_9_2 166 (.iload 10) 2 168 := ⟨zq_21 zg_9_2_159.2.2.2.2.2.2.2.1 zg_9_2_159.2.2.2.2.2.2.2.2.1, rfl⟩
theorem zd_9_2_168 : zz_D zy_take_9_2 168 (.invokevirtual 37) 3 171 := ⟨zq_182 zg_9_2_159.2.2.2.2.2.2.2.2.2.1 zg_9_2_159.2.2.2.2.2.2.2.2.2.2.1 zg_9_2_159.2.2.2.2.2.2.2.2.2.2.2.1 rfl, rfl⟩
theorem zd_9_2_171 : zz_B zy_take_9_2 171 Instr.goto 232 174 := ⟨61, zq_167 zg_9_2_159.2.2.2.2.2.2.2.2.2.2.2.2.1 zg_9_2_159.2.2.2.2.2.2.2.2.2.2.2.2.2.1 zg_9_2_159.2.2.2.2.2.2.2.2.2.2.2.2.2.2.1 (by decide), rfl, rfl⟩
theorem zd_9_2_174 : zz_D zy_take_9_2 174 (.aload_n 0) 1 175 := ⟨zq_42 zg_9_2_159.2.2.2.2.2.2.2.2.2.2.2.2.2.2.2.1, rfl⟩
theorem zd_9_2_175 : zz_D zy_take_9_2 175 (.iconst 0) 1 176 := ⟨zq_3 zg_9_2_159.2.2.2.2.2.2.2.2.2.2.2.2.2.2.2.2.1, rfl⟩
theorem zd_9_2_176 : zz_D zy_take_9_2 176 (.iload 5) 2 178 := ⟨zq_21 zg_9_2_159.2.2.2.2.2.2.2.2.2.2.2.2.2.2.2.2.2.1 zg_9_2_159.2.2.2.2.2.2.2.2.2.2.2.2.2.2.2.2.2.2.1, rfl⟩
theorem zd_9_2_178 : zz_D zy_take_9_2 178 (.iload 6) 2 180 := ⟨zq_21 zg_9_2_159.2.2.2.2.2.2.2.2.2.2.2.2.2.2.2.2.2.2.2.1 zg_9_2_159.2.2.2.2.2.2.2.2.2.2.2.2.2.2.2.2.2.2.2.2.1, rfl⟩
theorem zd_9_2_180 : zz_D zy_take_9_2 180 (.iload 8) 2 182 := ⟨zq_21 zg_9_2_159.2.2.2.2.2.2.2.2.2.2.2.2.2.2.2.2.2.2.2.2.2.1 zg_9_2_159.2.2.2.2.2.2.2.2.2.2.2.2.2.2.2.2.2.2.2.2.2.2.1, rfl⟩
theorem zd_9_2_182 : zz_D zy_take_9_2 182 (.imul) 1 183 := ⟨zq_104 zg_9_2_159.2.2.2.2.2.2.2.2.2.2.2.2.2.2.2.2.2.2.2.2.2.2.2, rfl⟩
theorem zg_9_2_183 : zq_at zy_take_9_2.2.1 183 7 ∧ zq_at zy_take_9_2.2.1 184 21 ∧ zq_at zy_take_9_2.2.1 185 7 ∧ zq_at zy_take_9_2.2.1 186 104 ∧ zq_at zy_take_9_2.2.1 187 96 ∧ zq_at zy_take_9_2.2.1 188 6 ∧ zq_at zy_take_9_2.2.1 189 96 ∧ zq_at zy_take_9_2.2.1 190 182 ∧ zq_at zy_take_9_2.2.1 191 0 ∧ zq_at zy_take_9_2.2.1 192 33 ∧ zq_at zy_take_9_2.2.1 193 42 ∧ zq_at zy_take_9_2.2.1 194 6 ∧ zq_at zy_take_9_2.2.1 195 21 ∧ zq_at zy_take_9_2.2.1 196 9 ∧ zq_at zy_take_9_2.2.1 197 21 ∧ zq_at zy_take_9_2.2.1 198 10 ∧ zq_at zy_take_9_2.2.1 199 182 ∧ zq_at zy_take_9_2.2.1 200 0 ∧ zq_at zy_take_9_2.2.1 201 37 := by decide +kernel
theorem zd_9_2_183 : zz_D zy_take_9_2 183 (.iconst 4) 1 184 := ⟨zq_7 zg_9_2_183.1, rfl⟩
theorem zd_9_2_184 : zz_D zy_take_9_2 184 (.iload 7) 2 186 := ⟨zq_21 zg_9_2_183.2.1 zg_9_2_183.2.2.1, rfl⟩
theorem zd_9_2_186 : zz_D zy_take_9_2 186 (.imul) 1 187 := ⟨zq_104 zg_9_2_183.2.2.2.1, rfl⟩
theorem zd_9_2_187 : zz_D zy_take_9_2 187 (.iadd) 1 188 := ⟨zq_96 zg_9_2_183.2.2.2.2.1, rfl⟩
theorem zd_9_2_188 : zz_D zy_take_9_2 188 (.iconst 3) 1 189 := ⟨zq_6 zg_9_2_183.2.2.2.2.2.1, rfl⟩
theorem zd_9_2_189 : zz_D zy_take_9_2 189 (.iadd) 1 190 := ⟨zq_96 zg_9_2_183.2.2.2.2.2.2.1, rfl⟩
theorem zd_9_2_190 : zz_D zy_take_9_2 190 (.invokevirtual 33) 3 193 := ⟨zq_182 zg_9_2_183.2.2.2.2.2.2.2.1 zg_9_2_183.2.2.2.2.2.2.2.2.1 zg_9_2_183.2.2.2.2.2.2.2.2.2.1 rfl, rfl⟩
theorem zd_9_2_193 : zz_D zy_take_9_2 193 (.aload_n 0) 1 194 := ⟨zq_42 zg_9_2_183.2.2.2.2.2.2.2.2.2.2.1, rfl⟩
theorem zd_9_2_194 : zz_D zy_take_9_2 194 (.iconst 3) 1 195 := ⟨zq_6 zg_9_2_183.2.2.2.2.2.2.2.2.2.2.2.1, rfl⟩
theorem zd_9_2_195 : zz_D zy_take_9_2 195 (.iload 9) 2 197 := ⟨zq_21 zg_9_2_183.2.2.2.2.2.2.2.2.2.2.2.2.1 zg_9_2_183.2.2.2.2.2.2.2.2.2.2.2.2.2.1, rfl⟩
theorem zd_9_2_197 : zz_D zy_take_9_2 197 (.iload 10) 2 199 := ⟨zq_21 zg_9_2_183.2.2.2.2.2.2.2.2.2.2.2.2.2.2.1 zg_9_2_183.2.2.2.2.2.2.2.2.2.2.2.2.2.2.2.1, rfl⟩
theorem zd_9_2_199 : zz_D zy_take_9_2 199 (.invokevirtual 37) 3 202 := ⟨zq_182 zg_9_2_183.2.2.2.2.2.2.2.2.2.2.2.2.2.2.2.2.1 zg_9_2_183.2.2.2.2.2.2.2.2.2.2.2.2.2.2.2.2.2.1 zg_9_2_183.2.2.2.2.2.2.2.2.2.2.2.2.2.2.2.2.2.2 rfl, rfl⟩
-- TensorForge$Reaches writes (III)V
abbrev zr_writes_9_9x_1037_3 : Room := { frames := 0, cells := 0, slots := 0, locals := 0 }
def zp_writes_9_9x_1037_3 (p1 : Int) (p2 : Int) (S0 : zz_S) : zz_S → Prop := fun S => zz_G S ∧ zz_fr [(1040, 3), (1041, 3)] [] (fun _ _ => False) S0 S ∧ (S 1041 3 = p1 + p2)
theorem zc_writes_9_9x_1037_3 {g : mm_G} {l : Launch} (p1 : Int) (p2 : Int) (S0 : zz_S) (n : Nat) (hn : zz_end ≤ n) (G_S0 : zz_G S0) (hp1 : 0 ≤ p1 ∧ p1 ≤ 4095) (hp2 : (-100000) ≤ p2 ∧ p2 ≤ 100000) : mm_Met g l zy_writes_9_9 zr_writes_9_9x_1037_3 [.ref 1037, zi 3, zi p1, zi p2] (zz_M S0 n) n (zz_QV n (zp_writes_9_9x_1037_3 p1 p2 S0)) := by
  refine zz_enter (by decide) (Nat.le_of_ble_eq_true rfl) (zz_less (ls1 := [some (.ref 1037), some (zi 3), some (zi p1), some (zi p2)]) ⟨rfl, ⟨rfl, ⟨rfl, ⟨rfl, trivial⟩⟩⟩⟩ ?_)
  have F_S0 : zz_fr [(1040, 3), (1041, 3)] [] (fun _ _ => False) S0 S0 := zz_fr.refl
  refine zz_iload_n (x := 3) rfl zd_9_9_0 ?_
  refine zz_if_lt (by omega) zd_9_9_1 (fun c1 => ?_) (fun c1 => ?_)
  · exfalso; omega
  · refine zz_iload_n (x := 3) rfl zd_9_9_4 ?_
    refine zz_iconst zd_9_9_5 ?_
    refine zz_icmp_ge (by omega) (by omega) zd_9_9_6 (fun c2 => ?_) (fun c2 => ?_)
    · exfalso; omega
    · refine zz_aload_n (x := 1037) rfl zd_9_9_9 ?_
      refine zz_getr (kd := 0) (z := 1040) zd_9_9_10 zf_Reaches_18 zT_1037 rfl (zz_ltn hn rfl) (zz_G.eq G_S0 1037 2 1040 rfl rfl) (by decide) 1040 rfl ?_
      refine zz_iload_n (x := 3) rfl zd_9_9_13 ?_
      refine zz_iload_n (x := p1) rfl zd_9_9_14 ?_
      refine zz_iast zd_9_9_15 zT_1040 rfl (zz_ltn hn rfl) (by decide) (by decide) (fun S3 qS3 => ?_)
      have G_S3 := zz_G.put G_S0 qS3 (-2147483648) 2147483647 rfl (by omega)
      have F_S3 := zz_fr.puts F_S0 qS3 rfl
      refine zz_aload_n (x := 1037) rfl zd_9_9_16 ?_
      refine zz_getr (kd := 0) (z := 1041) zd_9_9_17 zf_Reaches_21 zT_1037 rfl (zz_ltn hn rfl) (zz_G.eq G_S3 1037 3 1041 rfl rfl) (by decide) 1041 rfl ?_
      refine zz_iload_n (x := 3) rfl zd_9_9_20 ?_
      refine zz_iload_n (x := p1) rfl zd_9_9_21 ?_
      refine zz_iload_n (x := p2) rfl zd_9_9_22 ?_
      refine zz_iadd zd_9_9_23 ?_
      refine zz_iast zd_9_9_24 zT_1041 rfl (zz_ltn hn rfl) (by decide) (by decide) (fun S4 qS4 => ?_)
      have G_S4 := zz_G.put G_S3 qS4 (-2147483648) 2147483647 rfl (by omega)
      have F_S4 := zz_fr.puts F_S3 qS4 rfl
      have e5 : S4 1041 3 = p1 + p2 := (zz_rs qS4)
      exact zz_vret zd_9_9_25 rfl (Nat.zero_le _) (Nat.zero_le _) ⟨_, rfl, G_S4, F_S4, by omega⟩
abbrev zy_takeWork_9_5 : mm_Y := (⟨"TensorForge$Reaches", "takeWork", "(JI)V"⟩, prog_9_method_5_code, 12, none)
theorem zyw_takeWork_9_5 : mm_Yw zy_takeWork_9_5 2 := ⟨mm_tb_1 546 (by decide +kernel) rfl, mm_tb_1 5 (by decide +kernel) rfl, ⟨by decide, by decide⟩, by decide +kernel⟩
theorem zg_9_2_202 : zq_at zy_take_9_2.2.1 202 167 ∧ zq_at zy_take_9_2.2.1 203 0 ∧ zq_at zy_take_9_2.2.1 204 30 ∧ zq_at zy_take_9_2.2.1 226 42 ∧ zq_at zy_take_9_2.2.1 227 31 ∧ zq_at zy_take_9_2.2.1 228 29 ∧ zq_at zy_take_9_2.2.1 229 182 ∧ zq_at zy_take_9_2.2.1 230 0 ∧ zq_at zy_take_9_2.2.1 231 40 := by decide +kernel
theorem zd_9_2_202 : zz_B zy_take_9_2 202 Instr.goto 232 205 := ⟨30, zq_167 zg_9_2_202.1 zg_9_2_202.2.1 zg_9_2_202.2.2.1 (by decide), rfl, rfl⟩
theorem zd_9_2_226 : zz_D zy_take_9_2 226 (.aload_n 0) 1 227 := ⟨zq_42 zg_9_2_202.2.2.2.1, rfl⟩
theorem zd_9_2_227 : zz_D zy_take_9_2 227 (.lload_n 1) 1 228 := ⟨zq_31 zg_9_2_202.2.2.2.2.1, rfl⟩
theorem zd_9_2_228 : zz_D zy_take_9_2 228 (.iload_n 3) 1 229 := ⟨zq_29 zg_9_2_202.2.2.2.2.2.1, rfl⟩
theorem zd_9_2_229 : zz_D zy_take_9_2 229 (.invokevirtual 40) 3 232 := ⟨zq_182 zg_9_2_202.2.2.2.2.2.2.1 zg_9_2_202.2.2.2.2.2.2.2.1 zg_9_2_202.2.2.2.2.2.2.2.2 rfl, rfl⟩
theorem zg_9_5_0 : zq_at zy_takeWork_9_5.2.1 0 31 ∧ zq_at zy_takeWork_9_5.2.1 1 3 ∧ zq_at zy_takeWork_9_5.2.1 2 184 ∧ zq_at zy_takeWork_9_5.2.1 3 0 ∧ zq_at zy_takeWork_9_5.2.1 4 29 ∧ zq_at zy_takeWork_9_5.2.1 5 54 ∧ zq_at zy_takeWork_9_5.2.1 6 4 ∧ zq_at zy_takeWork_9_5.2.1 7 31 ∧ zq_at zy_takeWork_9_5.2.1 8 16 ∧ zq_at zy_takeWork_9_5.2.1 9 6 ∧ zq_at zy_takeWork_9_5.2.1 10 184 ∧ zq_at zy_takeWork_9_5.2.1 11 0 ∧ zq_at zy_takeWork_9_5.2.1 12 29 ∧ zq_at zy_takeWork_9_5.2.1 13 4 ∧ zq_at zy_takeWork_9_5.2.1 14 100 ∧ zq_at zy_takeWork_9_5.2.1 15 54 ∧ zq_at zy_takeWork_9_5.2.1 16 5 ∧ zq_at zy_takeWork_9_5.2.1 17 31 ∧ zq_at zy_takeWork_9_5.2.1 18 16 ∧ zq_at zy_takeWork_9_5.2.1 19 7 ∧ zq_at zy_takeWork_9_5.2.1 20 184 ∧ zq_at zy_takeWork_9_5.2.1 21 0 ∧ zq_at zy_takeWork_9_5.2.1 22 29 ∧ zq_at zy_takeWork_9_5.2.1 23 4 := by decide +kernel
theorem zd_9_5_0 : zz_D zy_takeWork_9_5 0 (.lload_n 1) 1 1 := ⟨zq_31 zg_9_5_0.1, rfl⟩
theorem zd_9_5_1 : zz_D zy_takeWork_9_5 1 (.iconst 0) 1 2 := ⟨zq_3 zg_9_5_0.2.1, rfl⟩
theorem zd_9_5_2 : zz_D zy_takeWork_9_5 2 (.invokestatic 29) 3 5 := ⟨zq_184 zg_9_5_0.2.2.1 zg_9_5_0.2.2.2.1 zg_9_5_0.2.2.2.2.1 rfl, rfl⟩
theorem zd_9_5_5 : zz_D zy_takeWork_9_5 5 (.istore 4) 2 7 := ⟨zq_54 zg_9_5_0.2.2.2.2.2.1 zg_9_5_0.2.2.2.2.2.2.1, rfl⟩
theorem zd_9_5_7 : zz_D zy_takeWork_9_5 7 (.lload_n 1) 1 8 := ⟨zq_31 zg_9_5_0.2.2.2.2.2.2.2.1, rfl⟩
theorem zd_9_5_8 : zz_D zy_takeWork_9_5 8 (.bipush 6) 2 10 := ⟨zq_16 zg_9_5_0.2.2.2.2.2.2.2.2.1 zg_9_5_0.2.2.2.2.2.2.2.2.2.1 (by decide), rfl⟩
theorem zd_9_5_10 : zz_D zy_takeWork_9_5 10 (.invokestatic 29) 3 13 := ⟨zq_184 zg_9_5_0.2.2.2.2.2.2.2.2.2.2.1 zg_9_5_0.2.2.2.2.2.2.2.2.2.2.2.1 zg_9_5_0.2.2.2.2.2.2.2.2.2.2.2.2.1 rfl, rfl⟩
theorem zd_9_5_13 : zz_D zy_takeWork_9_5 13 (.iconst 1) 1 14 := ⟨zq_4 zg_9_5_0.2.2.2.2.2.2.2.2.2.2.2.2.2.1, rfl⟩
theorem zd_9_5_14 : zz_D zy_takeWork_9_5 14 (.isub) 1 15 := ⟨zq_100 zg_9_5_0.2.2.2.2.2.2.2.2.2.2.2.2.2.2.1, rfl⟩
theorem zd_9_5_15 : zz_D zy_takeWork_9_5 15 (.istore 5) 2 17 := ⟨zq_54 zg_9_5_0.2.2.2.2.2.2.2.2.2.2.2.2.2.2.2.1 zg_9_5_0.2.2.2.2.2.2.2.2.2.2.2.2.2.2.2.2.1, rfl⟩
theorem zd_9_5_17 : zz_D zy_takeWork_9_5 17 (.lload_n 1) 1 18 := ⟨zq_31 zg_9_5_0.2.2.2.2.2.2.2.2.2.2.2.2.2.2.2.2.2.1, rfl⟩
theorem zd_9_5_18 : zz_D zy_takeWork_9_5 18 (.bipush 7) 2 20 := ⟨zq_16 zg_9_5_0.2.2.2.2.2.2.2.2.2.2.2.2.2.2.2.2.2.2.1 zg_9_5_0.2.2.2.2.2.2.2.2.2.2.2.2.2.2.2.2.2.2.2.1 (by decide), rfl⟩
theorem zd_9_5_20 : zz_D zy_takeWork_9_5 20 (.invokestatic 29) 3 23 := ⟨zq_184 zg_9_5_0.2.2.2.2.2.2.2.2.2.2.2.2.2.2.2.2.2.2.2.2.1 zg_9_5_0.2.2.2.2.2.2.2.2.2.2.2.2.2.2.2.2.2.2.2.2.2.1 zg_9_5_0.2.2.2.2.2.2.2.2.2.2.2.2.2.2.2.2.2.2.2.2.2.2.1 rfl, rfl⟩
theorem zd_9_5_23 : zz_D zy_takeWork_9_5 23 (.iconst 1) 1 24 := ⟨zq_4 zg_9_5_0.2.2.2.2.2.2.2.2.2.2.2.2.2.2.2.2.2.2.2.2.2.2.2, rfl⟩
theorem zg_9_5_24 : zq_at zy_takeWork_9_5.2.1 24 100 ∧ zq_at zy_takeWork_9_5.2.1 25 54 ∧ zq_at zy_takeWork_9_5.2.1 26 6 ∧ zq_at zy_takeWork_9_5.2.1 27 31 ∧ zq_at zy_takeWork_9_5.2.1 28 16 ∧ zq_at zy_takeWork_9_5.2.1 29 8 ∧ zq_at zy_takeWork_9_5.2.1 30 184 ∧ zq_at zy_takeWork_9_5.2.1 31 0 ∧ zq_at zy_takeWork_9_5.2.1 32 29 ∧ zq_at zy_takeWork_9_5.2.1 33 54 ∧ zq_at zy_takeWork_9_5.2.1 34 7 ∧ zq_at zy_takeWork_9_5.2.1 35 31 ∧ zq_at zy_takeWork_9_5.2.1 36 16 ∧ zq_at zy_takeWork_9_5.2.1 37 9 ∧ zq_at zy_takeWork_9_5.2.1 38 184 ∧ zq_at zy_takeWork_9_5.2.1 39 0 ∧ zq_at zy_takeWork_9_5.2.1 40 29 ∧ zq_at zy_takeWork_9_5.2.1 41 54 ∧ zq_at zy_takeWork_9_5.2.1 42 8 ∧ zq_at zy_takeWork_9_5.2.1 43 31 ∧ zq_at zy_takeWork_9_5.2.1 44 16 ∧ zq_at zy_takeWork_9_5.2.1 45 11 := by decide +kernel
theorem zd_9_5_24 : zz_D zy_takeWork_9_5 24 (.isub) 1 25 := ⟨zq_100 zg_9_5_24.1, rfl⟩
theorem zd_9_5_25 : zz_D zy_takeWork_9_5 25 (.istore 6) 2 27 := ⟨zq_54 zg_9_5_24.2.1 zg_9_5_24.2.2.1, rfl⟩
theorem zd_9_5_27 : zz_D zy_takeWork_9_5 27 (.lload_n 1) 1 28 := ⟨zq_31 zg_9_5_24.2.2.2.1, rfl⟩
theorem zd_9_5_28 : zz_D zy_takeWork_9_5 28 (.bipush 8) 2 30 := ⟨zq_16 zg_9_5_24.2.2.2.2.1 zg_9_5_24.2.2.2.2.2.1 (by decide), rfl⟩
theorem zd_9_5_30 : zz_D zy_takeWork_9_5 30 (.invokestatic 29) 3 33 := ⟨zq_184 zg_9_5_24.2.2.2.2.2.2.1 zg_9_5_24.2.2.2.2.2.2.2.1 zg_9_5_24.2.2.2.2.2.2.2.2.1 rfl, rfl⟩
theorem zd_9_5_33 : zz_D zy_takeWork_9_5 33 (.istore 7) 2 35 := ⟨zq_54 zg_9_5_24.2.2.2.2.2.2.2.2.2.1 zg_9_5_24.2.2.2.2.2.2.2.2.2.2.1, rfl⟩
theorem zd_9_5_35 : zz_D zy_takeWork_9_5 35 (.lload_n 1) 1 36 := ⟨zq_31 zg_9_5_24.2.2.2.2.2.2.2.2.2.2.2.1, rfl⟩
theorem zd_9_5_36 : zz_D zy_takeWork_9_5 36 (.bipush 9) 2 38 := ⟨zq_16 zg_9_5_24.2.2.2.2.2.2.2.2.2.2.2.2.1 zg_9_5_24.2.2.2.2.2.2.2.2.2.2.2.2.2.1 (by decide), rfl⟩
theorem zd_9_5_38 : zz_D zy_takeWork_9_5 38 (.invokestatic 29) 3 41 := ⟨zq_184 zg_9_5_24.2.2.2.2.2.2.2.2.2.2.2.2.2.2.1 zg_9_5_24.2.2.2.2.2.2.2.2.2.2.2.2.2.2.2.1 zg_9_5_24.2.2.2.2.2.2.2.2.2.2.2.2.2.2.2.2.1 rfl, rfl⟩
theorem zd_9_5_41 : zz_D zy_takeWork_9_5 41 (.istore 8) 2 43 := ⟨zq_54 zg_9_5_24.2.2.2.2.2.2.2.2.2.2.2.2.2.2.2.2.2.1 zg_9_5_24.2.2.2.2.2.2.2.2.2.2.2.2.2.2.2.2.2.2.1, rfl⟩
theorem zd_9_5_43 : zz_D zy_takeWork_9_5 43 (.lload_n 1) 1 44 := ⟨zq_31 zg_9_5_24.2.2.2.2.2.2.2.2.2.2.2.2.2.2.2.2.2.2.2.1, rfl⟩
theorem zd_9_5_44 : zz_D zy_takeWork_9_5 44 (.bipush 11) 2 46 := ⟨zq_16 zg_9_5_24.2.2.2.2.2.2.2.2.2.2.2.2.2.2.2.2.2.2.2.2.1 zg_9_5_24.2.2.2.2.2.2.2.2.2.2.2.2.2.2.2.2.2.2.2.2.2 (by decide), rfl⟩
theorem zg_9_5_46 : zq_at zy_takeWork_9_5.2.1 46 184 ∧ zq_at zy_takeWork_9_5.2.1 47 0 ∧ zq_at zy_takeWork_9_5.2.1 48 29 ∧ zq_at zy_takeWork_9_5.2.1 49 54 ∧ zq_at zy_takeWork_9_5.2.1 50 9 ∧ zq_at zy_takeWork_9_5.2.1 51 21 ∧ zq_at zy_takeWork_9_5.2.1 52 5 ∧ zq_at zy_takeWork_9_5.2.1 53 29 ∧ zq_at zy_takeWork_9_5.2.1 54 104 ∧ zq_at zy_takeWork_9_5.2.1 55 21 ∧ zq_at zy_takeWork_9_5.2.1 56 6 ∧ zq_at zy_takeWork_9_5.2.1 57 96 ∧ zq_at zy_takeWork_9_5.2.1 58 54 ∧ zq_at zy_takeWork_9_5.2.1 59 10 ∧ zq_at zy_takeWork_9_5.2.1 60 21 ∧ zq_at zy_takeWork_9_5.2.1 61 4 ∧ zq_at zy_takeWork_9_5.2.1 62 8 ∧ zq_at zy_takeWork_9_5.2.1 63 160 ∧ zq_at zy_takeWork_9_5.2.1 64 0 ∧ zq_at zy_takeWork_9_5.2.1 65 67 ∧ zq_at zy_takeWork_9_5.2.1 130 21 ∧ zq_at zy_takeWork_9_5.2.1 131 4 ∧ zq_at zy_takeWork_9_5.2.1 132 16 ∧ zq_at zy_takeWork_9_5.2.1 133 6 := by decide +kernel
theorem zd_9_5_46 : zz_D zy_takeWork_9_5 46 (.invokestatic 29) 3 49 := ⟨zq_184 zg_9_5_46.1 zg_9_5_46.2.1 zg_9_5_46.2.2.1 rfl, rfl⟩
theorem zd_9_5_49 : zz_D zy_takeWork_9_5 49 (.istore 9) 2 51 := ⟨zq_54 zg_9_5_46.2.2.2.1 zg_9_5_46.2.2.2.2.1, rfl⟩
theorem zd_9_5_51 : zz_D zy_takeWork_9_5 51 (.iload 5) 2 53 := ⟨zq_21 zg_9_5_46.2.2.2.2.2.1 zg_9_5_46.2.2.2.2.2.2.1, rfl⟩
theorem zd_9_5_53 : zz_D zy_takeWork_9_5 53 (.iload_n 3) 1 54 := ⟨zq_29 zg_9_5_46.2.2.2.2.2.2.2.1, rfl⟩
theorem zd_9_5_54 : zz_D zy_takeWork_9_5 54 (.imul) 1 55 := ⟨zq_104 zg_9_5_46.2.2.2.2.2.2.2.2.1, rfl⟩
theorem zd_9_5_55 : zz_D zy_takeWork_9_5 55 (.iload 6) 2 57 := ⟨zq_21 zg_9_5_46.2.2.2.2.2.2.2.2.2.1 zg_9_5_46.2.2.2.2.2.2.2.2.2.2.1, rfl⟩
theorem zd_9_5_57 : zz_D zy_takeWork_9_5 57 (.iadd) 1 58 := ⟨zq_96 zg_9_5_46.2.2.2.2.2.2.2.2.2.2.2.1, rfl⟩
theorem zd_9_5_58 : zz_D zy_takeWork_9_5 58 (.istore 10) 2 60 := ⟨zq_54 zg_9_5_46.2.2.2.2.2.2.2.2.2.2.2.2.1 zg_9_5_46.2.2.2.2.2.2.2.2.2.2.2.2.2.1, rfl⟩
theorem zd_9_5_60 : zz_D zy_takeWork_9_5 60 (.iload 4) 2 62 := ⟨zq_21 zg_9_5_46.2.2.2.2.2.2.2.2.2.2.2.2.2.2.1 zg_9_5_46.2.2.2.2.2.2.2.2.2.2.2.2.2.2.2.1, rfl⟩
theorem zd_9_5_62 : zz_D zy_takeWork_9_5 62 (.iconst 5) 1 63 := ⟨zq_8 zg_9_5_46.2.2.2.2.2.2.2.2.2.2.2.2.2.2.2.2.1, rfl⟩
theorem zd_9_5_63 : zz_B zy_takeWork_9_5 63 (Instr.if_icmp .ne) 130 66 := ⟨67, zq_160 zg_9_5_46.2.2.2.2.2.2.2.2.2.2.2.2.2.2.2.2.2.1 zg_9_5_46.2.2.2.2.2.2.2.2.2.2.2.2.2.2.2.2.2.2.1 zg_9_5_46.2.2.2.2.2.2.2.2.2.2.2.2.2.2.2.2.2.2.2.1 (by decide), rfl, rfl⟩
theorem zd_9_5_130 : zz_D zy_takeWork_9_5 130 (.iload 4) 2 132 := ⟨zq_21 zg_9_5_46.2.2.2.2.2.2.2.2.2.2.2.2.2.2.2.2.2.2.2.2.1 zg_9_5_46.2.2.2.2.2.2.2.2.2.2.2.2.2.2.2.2.2.2.2.2.2.1, rfl⟩
theorem zd_9_5_132 : zz_D zy_takeWork_9_5 132 (.bipush 6) 2 134 := ⟨zq_16 zg_9_5_46.2.2.2.2.2.2.2.2.2.2.2.2.2.2.2.2.2.2.2.2.2.2.1 zg_9_5_46.2.2.2.2.2.2.2.2.2.2.2.2.2.2.2.2.2.2.2.2.2.2.2 (by decide), rfl⟩
theorem zg_9_5_134 : zq_at zy_takeWork_9_5.2.1 134 160 ∧ zq_at zy_takeWork_9_5.2.1 135 0 ∧ zq_at zy_takeWork_9_5.2.1 136 33 ∧ zq_at zy_takeWork_9_5.2.1 167 21 ∧ zq_at zy_takeWork_9_5.2.1 168 4 ∧ zq_at zy_takeWork_9_5.2.1 169 16 ∧ zq_at zy_takeWork_9_5.2.1 170 7 ∧ zq_at zy_takeWork_9_5.2.1 171 160 ∧ zq_at zy_takeWork_9_5.2.1 172 0 ∧ zq_at zy_takeWork_9_5.2.1 173 21 ∧ zq_at zy_takeWork_9_5.2.1 192 177 ∧ zq_at zy_takeWork_9_5.2.1 174 42 ∧ zq_at zy_takeWork_9_5.2.1 175 6 ∧ zq_at zy_takeWork_9_5.2.1 176 21 ∧ zq_at zy_takeWork_9_5.2.1 177 7 ∧ zq_at zy_takeWork_9_5.2.1 178 21 ∧ zq_at zy_takeWork_9_5.2.1 179 10 ∧ zq_at zy_takeWork_9_5.2.1 180 182 ∧ zq_at zy_takeWork_9_5.2.1 181 0 ∧ zq_at zy_takeWork_9_5.2.1 182 33 := by decide +kernel
theorem zd_9_5_134 : zz_B zy_takeWork_9_5 134 (Instr.if_icmp .ne) 167 137 := ⟨33, zq_160 zg_9_5_134.1 zg_9_5_134.2.1 zg_9_5_134.2.2.1 (by decide), rfl, rfl⟩
theorem zd_9_5_167 : zz_D zy_takeWork_9_5 167 (.iload 4) 2 169 := ⟨zq_21 zg_9_5_134.2.2.2.1 zg_9_5_134.2.2.2.2.1, rfl⟩
theorem zd_9_5_169 : zz_D zy_takeWork_9_5 169 (.bipush 7) 2 171 := ⟨zq_16 zg_9_5_134.2.2.2.2.2.1 zg_9_5_134.2.2.2.2.2.2.1 (by decide), rfl⟩
theorem zd_9_5_171 : zz_B zy_takeWork_9_5 171 (Instr.if_icmp .ne) 192 174 := ⟨21, zq_160 zg_9_5_134.2.2.2.2.2.2.2.1 zg_9_5_134.2.2.2.2.2.2.2.2.1 zg_9_5_134.2.2.2.2.2.2.2.2.2.1 (by decide), rfl, rfl⟩
theorem zd_9_5_192 : zz_D zy_takeWork_9_5 192 (.return_) 1 193 := ⟨zq_177 zg_9_5_134.2.2.2.2.2.2.2.2.2.2.1, rfl⟩
theorem zd_9_5_174 : zz_D zy_takeWork_9_5 174 (.aload_n 0) 1 175 := ⟨zq_42 zg_9_5_134.2.2.2.2.2.2.2.2.2.2.2.1, rfl⟩
theorem zd_9_5_175 : zz_D zy_takeWork_9_5 175 (.iconst 3) 1 176 := ⟨zq_6 zg_9_5_134.2.2.2.2.2.2.2.2.2.2.2.2.1, rfl⟩
theorem zd_9_5_176 : zz_D zy_takeWork_9_5 176 (.iload 7) 2 178 := ⟨zq_21 zg_9_5_134.2.2.2.2.2.2.2.2.2.2.2.2.2.1 zg_9_5_134.2.2.2.2.2.2.2.2.2.2.2.2.2.2.1, rfl⟩
theorem zd_9_5_178 : zz_D zy_takeWork_9_5 178 (.iload 10) 2 180 := ⟨zq_21 zg_9_5_134.2.2.2.2.2.2.2.2.2.2.2.2.2.2.2.1 zg_9_5_134.2.2.2.2.2.2.2.2.2.2.2.2.2.2.2.2.1, rfl⟩
theorem zd_9_5_180 : zz_D zy_takeWork_9_5 180 (.invokevirtual 33) 3 183 := ⟨zq_182 zg_9_5_134.2.2.2.2.2.2.2.2.2.2.2.2.2.2.2.2.2.1 zg_9_5_134.2.2.2.2.2.2.2.2.2.2.2.2.2.2.2.2.2.2.1 zg_9_5_134.2.2.2.2.2.2.2.2.2.2.2.2.2.2.2.2.2.2.2 rfl, rfl⟩
-- TensorForge$Reaches reads (III)V
abbrev zr_reads_9_8x_1037_3 : Room := { frames := 0, cells := 0, slots := 0, locals := 0 }
def zp_reads_9_8x_1037_3 (p1 : Int) (p2 : Int) (S0 : zz_S) : zz_S → Prop := fun S => zz_G S ∧ zz_fr [(1038, 3), (1039, 3)] [] (fun _ _ => False) S0 S ∧ (S 1039 3 = p1 + p2)
theorem zc_reads_9_8x_1037_3 {g : mm_G} {l : Launch} (p1 : Int) (p2 : Int) (S0 : zz_S) (n : Nat) (hn : zz_end ≤ n) (G_S0 : zz_G S0) (hp1 : 0 ≤ p1 ∧ p1 ≤ 4095) (hp2 : (-100000) ≤ p2 ∧ p2 ≤ 100000) : mm_Met g l zy_reads_9_8 zr_reads_9_8x_1037_3 [.ref 1037, zi 3, zi p1, zi p2] (zz_M S0 n) n (zz_QV n (zp_reads_9_8x_1037_3 p1 p2 S0)) := by
  refine zz_enter (by decide) (Nat.le_of_ble_eq_true rfl) (zz_less (ls1 := [some (.ref 1037), some (zi 3), some (zi p1), some (zi p2)]) ⟨rfl, ⟨rfl, ⟨rfl, ⟨rfl, trivial⟩⟩⟩⟩ ?_)
  have F_S0 : zz_fr [(1038, 3), (1039, 3)] [] (fun _ _ => False) S0 S0 := zz_fr.refl
  refine zz_iload_n (x := 3) rfl zd_9_8_0 ?_
  refine zz_if_lt (by omega) zd_9_8_1 (fun c1 => ?_) (fun c1 => ?_)
  · exfalso; omega
  · refine zz_iload_n (x := 3) rfl zd_9_8_4 ?_
    refine zz_iconst zd_9_8_5 ?_
    refine zz_icmp_ge (by omega) (by omega) zd_9_8_6 (fun c2 => ?_) (fun c2 => ?_)
    · exfalso; omega
    · refine zz_aload_n (x := 1037) rfl zd_9_8_9 ?_
      refine zz_getr (kd := 0) (z := 1038) zd_9_8_10 zf_Reaches_11 zT_1037 rfl (zz_ltn hn rfl) (zz_G.eq G_S0 1037 0 1038 rfl rfl) (by decide) 1038 rfl ?_
      refine zz_iload_n (x := 3) rfl zd_9_8_13 ?_
      refine zz_iload_n (x := p1) rfl zd_9_8_14 ?_
      refine zz_iast zd_9_8_15 zT_1038 rfl (zz_ltn hn rfl) (by decide) (by decide) (fun S3 qS3 => ?_)
      have G_S3 := zz_G.put G_S0 qS3 (-2147483648) 2147483647 rfl (by omega)
      have F_S3 := zz_fr.puts F_S0 qS3 rfl
      refine zz_aload_n (x := 1037) rfl zd_9_8_16 ?_
      refine zz_getr (kd := 0) (z := 1039) zd_9_8_17 zf_Reaches_15 zT_1037 rfl (zz_ltn hn rfl) (zz_G.eq G_S3 1037 1 1039 rfl rfl) (by decide) 1039 rfl ?_
      refine zz_iload_n (x := 3) rfl zd_9_8_20 ?_
      refine zz_iload_n (x := p1) rfl zd_9_8_21 ?_
      refine zz_iload_n (x := p2) rfl zd_9_8_22 ?_
      refine zz_iadd zd_9_8_23 ?_
      refine zz_iast zd_9_8_24 zT_1039 rfl (zz_ltn hn rfl) (by decide) (by decide) (fun S4 qS4 => ?_)
      have G_S4 := zz_G.put G_S3 qS4 (-2147483648) 2147483647 rfl (by omega)
      have F_S4 := zz_fr.puts F_S3 qS4 rfl
      have e5 : S4 1039 3 = p1 + p2 := (zz_rs qS4)
      exact zz_vret zd_9_8_25 rfl (Nat.zero_le _) (Nat.zero_le _) ⟨_, rfl, G_S4, F_S4, by omega⟩
theorem zg_9_5_183 : zq_at zy_takeWork_9_5.2.1 183 42 ∧ zq_at zy_takeWork_9_5.2.1 184 7 ∧ zq_at zy_takeWork_9_5.2.1 185 21 ∧ zq_at zy_takeWork_9_5.2.1 186 8 ∧ zq_at zy_takeWork_9_5.2.1 187 21 ∧ zq_at zy_takeWork_9_5.2.1 188 10 ∧ zq_at zy_takeWork_9_5.2.1 189 182 ∧ zq_at zy_takeWork_9_5.2.1 190 0 ∧ zq_at zy_takeWork_9_5.2.1 191 37 := by decide +kernel
theorem zd_9_5_183 : zz_D zy_takeWork_9_5 183 (.aload_n 0) 1 184 := ⟨zq_42 zg_9_5_183.1, rfl⟩
theorem zd_9_5_184 : zz_D zy_takeWork_9_5 184 (.iconst 4) 1 185 := ⟨zq_7 zg_9_5_183.2.1, rfl⟩
theorem zd_9_5_185 : zz_D zy_takeWork_9_5 185 (.iload 8) 2 187 := ⟨zq_21 zg_9_5_183.2.2.1 zg_9_5_183.2.2.2.1, rfl⟩
theorem zd_9_5_187 : zz_D zy_takeWork_9_5 187 (.iload 10) 2 189 := ⟨zq_21 zg_9_5_183.2.2.2.2.1 zg_9_5_183.2.2.2.2.2.1, rfl⟩
theorem zd_9_5_189 : zz_D zy_takeWork_9_5 189 (.invokevirtual 37) 3 192 := ⟨zq_182 zg_9_5_183.2.2.2.2.2.2.1 zg_9_5_183.2.2.2.2.2.2.2.1 zg_9_5_183.2.2.2.2.2.2.2.2 rfl, rfl⟩
-- TensorForge$Reaches writes (III)V
abbrev zr_writes_9_9x_1037_4 : Room := { frames := 0, cells := 0, slots := 0, locals := 0 }
def zp_writes_9_9x_1037_4 (p1 : Int) (p2 : Int) (S0 : zz_S) : zz_S → Prop := fun S => zz_G S ∧ zz_fr [(1040, 4), (1041, 4)] [] (fun _ _ => False) S0 S ∧ (S 1041 4 = p1 + p2)
theorem zc_writes_9_9x_1037_4 {g : mm_G} {l : Launch} (p1 : Int) (p2 : Int) (S0 : zz_S) (n : Nat) (hn : zz_end ≤ n) (G_S0 : zz_G S0) (hp1 : 0 ≤ p1 ∧ p1 ≤ 4095) (hp2 : (-100000) ≤ p2 ∧ p2 ≤ 100000) : mm_Met g l zy_writes_9_9 zr_writes_9_9x_1037_4 [.ref 1037, zi 4, zi p1, zi p2] (zz_M S0 n) n (zz_QV n (zp_writes_9_9x_1037_4 p1 p2 S0)) := by
  refine zz_enter (by decide) (Nat.le_of_ble_eq_true rfl) (zz_less (ls1 := [some (.ref 1037), some (zi 4), some (zi p1), some (zi p2)]) ⟨rfl, ⟨rfl, ⟨rfl, ⟨rfl, trivial⟩⟩⟩⟩ ?_)
  have F_S0 : zz_fr [(1040, 4), (1041, 4)] [] (fun _ _ => False) S0 S0 := zz_fr.refl
  refine zz_iload_n (x := 4) rfl zd_9_9_0 ?_
  refine zz_if_lt (by omega) zd_9_9_1 (fun c1 => ?_) (fun c1 => ?_)
  · exfalso; omega
  · refine zz_iload_n (x := 4) rfl zd_9_9_4 ?_
    refine zz_iconst zd_9_9_5 ?_
    refine zz_icmp_ge (by omega) (by omega) zd_9_9_6 (fun c2 => ?_) (fun c2 => ?_)
    · exfalso; omega
    · refine zz_aload_n (x := 1037) rfl zd_9_9_9 ?_
      refine zz_getr (kd := 0) (z := 1040) zd_9_9_10 zf_Reaches_18 zT_1037 rfl (zz_ltn hn rfl) (zz_G.eq G_S0 1037 2 1040 rfl rfl) (by decide) 1040 rfl ?_
      refine zz_iload_n (x := 4) rfl zd_9_9_13 ?_
      refine zz_iload_n (x := p1) rfl zd_9_9_14 ?_
      refine zz_iast zd_9_9_15 zT_1040 rfl (zz_ltn hn rfl) (by decide) (by decide) (fun S3 qS3 => ?_)
      have G_S3 := zz_G.put G_S0 qS3 (-2147483648) 2147483647 rfl (by omega)
      have F_S3 := zz_fr.puts F_S0 qS3 rfl
      refine zz_aload_n (x := 1037) rfl zd_9_9_16 ?_
      refine zz_getr (kd := 0) (z := 1041) zd_9_9_17 zf_Reaches_21 zT_1037 rfl (zz_ltn hn rfl) (zz_G.eq G_S3 1037 3 1041 rfl rfl) (by decide) 1041 rfl ?_
      refine zz_iload_n (x := 4) rfl zd_9_9_20 ?_
      refine zz_iload_n (x := p1) rfl zd_9_9_21 ?_
      refine zz_iload_n (x := p2) rfl zd_9_9_22 ?_
      refine zz_iadd zd_9_9_23 ?_
      refine zz_iast zd_9_9_24 zT_1041 rfl (zz_ltn hn rfl) (by decide) (by decide) (fun S4 qS4 => ?_)
      have G_S4 := zz_G.put G_S3 qS4 (-2147483648) 2147483647 rfl (by omega)
      have F_S4 := zz_fr.puts F_S3 qS4 rfl
      have e5 : S4 1041 4 = p1 + p2 := (zz_rs qS4)
      exact zz_vret zd_9_9_25 rfl (Nat.zero_le _) (Nat.zero_le _) ⟨_, rfl, G_S4, F_S4, by omega⟩
theorem zg_9_5_137 : zq_at zy_takeWork_9_5.2.1 137 42 ∧ zq_at zy_takeWork_9_5.2.1 138 4 ∧ zq_at zy_takeWork_9_5.2.1 139 21 ∧ zq_at zy_takeWork_9_5.2.1 140 7 ∧ zq_at zy_takeWork_9_5.2.1 141 21 ∧ zq_at zy_takeWork_9_5.2.1 142 10 ∧ zq_at zy_takeWork_9_5.2.1 143 182 ∧ zq_at zy_takeWork_9_5.2.1 144 0 ∧ zq_at zy_takeWork_9_5.2.1 145 33 := by decide +kernel
theorem zd_9_5_137 : zz_D zy_takeWork_9_5 137 (.aload_n 0) 1 138 := ⟨zq_42 zg_9_5_137.1, rfl⟩
theorem zd_9_5_138 : zz_D zy_takeWork_9_5 138 (.iconst 1) 1 139 := ⟨zq_4 zg_9_5_137.2.1, rfl⟩
theorem zd_9_5_139 : zz_D zy_takeWork_9_5 139 (.iload 7) 2 141 := ⟨zq_21 zg_9_5_137.2.2.1 zg_9_5_137.2.2.2.1, rfl⟩
theorem zd_9_5_141 : zz_D zy_takeWork_9_5 141 (.iload 10) 2 143 := ⟨zq_21 zg_9_5_137.2.2.2.2.1 zg_9_5_137.2.2.2.2.2.1, rfl⟩
theorem zd_9_5_143 : zz_D zy_takeWork_9_5 143 (.invokevirtual 33) 3 146 := ⟨zq_182 zg_9_5_137.2.2.2.2.2.2.1 zg_9_5_137.2.2.2.2.2.2.2.1 zg_9_5_137.2.2.2.2.2.2.2.2 rfl, rfl⟩
-- TensorForge$Reaches reads (III)V
abbrev zr_reads_9_8x_1037_1 : Room := { frames := 0, cells := 0, slots := 0, locals := 0 }
def zp_reads_9_8x_1037_1 (p1 : Int) (p2 : Int) (S0 : zz_S) : zz_S → Prop := fun S => zz_G S ∧ zz_fr [(1038, 1), (1039, 1)] [] (fun _ _ => False) S0 S ∧ (S 1039 1 = p1 + p2)
theorem zc_reads_9_8x_1037_1 {g : mm_G} {l : Launch} (p1 : Int) (p2 : Int) (S0 : zz_S) (n : Nat) (hn : zz_end ≤ n) (G_S0 : zz_G S0) (hp1 : 0 ≤ p1 ∧ p1 ≤ 4095) (hp2 : (-100000) ≤ p2 ∧ p2 ≤ 100000) : mm_Met g l zy_reads_9_8 zr_reads_9_8x_1037_1 [.ref 1037, zi 1, zi p1, zi p2] (zz_M S0 n) n (zz_QV n (zp_reads_9_8x_1037_1 p1 p2 S0)) := by
  refine zz_enter (by decide) (Nat.le_of_ble_eq_true rfl) (zz_less (ls1 := [some (.ref 1037), some (zi 1), some (zi p1), some (zi p2)]) ⟨rfl, ⟨rfl, ⟨rfl, ⟨rfl, trivial⟩⟩⟩⟩ ?_)
  have F_S0 : zz_fr [(1038, 1), (1039, 1)] [] (fun _ _ => False) S0 S0 := zz_fr.refl
  refine zz_iload_n (x := 1) rfl zd_9_8_0 ?_
  refine zz_if_lt (by omega) zd_9_8_1 (fun c1 => ?_) (fun c1 => ?_)
  · exfalso; omega
  · refine zz_iload_n (x := 1) rfl zd_9_8_4 ?_
    refine zz_iconst zd_9_8_5 ?_
    refine zz_icmp_ge (by omega) (by omega) zd_9_8_6 (fun c2 => ?_) (fun c2 => ?_)
    · exfalso; omega
    · refine zz_aload_n (x := 1037) rfl zd_9_8_9 ?_
      refine zz_getr (kd := 0) (z := 1038) zd_9_8_10 zf_Reaches_11 zT_1037 rfl (zz_ltn hn rfl) (zz_G.eq G_S0 1037 0 1038 rfl rfl) (by decide) 1038 rfl ?_
      refine zz_iload_n (x := 1) rfl zd_9_8_13 ?_
      refine zz_iload_n (x := p1) rfl zd_9_8_14 ?_
      refine zz_iast zd_9_8_15 zT_1038 rfl (zz_ltn hn rfl) (by decide) (by decide) (fun S3 qS3 => ?_)
      have G_S3 := zz_G.put G_S0 qS3 (-2147483648) 2147483647 rfl (by omega)
      have F_S3 := zz_fr.puts F_S0 qS3 rfl
      refine zz_aload_n (x := 1037) rfl zd_9_8_16 ?_
      refine zz_getr (kd := 0) (z := 1039) zd_9_8_17 zf_Reaches_15 zT_1037 rfl (zz_ltn hn rfl) (zz_G.eq G_S3 1037 1 1039 rfl rfl) (by decide) 1039 rfl ?_
      refine zz_iload_n (x := 1) rfl zd_9_8_20 ?_
      refine zz_iload_n (x := p1) rfl zd_9_8_21 ?_
      refine zz_iload_n (x := p2) rfl zd_9_8_22 ?_
      refine zz_iadd zd_9_8_23 ?_
      refine zz_iast zd_9_8_24 zT_1039 rfl (zz_ltn hn rfl) (by decide) (by decide) (fun S4 qS4 => ?_)
      have G_S4 := zz_G.put G_S3 qS4 (-2147483648) 2147483647 rfl (by omega)
      have F_S4 := zz_fr.puts F_S3 qS4 rfl
      have e5 : S4 1039 1 = p1 + p2 := (zz_rs qS4)
      exact zz_vret zd_9_8_25 rfl (Nat.zero_le _) (Nat.zero_le _) ⟨_, rfl, G_S4, F_S4, by omega⟩
abbrev zy_workOnSums_9_6 : mm_Y := (⟨"TensorForge$Reaches", "workOnSums", "(IIZ)V"⟩, prog_9_method_6_code, 4, none)
theorem zyw_workOnSums_9_6 : mm_Yw zy_workOnSums_9_6 3 := ⟨mm_tb_1 550 (by decide +kernel) rfl, mm_tb_1 5 (by decide +kernel) rfl, ⟨by decide, by decide⟩, by decide +kernel⟩
theorem zg_9_5_146 : zq_at zy_takeWork_9_5.2.1 146 42 ∧ zq_at zy_takeWork_9_5.2.1 147 21 ∧ zq_at zy_takeWork_9_5.2.1 148 8 ∧ zq_at zy_takeWork_9_5.2.1 149 21 ∧ zq_at zy_takeWork_9_5.2.1 150 10 ∧ zq_at zy_takeWork_9_5.2.1 151 21 ∧ zq_at zy_takeWork_9_5.2.1 152 9 ∧ zq_at zy_takeWork_9_5.2.1 153 158 ∧ zq_at zy_takeWork_9_5.2.1 154 0 ∧ zq_at zy_takeWork_9_5.2.1 155 7 ∧ zq_at zy_takeWork_9_5.2.1 160 3 ∧ zq_at zy_takeWork_9_5.2.1 161 182 ∧ zq_at zy_takeWork_9_5.2.1 162 0 ∧ zq_at zy_takeWork_9_5.2.1 163 51 := by decide +kernel
theorem zd_9_5_146 : zz_D zy_takeWork_9_5 146 (.aload_n 0) 1 147 := ⟨zq_42 zg_9_5_146.1, rfl⟩
theorem zd_9_5_147 : zz_D zy_takeWork_9_5 147 (.iload 8) 2 149 := ⟨zq_21 zg_9_5_146.2.1 zg_9_5_146.2.2.1, rfl⟩
theorem zd_9_5_149 : zz_D zy_takeWork_9_5 149 (.iload 10) 2 151 := ⟨zq_21 zg_9_5_146.2.2.2.1 zg_9_5_146.2.2.2.2.1, rfl⟩
theorem zd_9_5_151 : zz_D zy_takeWork_9_5 151 (.iload 9) 2 153 := ⟨zq_21 zg_9_5_146.2.2.2.2.2.1 zg_9_5_146.2.2.2.2.2.2.1, rfl⟩
theorem zd_9_5_153 : zz_B zy_takeWork_9_5 153 (Instr.ifCond .le) 160 156 := ⟨7, zq_158 zg_9_5_146.2.2.2.2.2.2.2.1 zg_9_5_146.2.2.2.2.2.2.2.2.1 zg_9_5_146.2.2.2.2.2.2.2.2.2.1 (by decide), rfl, rfl⟩
theorem zd_9_5_160 : zz_D zy_takeWork_9_5 160 (.iconst 0) 1 161 := ⟨zq_3 zg_9_5_146.2.2.2.2.2.2.2.2.2.2.1, rfl⟩
theorem zd_9_5_161 : zz_D zy_takeWork_9_5 161 (.invokevirtual 51) 3 164 := ⟨zq_182 zg_9_5_146.2.2.2.2.2.2.2.2.2.2.2.1 zg_9_5_146.2.2.2.2.2.2.2.2.2.2.2.2.1 zg_9_5_146.2.2.2.2.2.2.2.2.2.2.2.2.2 rfl, rfl⟩
theorem zg_9_6_0 : zq_at zy_workOnSums_9_6.2.1 0 29 ∧ zq_at zy_workOnSums_9_6.2.1 1 153 ∧ zq_at zy_workOnSums_9_6.2.1 2 0 ∧ zq_at zy_workOnSums_9_6.2.1 3 10 ∧ zq_at zy_workOnSums_9_6.2.1 11 42 ∧ zq_at zy_workOnSums_9_6.2.1 12 6 ∧ zq_at zy_workOnSums_9_6.2.1 13 27 ∧ zq_at zy_workOnSums_9_6.2.1 14 28 ∧ zq_at zy_workOnSums_9_6.2.1 15 182 ∧ zq_at zy_workOnSums_9_6.2.1 16 0 ∧ zq_at zy_workOnSums_9_6.2.1 17 37 ∧ zq_at zy_workOnSums_9_6.2.1 18 177 ∧ zq_at zy_workOnSums_9_6.2.1 4 42 ∧ zq_at zy_workOnSums_9_6.2.1 5 6 ∧ zq_at zy_workOnSums_9_6.2.1 6 27 ∧ zq_at zy_workOnSums_9_6.2.1 7 28 ∧ zq_at zy_workOnSums_9_6.2.1 8 182 ∧ zq_at zy_workOnSums_9_6.2.1 9 0 ∧ zq_at zy_workOnSums_9_6.2.1 10 33 := by decide +kernel
theorem zd_9_6_0 : zz_D zy_workOnSums_9_6 0 (.iload_n 3) 1 1 := ⟨zq_29 zg_9_6_0.1, rfl⟩
theorem zd_9_6_1 : zz_B zy_workOnSums_9_6 1 (Instr.ifCond .eq) 11 4 := ⟨10, zq_153 zg_9_6_0.2.1 zg_9_6_0.2.2.1 zg_9_6_0.2.2.2.1 (by decide), rfl, rfl⟩
theorem zd_9_6_11 : zz_D zy_workOnSums_9_6 11 (.aload_n 0) 1 12 := ⟨zq_42 zg_9_6_0.2.2.2.2.1, rfl⟩
theorem zd_9_6_12 : zz_D zy_workOnSums_9_6 12 (.iconst 3) 1 13 := ⟨zq_6 zg_9_6_0.2.2.2.2.2.1, rfl⟩
theorem zd_9_6_13 : zz_D zy_workOnSums_9_6 13 (.iload_n 1) 1 14 := ⟨zq_27 zg_9_6_0.2.2.2.2.2.2.1, rfl⟩
theorem zd_9_6_14 : zz_D zy_workOnSums_9_6 14 (.iload_n 2) 1 15 := ⟨zq_28 zg_9_6_0.2.2.2.2.2.2.2.1, rfl⟩
theorem zd_9_6_15 : zz_D zy_workOnSums_9_6 15 (.invokevirtual 37) 3 18 := ⟨zq_182 zg_9_6_0.2.2.2.2.2.2.2.2.1 zg_9_6_0.2.2.2.2.2.2.2.2.2.1 zg_9_6_0.2.2.2.2.2.2.2.2.2.2.1 rfl, rfl⟩
theorem zd_9_6_18 : zz_D zy_workOnSums_9_6 18 (.return_) 1 19 := ⟨zq_177 zg_9_6_0.2.2.2.2.2.2.2.2.2.2.2.1, rfl⟩
theorem zd_9_6_4 : zz_D zy_workOnSums_9_6 4 (.aload_n 0) 1 5 := ⟨zq_42 zg_9_6_0.2.2.2.2.2.2.2.2.2.2.2.2.1, rfl⟩
theorem zd_9_6_5 : zz_D zy_workOnSums_9_6 5 (.iconst 3) 1 6 := ⟨zq_6 zg_9_6_0.2.2.2.2.2.2.2.2.2.2.2.2.2.1, rfl⟩
theorem zd_9_6_6 : zz_D zy_workOnSums_9_6 6 (.iload_n 1) 1 7 := ⟨zq_27 zg_9_6_0.2.2.2.2.2.2.2.2.2.2.2.2.2.2.1, rfl⟩
theorem zd_9_6_7 : zz_D zy_workOnSums_9_6 7 (.iload_n 2) 1 8 := ⟨zq_28 zg_9_6_0.2.2.2.2.2.2.2.2.2.2.2.2.2.2.2.1, rfl⟩
theorem zd_9_6_8 : zz_D zy_workOnSums_9_6 8 (.invokevirtual 33) 3 11 := ⟨zq_182 zg_9_6_0.2.2.2.2.2.2.2.2.2.2.2.2.2.2.2.2.1 zg_9_6_0.2.2.2.2.2.2.2.2.2.2.2.2.2.2.2.2.2.1 zg_9_6_0.2.2.2.2.2.2.2.2.2.2.2.2.2.2.2.2.2.2 rfl, rfl⟩
-- TensorForge$Reaches workOnSums (IIZ)V
abbrev zr_workOnSums_9_6x_1037 : Room := { frames := 1, cells := 0, slots := 0, locals := 15 }
def zp_workOnSums_9_6x_1037 (p0 : Int) (p1 : Int) (p2 : Int) (S0 : zz_S) : zz_S → Prop := fun S => zz_G S ∧ zz_fr [(1038, 3), (1039, 3), (1040, 3), (1041, 3)] [] (fun _ _ => False) S0 S ∧ (S 1041 3 = p0 + p1) ∧ (S 1039 3 = p0 + p1 ∨ S 1039 3 = S0 1039 3)
theorem zc_workOnSums_9_6x_1037 {g : mm_G} {l : Launch} (p0 : Int) (p1 : Int) (p2 : Int) (S0 : zz_S) (n : Nat) (hn : zz_end ≤ n) (G_S0 : zz_G S0) (hp0 : 0 ≤ p0 ∧ p0 ≤ 4095) (hp1 : (-100000) ≤ p1 ∧ p1 ≤ 100000) (hp2 : 0 ≤ p2 ∧ p2 ≤ 1) : mm_Met g l zy_workOnSums_9_6 zr_workOnSums_9_6x_1037 [.ref 1037, zi p0, zi p1, zi p2] (zz_M S0 n) n (zz_QV n (zp_workOnSums_9_6x_1037 p0 p1 p2 S0)) := by
  refine zz_enter (by decide) (Nat.le_of_ble_eq_true rfl) (zz_less (ls1 := [some (.ref 1037), some (zi p0), some (zi p1), some (zi p2)]) ⟨rfl, ⟨rfl, ⟨rfl, ⟨rfl, trivial⟩⟩⟩⟩ ?_)
  have F_S0 : zz_fr [(1038, 3), (1039, 3), (1040, 3), (1041, 3)] [] (fun _ _ => False) S0 S0 := zz_fr.refl
  refine zz_iload_n (x := p2) rfl zd_9_6_0 ?_
  refine zz_if_eq (by omega) zd_9_6_1 (fun c1 => ?_) (fun c1 => ?_)
  · refine zz_aload_n (x := 1037) rfl zd_9_6_11 ?_
    refine zz_iconst zd_9_6_12 ?_
    refine zz_iload_n (x := p0) rfl zd_9_6_13 ?_
    refine zz_iload_n (x := p1) rfl zd_9_6_14 ?_
    refine zz_callVV [zi 3, zi p0, zi p1] zd_9_6_15 zk_Reaches_37 zT_1037 (zz_ltn hn rfl) rfl rfl ⟨Nat.le_of_ble_eq_true rfl, Nat.le_of_ble_eq_true rfl⟩ ⟨rfl, rfl⟩ (Nat.zero_le _) (Nat.zero_le _) (zc_writes_9_9x_1037_3 p0 p1 S0 n hn G_S0 (by omega) (by omega)) (fun S2 hP => ?_)
    obtain ⟨G_S2, fS2, o4⟩ := hP
    have F_S2 := zz_fr.trans F_S0 fS2 rfl zz_nv
    have g5 := zz_G.r G_S2 1041 3 (-2147483648) 2147483647 rfl rfl
    have g6 := zz_G.r G_S0 1039 3 (-2147483648) 2147483647 rfl rfl
    have e7 : S2 1039 3 = S0 1039 3 := (zz_rc fS2 rfl rfl (fun h => h) rfl)
    exact zz_vret zd_9_6_18 rfl (Nat.zero_le _) (Nat.zero_le _) ⟨_, rfl, G_S2, F_S2, by omega, by omega⟩
  · refine zz_aload_n (x := 1037) rfl zd_9_6_4 ?_
    refine zz_iconst zd_9_6_5 ?_
    refine zz_iload_n (x := p0) rfl zd_9_6_6 ?_
    refine zz_iload_n (x := p1) rfl zd_9_6_7 ?_
    refine zz_callVV [zi 3, zi p0, zi p1] zd_9_6_8 zk_Reaches_33 zT_1037 (zz_ltn hn rfl) rfl rfl ⟨Nat.le_of_ble_eq_true rfl, Nat.le_of_ble_eq_true rfl⟩ ⟨rfl, rfl⟩ (Nat.zero_le _) (Nat.zero_le _) (zc_reads_9_8x_1037_3 p0 p1 S0 n hn G_S0 (by omega) (by omega)) (fun S8 hP => ?_)
    obtain ⟨G_S8, fS8, o10⟩ := hP
    have F_S8 := zz_fr.trans F_S0 fS8 rfl zz_nv
    refine zz_aload_n (x := 1037) rfl zd_9_6_11 ?_
    refine zz_iconst zd_9_6_12 ?_
    refine zz_iload_n (x := p0) rfl zd_9_6_13 ?_
    refine zz_iload_n (x := p1) rfl zd_9_6_14 ?_
    refine zz_callVV [zi 3, zi p0, zi p1] zd_9_6_15 zk_Reaches_37 zT_1037 (zz_ltn hn rfl) rfl rfl ⟨Nat.le_of_ble_eq_true rfl, Nat.le_of_ble_eq_true rfl⟩ ⟨rfl, rfl⟩ (Nat.zero_le _) (Nat.zero_le _) (zc_writes_9_9x_1037_3 p0 p1 S8 n hn G_S8 (by omega) (by omega)) (fun S11 hP => ?_)
    obtain ⟨G_S11, fS11, o13⟩ := hP
    have F_S11 := zz_fr.trans F_S8 fS11 rfl zz_nv
    have g14 := zz_G.r G_S11 1041 3 (-2147483648) 2147483647 rfl rfl
    have g15 := zz_G.r G_S8 1039 3 (-2147483648) 2147483647 rfl rfl
    have e16 : S11 1039 3 = S8 1039 3 := (zz_rc fS11 rfl rfl (fun h => h) rfl)
    exact zz_vret zd_9_6_18 rfl (Nat.zero_le _) (Nat.zero_le _) ⟨_, rfl, G_S11, F_S11, by omega, by omega⟩
theorem zk_Reaches_51 : mm_Vl "TensorForge$Reaches" 51 4 3 zy_workOnSums_9_6 := ⟨zyw_workOnSums_9_6, (R_Reaches, F_Reaches, 4), rfl, mm_tb_1 547 (by decide +kernel) rfl, mm_tb_1 549 (by decide +kernel) rfl, mm_tb_s 6 (by decide +kernel) rfl⟩
theorem zg_9_5_164 : zq_at zy_takeWork_9_5.2.1 164 167 ∧ zq_at zy_takeWork_9_5.2.1 165 0 ∧ zq_at zy_takeWork_9_5.2.1 166 28 ∧ zq_at zy_takeWork_9_5.2.1 156 4 ∧ zq_at zy_takeWork_9_5.2.1 157 167 ∧ zq_at zy_takeWork_9_5.2.1 158 0 ∧ zq_at zy_takeWork_9_5.2.1 159 4 ∧ zq_at zy_takeWork_9_5.2.1 66 21 ∧ zq_at zy_takeWork_9_5.2.1 67 9 ∧ zq_at zy_takeWork_9_5.2.1 68 5 ∧ zq_at zy_takeWork_9_5.2.1 69 108 ∧ zq_at zy_takeWork_9_5.2.1 70 4 ∧ zq_at zy_takeWork_9_5.2.1 71 100 ∧ zq_at zy_takeWork_9_5.2.1 72 54 ∧ zq_at zy_takeWork_9_5.2.1 73 11 ∧ zq_at zy_takeWork_9_5.2.1 74 42 ∧ zq_at zy_takeWork_9_5.2.1 75 4 ∧ zq_at zy_takeWork_9_5.2.1 76 21 ∧ zq_at zy_takeWork_9_5.2.1 77 7 ∧ zq_at zy_takeWork_9_5.2.1 78 21 ∧ zq_at zy_takeWork_9_5.2.1 79 5 ∧ zq_at zy_takeWork_9_5.2.1 80 29 ∧ zq_at zy_takeWork_9_5.2.1 81 104 := by decide +kernel
theorem zd_9_5_164 : zz_B zy_takeWork_9_5 164 Instr.goto 192 167 := ⟨28, zq_167 zg_9_5_164.1 zg_9_5_164.2.1 zg_9_5_164.2.2.1 (by decide), rfl, rfl⟩
theorem zd_9_5_156 : zz_D zy_takeWork_9_5 156 (.iconst 1) 1 157 := ⟨zq_4 zg_9_5_164.2.2.2.1, rfl⟩
theorem zd_9_5_157 : zz_B zy_takeWork_9_5 157 Instr.goto 161 160 := ⟨4, zq_167 zg_9_5_164.2.2.2.2.1 zg_9_5_164.2.2.2.2.2.1 zg_9_5_164.2.2.2.2.2.2.1 (by decide), rfl, rfl⟩
theorem zd_9_5_66 : zz_D zy_takeWork_9_5 66 (.iload 9) 2 68 := ⟨zq_21 zg_9_5_164.2.2.2.2.2.2.2.1 zg_9_5_164.2.2.2.2.2.2.2.2.1, rfl⟩
theorem zd_9_5_68 : zz_D zy_takeWork_9_5 68 (.iconst 2) 1 69 := ⟨zq_5 zg_9_5_164.2.2.2.2.2.2.2.2.2.1, rfl⟩
theorem zd_9_5_69 : zz_D zy_takeWork_9_5 69 (.idiv) 1 70 := ⟨zq_108 zg_9_5_164.2.2.2.2.2.2.2.2.2.2.1, rfl⟩
theorem zd_9_5_70 : zz_D zy_takeWork_9_5 70 (.iconst 1) 1 71 := ⟨zq_4 zg_9_5_164.2.2.2.2.2.2.2.2.2.2.2.1, rfl⟩
theorem zd_9_5_71 : zz_D zy_takeWork_9_5 71 (.isub) 1 72 := ⟨zq_100 zg_9_5_164.2.2.2.2.2.2.2.2.2.2.2.2.1, rfl⟩
theorem zd_9_5_72 : zz_D zy_takeWork_9_5 72 (.istore 11) 2 74 := ⟨zq_54 zg_9_5_164.2.2.2.2.2.2.2.2.2.2.2.2.2.1 zg_9_5_164.2.2.2.2.2.2.2.2.2.2.2.2.2.2.1, rfl⟩
theorem zd_9_5_74 : zz_D zy_takeWork_9_5 74 (.aload_n 0) 1 75 := ⟨zq_42 zg_9_5_164.2.2.2.2.2.2.2.2.2.2.2.2.2.2.2.1, rfl⟩
theorem zd_9_5_75 : zz_D zy_takeWork_9_5 75 (.iconst 1) 1 76 := ⟨zq_4 zg_9_5_164.2.2.2.2.2.2.2.2.2.2.2.2.2.2.2.2.1, rfl⟩
theorem zd_9_5_76 : zz_D zy_takeWork_9_5 76 (.iload 7) 2 78 := ⟨zq_21 zg_9_5_164.2.2.2.2.2.2.2.2.2.2.2.2.2.2.2.2.2.1 zg_9_5_164.2.2.2.2.2.2.2.2.2.2.2.2.2.2.2.2.2.2.1, rfl⟩
theorem zd_9_5_78 : zz_D zy_takeWork_9_5 78 (.iload 5) 2 80 := ⟨zq_21 zg_9_5_164.2.2.2.2.2.2.2.2.2.2.2.2.2.2.2.2.2.2.2.1 zg_9_5_164.2.2.2.2.2.2.2.2.2.2.2.2.2.2.2.2.2.2.2.2.1, rfl⟩
theorem zd_9_5_80 : zz_D zy_takeWork_9_5 80 (.iload_n 3) 1 81 := ⟨zq_29 zg_9_5_164.2.2.2.2.2.2.2.2.2.2.2.2.2.2.2.2.2.2.2.2.2.1, rfl⟩
theorem zd_9_5_81 : zz_D zy_takeWork_9_5 81 (.imul) 1 82 := ⟨zq_104 zg_9_5_164.2.2.2.2.2.2.2.2.2.2.2.2.2.2.2.2.2.2.2.2.2.2, rfl⟩
theorem zg_9_5_82 : zq_at zy_takeWork_9_5.2.1 82 21 ∧ zq_at zy_takeWork_9_5.2.1 83 11 ∧ zq_at zy_takeWork_9_5.2.1 84 96 ∧ zq_at zy_takeWork_9_5.2.1 85 182 ∧ zq_at zy_takeWork_9_5.2.1 86 0 ∧ zq_at zy_takeWork_9_5.2.1 87 33 ∧ zq_at zy_takeWork_9_5.2.1 88 42 ∧ zq_at zy_takeWork_9_5.2.1 89 5 ∧ zq_at zy_takeWork_9_5.2.1 90 31 ∧ zq_at zy_takeWork_9_5.2.1 91 16 ∧ zq_at zy_takeWork_9_5.2.1 92 10 ∧ zq_at zy_takeWork_9_5.2.1 93 184 ∧ zq_at zy_takeWork_9_5.2.1 94 0 ∧ zq_at zy_takeWork_9_5.2.1 95 29 ∧ zq_at zy_takeWork_9_5.2.1 96 21 ∧ zq_at zy_takeWork_9_5.2.1 97 11 ∧ zq_at zy_takeWork_9_5.2.1 98 29 ∧ zq_at zy_takeWork_9_5.2.1 99 104 ∧ zq_at zy_takeWork_9_5.2.1 100 21 ∧ zq_at zy_takeWork_9_5.2.1 101 6 ∧ zq_at zy_takeWork_9_5.2.1 102 96 ∧ zq_at zy_takeWork_9_5.2.1 103 182 ∧ zq_at zy_takeWork_9_5.2.1 104 0 ∧ zq_at zy_takeWork_9_5.2.1 105 33 := by decide +kernel
theorem zd_9_5_82 : zz_D zy_takeWork_9_5 82 (.iload 11) 2 84 := ⟨zq_21 zg_9_5_82.1 zg_9_5_82.2.1, rfl⟩
theorem zd_9_5_84 : zz_D zy_takeWork_9_5 84 (.iadd) 1 85 := ⟨zq_96 zg_9_5_82.2.2.1, rfl⟩
theorem zd_9_5_85 : zz_D zy_takeWork_9_5 85 (.invokevirtual 33) 3 88 := ⟨zq_182 zg_9_5_82.2.2.2.1 zg_9_5_82.2.2.2.2.1 zg_9_5_82.2.2.2.2.2.1 rfl, rfl⟩
theorem zd_9_5_88 : zz_D zy_takeWork_9_5 88 (.aload_n 0) 1 89 := ⟨zq_42 zg_9_5_82.2.2.2.2.2.2.1, rfl⟩
theorem zd_9_5_89 : zz_D zy_takeWork_9_5 89 (.iconst 2) 1 90 := ⟨zq_5 zg_9_5_82.2.2.2.2.2.2.2.1, rfl⟩
theorem zd_9_5_90 : zz_D zy_takeWork_9_5 90 (.lload_n 1) 1 91 := ⟨zq_31 zg_9_5_82.2.2.2.2.2.2.2.2.1, rfl⟩
theorem zd_9_5_91 : zz_D zy_takeWork_9_5 91 (.bipush 10) 2 93 := ⟨zq_16 zg_9_5_82.2.2.2.2.2.2.2.2.2.1 zg_9_5_82.2.2.2.2.2.2.2.2.2.2.1 (by decide), rfl⟩
theorem zd_9_5_93 : zz_D zy_takeWork_9_5 93 (.invokestatic 29) 3 96 := ⟨zq_184 zg_9_5_82.2.2.2.2.2.2.2.2.2.2.2.1 zg_9_5_82.2.2.2.2.2.2.2.2.2.2.2.2.1 zg_9_5_82.2.2.2.2.2.2.2.2.2.2.2.2.2.1 rfl, rfl⟩
theorem zd_9_5_96 : zz_D zy_takeWork_9_5 96 (.iload 11) 2 98 := ⟨zq_21 zg_9_5_82.2.2.2.2.2.2.2.2.2.2.2.2.2.2.1 zg_9_5_82.2.2.2.2.2.2.2.2.2.2.2.2.2.2.2.1, rfl⟩
theorem zd_9_5_98 : zz_D zy_takeWork_9_5 98 (.iload_n 3) 1 99 := ⟨zq_29 zg_9_5_82.2.2.2.2.2.2.2.2.2.2.2.2.2.2.2.2.1, rfl⟩
theorem zd_9_5_99 : zz_D zy_takeWork_9_5 99 (.imul) 1 100 := ⟨zq_104 zg_9_5_82.2.2.2.2.2.2.2.2.2.2.2.2.2.2.2.2.2.1, rfl⟩
theorem zd_9_5_100 : zz_D zy_takeWork_9_5 100 (.iload 6) 2 102 := ⟨zq_21 zg_9_5_82.2.2.2.2.2.2.2.2.2.2.2.2.2.2.2.2.2.2.1 zg_9_5_82.2.2.2.2.2.2.2.2.2.2.2.2.2.2.2.2.2.2.2.1, rfl⟩
theorem zd_9_5_102 : zz_D zy_takeWork_9_5 102 (.iadd) 1 103 := ⟨zq_96 zg_9_5_82.2.2.2.2.2.2.2.2.2.2.2.2.2.2.2.2.2.2.2.2.1, rfl⟩
theorem zd_9_5_103 : zz_D zy_takeWork_9_5 103 (.invokevirtual 33) 3 106 := ⟨zq_182 zg_9_5_82.2.2.2.2.2.2.2.2.2.2.2.2.2.2.2.2.2.2.2.2.2.1 zg_9_5_82.2.2.2.2.2.2.2.2.2.2.2.2.2.2.2.2.2.2.2.2.2.2.1 zg_9_5_82.2.2.2.2.2.2.2.2.2.2.2.2.2.2.2.2.2.2.2.2.2.2.2 rfl, rfl⟩
-- TensorForge$Reaches reads (III)V
abbrev zr_reads_9_8x_1037_2 : Room := { frames := 0, cells := 0, slots := 0, locals := 0 }
def zp_reads_9_8x_1037_2 (p1 : Int) (p2 : Int) (S0 : zz_S) : zz_S → Prop := fun S => zz_G S ∧ zz_fr [(1038, 2), (1039, 2)] [] (fun _ _ => False) S0 S ∧ (S 1039 2 = p1 + p2)
theorem zc_reads_9_8x_1037_2 {g : mm_G} {l : Launch} (p1 : Int) (p2 : Int) (S0 : zz_S) (n : Nat) (hn : zz_end ≤ n) (G_S0 : zz_G S0) (hp1 : 0 ≤ p1 ∧ p1 ≤ 4095) (hp2 : (-100000) ≤ p2 ∧ p2 ≤ 100000) : mm_Met g l zy_reads_9_8 zr_reads_9_8x_1037_2 [.ref 1037, zi 2, zi p1, zi p2] (zz_M S0 n) n (zz_QV n (zp_reads_9_8x_1037_2 p1 p2 S0)) := by
  refine zz_enter (by decide) (Nat.le_of_ble_eq_true rfl) (zz_less (ls1 := [some (.ref 1037), some (zi 2), some (zi p1), some (zi p2)]) ⟨rfl, ⟨rfl, ⟨rfl, ⟨rfl, trivial⟩⟩⟩⟩ ?_)
  have F_S0 : zz_fr [(1038, 2), (1039, 2)] [] (fun _ _ => False) S0 S0 := zz_fr.refl
  refine zz_iload_n (x := 2) rfl zd_9_8_0 ?_
  refine zz_if_lt (by omega) zd_9_8_1 (fun c1 => ?_) (fun c1 => ?_)
  · exfalso; omega
  · refine zz_iload_n (x := 2) rfl zd_9_8_4 ?_
    refine zz_iconst zd_9_8_5 ?_
    refine zz_icmp_ge (by omega) (by omega) zd_9_8_6 (fun c2 => ?_) (fun c2 => ?_)
    · exfalso; omega
    · refine zz_aload_n (x := 1037) rfl zd_9_8_9 ?_
      refine zz_getr (kd := 0) (z := 1038) zd_9_8_10 zf_Reaches_11 zT_1037 rfl (zz_ltn hn rfl) (zz_G.eq G_S0 1037 0 1038 rfl rfl) (by decide) 1038 rfl ?_
      refine zz_iload_n (x := 2) rfl zd_9_8_13 ?_
      refine zz_iload_n (x := p1) rfl zd_9_8_14 ?_
      refine zz_iast zd_9_8_15 zT_1038 rfl (zz_ltn hn rfl) (by decide) (by decide) (fun S3 qS3 => ?_)
      have G_S3 := zz_G.put G_S0 qS3 (-2147483648) 2147483647 rfl (by omega)
      have F_S3 := zz_fr.puts F_S0 qS3 rfl
      refine zz_aload_n (x := 1037) rfl zd_9_8_16 ?_
      refine zz_getr (kd := 0) (z := 1039) zd_9_8_17 zf_Reaches_15 zT_1037 rfl (zz_ltn hn rfl) (zz_G.eq G_S3 1037 1 1039 rfl rfl) (by decide) 1039 rfl ?_
      refine zz_iload_n (x := 2) rfl zd_9_8_20 ?_
      refine zz_iload_n (x := p1) rfl zd_9_8_21 ?_
      refine zz_iload_n (x := p2) rfl zd_9_8_22 ?_
      refine zz_iadd zd_9_8_23 ?_
      refine zz_iast zd_9_8_24 zT_1039 rfl (zz_ltn hn rfl) (by decide) (by decide) (fun S4 qS4 => ?_)
      have G_S4 := zz_G.put G_S3 qS4 (-2147483648) 2147483647 rfl (by omega)
      have F_S4 := zz_fr.puts F_S3 qS4 rfl
      have e5 : S4 1039 2 = p1 + p2 := (zz_rs qS4)
      exact zz_vret zd_9_8_25 rfl (Nat.zero_le _) (Nat.zero_le _) ⟨_, rfl, G_S4, F_S4, by omega⟩
theorem zg_9_5_106 : zq_at zy_takeWork_9_5.2.1 106 42 ∧ zq_at zy_takeWork_9_5.2.1 107 21 ∧ zq_at zy_takeWork_9_5.2.1 108 8 ∧ zq_at zy_takeWork_9_5.2.1 109 21 ∧ zq_at zy_takeWork_9_5.2.1 110 10 ∧ zq_at zy_takeWork_9_5.2.1 111 21 ∧ zq_at zy_takeWork_9_5.2.1 112 9 ∧ zq_at zy_takeWork_9_5.2.1 113 4 ∧ zq_at zy_takeWork_9_5.2.1 114 126 ∧ zq_at zy_takeWork_9_5.2.1 115 4 ∧ zq_at zy_takeWork_9_5.2.1 116 160 ∧ zq_at zy_takeWork_9_5.2.1 117 0 ∧ zq_at zy_takeWork_9_5.2.1 118 7 ∧ zq_at zy_takeWork_9_5.2.1 123 3 ∧ zq_at zy_takeWork_9_5.2.1 124 182 ∧ zq_at zy_takeWork_9_5.2.1 125 0 ∧ zq_at zy_takeWork_9_5.2.1 126 51 ∧ zq_at zy_takeWork_9_5.2.1 127 167 ∧ zq_at zy_takeWork_9_5.2.1 128 0 ∧ zq_at zy_takeWork_9_5.2.1 129 65 ∧ zq_at zy_takeWork_9_5.2.1 119 4 ∧ zq_at zy_takeWork_9_5.2.1 120 167 ∧ zq_at zy_takeWork_9_5.2.1 121 0 ∧ zq_at zy_takeWork_9_5.2.1 122 4 := by decide +kernel
theorem zd_9_5_106 : zz_D zy_takeWork_9_5 106 (.aload_n 0) 1 107 := ⟨zq_42 zg_9_5_106.1, rfl⟩
theorem zd_9_5_107 : zz_D zy_takeWork_9_5 107 (.iload 8) 2 109 := ⟨zq_21 zg_9_5_106.2.1 zg_9_5_106.2.2.1, rfl⟩
theorem zd_9_5_109 : zz_D zy_takeWork_9_5 109 (.iload 10) 2 111 := ⟨zq_21 zg_9_5_106.2.2.2.1 zg_9_5_106.2.2.2.2.1, rfl⟩
theorem zd_9_5_111 : zz_D zy_takeWork_9_5 111 (.iload 9) 2 113 := ⟨zq_21 zg_9_5_106.2.2.2.2.2.1 zg_9_5_106.2.2.2.2.2.2.1, rfl⟩
theorem zd_9_5_113 : zz_D zy_takeWork_9_5 113 (.iconst 1) 1 114 := ⟨zq_4 zg_9_5_106.2.2.2.2.2.2.2.1, rfl⟩
theorem zd_9_5_114 : zz_D zy_takeWork_9_5 114 (.iand) 1 115 := ⟨zq_126 zg_9_5_106.2.2.2.2.2.2.2.2.1, rfl⟩
theorem zd_9_5_115 : zz_D zy_takeWork_9_5 115 (.iconst 1) 1 116 := ⟨zq_4 zg_9_5_106.2.2.2.2.2.2.2.2.2.1, rfl⟩
theorem zd_9_5_116 : zz_B zy_takeWork_9_5 116 (Instr.if_icmp .ne) 123 119 := ⟨7, zq_160 zg_9_5_106.2.2.2.2.2.2.2.2.2.2.1 zg_9_5_106.2.2.2.2.2.2.2.2.2.2.2.1 zg_9_5_106.2.2.2.2.2.2.2.2.2.2.2.2.1 (by decide), rfl, rfl⟩
theorem zd_9_5_123 : zz_D zy_takeWork_9_5 123 (.iconst 0) 1 124 := ⟨zq_3 zg_9_5_106.2.2.2.2.2.2.2.2.2.2.2.2.2.1, rfl⟩
theorem zd_9_5_124 : zz_D zy_takeWork_9_5 124 (.invokevirtual 51) 3 127 := ⟨zq_182 zg_9_5_106.2.2.2.2.2.2.2.2.2.2.2.2.2.2.1 zg_9_5_106.2.2.2.2.2.2.2.2.2.2.2.2.2.2.2.1 zg_9_5_106.2.2.2.2.2.2.2.2.2.2.2.2.2.2.2.2.1 rfl, rfl⟩
theorem zd_9_5_127 : zz_B zy_takeWork_9_5 127 Instr.goto 192 130 := ⟨65, zq_167 zg_9_5_106.2.2.2.2.2.2.2.2.2.2.2.2.2.2.2.2.2.1 zg_9_5_106.2.2.2.2.2.2.2.2.2.2.2.2.2.2.2.2.2.2.1 zg_9_5_106.2.2.2.2.2.2.2.2.2.2.2.2.2.2.2.2.2.2.2.1 (by decide), rfl, rfl⟩
theorem zd_9_5_119 : zz_D zy_takeWork_9_5 119 (.iconst 1) 1 120 := ⟨zq_4 zg_9_5_106.2.2.2.2.2.2.2.2.2.2.2.2.2.2.2.2.2.2.2.2.1, rfl⟩
theorem zd_9_5_120 : zz_B zy_takeWork_9_5 120 Instr.goto 124 123 := ⟨4, zq_167 zg_9_5_106.2.2.2.2.2.2.2.2.2.2.2.2.2.2.2.2.2.2.2.2.2.1 zg_9_5_106.2.2.2.2.2.2.2.2.2.2.2.2.2.2.2.2.2.2.2.2.2.2.1 zg_9_5_106.2.2.2.2.2.2.2.2.2.2.2.2.2.2.2.2.2.2.2.2.2.2.2 (by decide), rfl, rfl⟩
-- TensorForge$Reaches takeWork (JI)V
abbrev zr_takeWork_9_5x_1037 : Room := { frames := 2, cells := 0, slots := 0, locals := 30 }
def zp_takeWork_9_5x_1037 (p0 : Int) (p1 : Int) (S0 : zz_S) : zz_S → Prop := fun S => zz_G S ∧ zz_fr [(1038, 1), (1038, 2), (1038, 3), (1039, 1), (1039, 2), (1039, 3), (1040, 3), (1040, 4), (1041, 3), (1041, 4)] [] (fun _ _ => False) S0 S ∧ (((zz_fy p0 0 15) = 5 → S 1039 0 = S0 1039 0 ∧ S 1039 1 = (zz_fy p0 31 511) + ((zz_fy p0 20 63) - 1) * p1 + (zz_fy p0 59 31) / 2 - 1 ∧ S 1039 2 = (zz_fy p0 49 1023) + ((zz_fy p0 59 31) / 2 - 1) * p1 + (zz_fy p0 26 31) - 1 ∧ (S 1039 3 = (zz_fy p0 40 511) + ((zz_fy p0 20 63) - 1) * p1 + (zz_fy p0 26 31) - 1 ∨ S 1039 3 = S0 1039 3) ∧ S 1039 4 = S0 1039 4 ∧ S 1041 0 = S0 1041 0 ∧ S 1041 1 = S0 1041 1 ∧ S 1041 2 = S0 1041 2 ∧ S 1041 3 = (zz_fy p0 40 511) + ((zz_fy p0 20 63) - 1) * p1 + (zz_fy p0 26 31) - 1 ∧ S 1041 4 = S0 1041 4)) ∧ (((zz_fy p0 0 15) = 6 → S 1039 0 = S0 1039 0 ∧ S 1039 1 = (zz_fy p0 31 511) + ((zz_fy p0 20 63) - 1) * p1 + (zz_fy p0 26 31) - 1 ∧ S 1039 2 = S0 1039 2 ∧ (S 1039 3 = (zz_fy p0 40 511) + ((zz_fy p0 20 63) - 1) * p1 + (zz_fy p0 26 31) - 1 ∨ S 1039 3 = S0 1039 3) ∧ S 1039 4 = S0 1039 4 ∧ S 1041 0 = S0 1041 0 ∧ S 1041 1 = S0 1041 1 ∧ S 1041 2 = S0 1041 2 ∧ S 1041 3 = (zz_fy p0 40 511) + ((zz_fy p0 20 63) - 1) * p1 + (zz_fy p0 26 31) - 1 ∧ S 1041 4 = S0 1041 4)) ∧ (((zz_fy p0 0 15) = 7 → S 1039 0 = S0 1039 0 ∧ S 1039 1 = S0 1039 1 ∧ S 1039 2 = S0 1039 2 ∧ S 1039 3 = (zz_fy p0 31 511) + ((zz_fy p0 20 63) - 1) * p1 + (zz_fy p0 26 31) - 1 ∧ S 1039 4 = S0 1039 4 ∧ S 1041 0 = S0 1041 0 ∧ S 1041 1 = S0 1041 1 ∧ S 1041 2 = S0 1041 2 ∧ S 1041 3 = S0 1041 3 ∧ S 1041 4 = (zz_fy p0 40 511) + ((zz_fy p0 20 63) - 1) * p1 + (zz_fy p0 26 31) - 1)) ∧ ((zz_fy p0 0 15 ≠ 5 → zz_fy p0 0 15 ≠ 6 → zz_fy p0 0 15 ≠ 7 → S 1039 0 = S0 1039 0 ∧ S 1039 1 = S0 1039 1 ∧ S 1039 2 = S0 1039 2 ∧ S 1039 3 = S0 1039 3 ∧ S 1039 4 = S0 1039 4 ∧ S 1041 0 = S0 1041 0 ∧ S 1041 1 = S0 1041 1 ∧ S 1041 2 = S0 1041 2 ∧ S 1041 3 = S0 1041 3 ∧ S 1041 4 = S0 1041 4))
theorem zc_takeWork_9_5x_1037 {g : mm_G} {l : Launch} (p0 : Int) (p1 : Int) (S0 : zz_S) (n : Nat) (hn : zz_end ≤ n) (G_S0 : zz_G S0) (hp0 : (-9223372036854775808) ≤ p0 ∧ p0 ≤ 9223372036854775807) (hp1 : 2 ≤ p1 ∧ p1 ≤ 8) : mm_Met g l zy_takeWork_9_5 zr_takeWork_9_5x_1037 [.ref 1037, zl p0, zi p1] (zz_M S0 n) n (zz_QV n (zp_takeWork_9_5x_1037 p0 p1 S0)) := by
  refine zz_enter (by decide) (Nat.le_of_ble_eq_true rfl) (zz_less (ls1 := [some (.ref 1037), some (zl p0), none, some (zi p1)]) ⟨rfl, ⟨rfl, ⟨rfl, trivial⟩⟩⟩ ?_)
  have F_S0 : zz_fr [(1038, 1), (1038, 2), (1038, 3), (1039, 1), (1039, 2), (1039, 3), (1040, 3), (1040, 4), (1041, 3), (1041, 4)] [] (fun _ _ => False) S0 S0 := zz_fr.refl
  refine zz_lload_n (x := p0) rfl zd_9_5_0 ?_
  refine zz_iconst zd_9_5_1 ?_
  refine zz_callSI [zl p0, zi 0] zd_9_5_2 zk_Reaches_29 rfl rfl ⟨Nat.le_of_ble_eq_true rfl, Nat.le_of_ble_eq_true rfl⟩ ⟨rfl, rfl⟩ (Nat.zero_le _) (Nat.zero_le _) (zc_get_12_2x_0 p0 S0 n hn G_S0 (by omega)) (fun v2 S1 hP => ?_)
  obtain ⟨rfl, o3, o4⟩ := hP
  subst o4
  refine zz_istore [some (.ref 1037), some (zl p0), none, some (zi p1), some (zi (zz_fy p0 0 15))] zd_9_5_5 (by decide) rfl ?_
  refine zz_lload_n (x := p0) rfl zd_9_5_7 ?_
  refine zz_bipush (by decide) zd_9_5_8 ?_
  refine zz_callSI [zl p0, zi 6] zd_9_5_10 zk_Reaches_29 rfl rfl ⟨Nat.le_of_ble_eq_true rfl, Nat.le_of_ble_eq_true rfl⟩ ⟨rfl, rfl⟩ (Nat.zero_le _) (Nat.zero_le _) (zc_get_12_2x_6 p0 S0 n hn G_S0 (by omega)) (fun v6 S5 hP => ?_)
  obtain ⟨rfl, o7, o8⟩ := hP
  subst o8
  refine zz_iconst zd_9_5_13 ?_
  refine zz_isub zd_9_5_14 ?_
  refine zz_istore [some (.ref 1037), some (zl p0), none, some (zi p1), some (zi (zz_fy p0 0 15)), some (zi ((zz_fy p0 20 63) - 1))] zd_9_5_15 (by decide) rfl ?_
  refine zz_lload_n (x := p0) rfl zd_9_5_17 ?_
  refine zz_bipush (by decide) zd_9_5_18 ?_
  refine zz_callSI [zl p0, zi 7] zd_9_5_20 zk_Reaches_29 rfl rfl ⟨Nat.le_of_ble_eq_true rfl, Nat.le_of_ble_eq_true rfl⟩ ⟨rfl, rfl⟩ (Nat.zero_le _) (Nat.zero_le _) (zc_get_12_2x_7 p0 S0 n hn G_S0 (by omega)) (fun v10 S9 hP => ?_)
  obtain ⟨rfl, o11, o12⟩ := hP
  subst o12
  refine zz_iconst zd_9_5_23 ?_
  refine zz_isub zd_9_5_24 ?_
  refine zz_istore [some (.ref 1037), some (zl p0), none, some (zi p1), some (zi (zz_fy p0 0 15)), some (zi ((zz_fy p0 20 63) - 1)), some (zi ((zz_fy p0 26 31) - 1))] zd_9_5_25 (by decide) rfl ?_
  refine zz_lload_n (x := p0) rfl zd_9_5_27 ?_
  refine zz_bipush (by decide) zd_9_5_28 ?_
  refine zz_callSI [zl p0, zi 8] zd_9_5_30 zk_Reaches_29 rfl rfl ⟨Nat.le_of_ble_eq_true rfl, Nat.le_of_ble_eq_true rfl⟩ ⟨rfl, rfl⟩ (Nat.zero_le _) (Nat.zero_le _) (zc_get_12_2x_8 p0 S0 n hn G_S0 (by omega)) (fun v14 S13 hP => ?_)
  obtain ⟨rfl, o15, o16⟩ := hP
  subst o16
  refine zz_istore [some (.ref 1037), some (zl p0), none, some (zi p1), some (zi (zz_fy p0 0 15)), some (zi ((zz_fy p0 20 63) - 1)), some (zi ((zz_fy p0 26 31) - 1)), some (zi (zz_fy p0 31 511))] zd_9_5_33 (by decide) rfl ?_
  refine zz_lload_n (x := p0) rfl zd_9_5_35 ?_
  refine zz_bipush (by decide) zd_9_5_36 ?_
  refine zz_callSI [zl p0, zi 9] zd_9_5_38 zk_Reaches_29 rfl rfl ⟨Nat.le_of_ble_eq_true rfl, Nat.le_of_ble_eq_true rfl⟩ ⟨rfl, rfl⟩ (Nat.zero_le _) (Nat.zero_le _) (zc_get_12_2x_9 p0 S0 n hn G_S0 (by omega)) (fun v18 S17 hP => ?_)
  obtain ⟨rfl, o19, o20⟩ := hP
  subst o20
  refine zz_istore [some (.ref 1037), some (zl p0), none, some (zi p1), some (zi (zz_fy p0 0 15)), some (zi ((zz_fy p0 20 63) - 1)), some (zi ((zz_fy p0 26 31) - 1)), some (zi (zz_fy p0 31 511)), some (zi (zz_fy p0 40 511))] zd_9_5_41 (by decide) rfl ?_
  refine zz_lload_n (x := p0) rfl zd_9_5_43 ?_
  refine zz_bipush (by decide) zd_9_5_44 ?_
  refine zz_callSI [zl p0, zi 11] zd_9_5_46 zk_Reaches_29 rfl rfl ⟨Nat.le_of_ble_eq_true rfl, Nat.le_of_ble_eq_true rfl⟩ ⟨rfl, rfl⟩ (Nat.zero_le _) (Nat.zero_le _) (zc_get_12_2x_11 p0 S0 n hn G_S0 (by omega)) (fun v22 S21 hP => ?_)
  obtain ⟨rfl, o23, o24⟩ := hP
  subst o24
  refine zz_istore [some (.ref 1037), some (zl p0), none, some (zi p1), some (zi (zz_fy p0 0 15)), some (zi ((zz_fy p0 20 63) - 1)), some (zi ((zz_fy p0 26 31) - 1)), some (zi (zz_fy p0 31 511)), some (zi (zz_fy p0 40 511)), some (zi (zz_fy p0 59 31))] zd_9_5_49 (by decide) rfl ?_
  refine zz_iload (x := (zz_fy p0 20 63) - 1) rfl zd_9_5_51 ?_
  refine zz_iload_n (x := p1) rfl zd_9_5_53 ?_
  refine zz_imul zd_9_5_54 ?_
  have m25 := zz_mulh (a := (zz_fy p0 20 63) - 1) (b := p1) (-1) 62 8 (-8) 496 (by omega) (by omega) (by decide) (by decide) (by decide) (by decide)
  refine zz_iload (x := (zz_fy p0 26 31) - 1) rfl zd_9_5_55 ?_
  refine zz_iadd zd_9_5_57 ?_
  refine zz_nme (fun v26 ev26 => ?_)
  refine zz_istore [some (.ref 1037), some (zl p0), none, some (zi p1), some (zi (zz_fy p0 0 15)), some (zi ((zz_fy p0 20 63) - 1)), some (zi ((zz_fy p0 26 31) - 1)), some (zi (zz_fy p0 31 511)), some (zi (zz_fy p0 40 511)), some (zi (zz_fy p0 59 31)), some (zi v26)] zd_9_5_58 (by decide) rfl ?_
  refine zz_iload (x := zz_fy p0 0 15) rfl zd_9_5_60 ?_
  refine zz_iconst zd_9_5_62 ?_
  refine zz_icmp_ne (by omega) (by omega) zd_9_5_63 (fun c27 => ?_) (fun c27 => ?_)
  · refine zz_iload (x := zz_fy p0 0 15) rfl zd_9_5_130 ?_
    refine zz_bipush (by decide) zd_9_5_132 ?_
    refine zz_icmp_ne (by omega) (by omega) zd_9_5_134 (fun c28 => ?_) (fun c28 => ?_)
    · refine zz_iload (x := zz_fy p0 0 15) rfl zd_9_5_167 ?_
      refine zz_bipush (by decide) zd_9_5_169 ?_
      refine zz_icmp_ne (by omega) (by omega) zd_9_5_171 (fun c29 => ?_) (fun c29 => ?_)
      · have g30 := zz_G.r G_S0 1039 0 (-2147483648) 2147483647 rfl rfl
        have g31 := zz_G.r G_S0 1039 1 (-2147483648) 2147483647 rfl rfl
        have g32 := zz_G.r G_S0 1039 2 (-2147483648) 2147483647 rfl rfl
        have g33 := zz_G.r G_S0 1039 3 (-2147483648) 2147483647 rfl rfl
        have g34 := zz_G.r G_S0 1039 4 (-2147483648) 2147483647 rfl rfl
        have g35 := zz_G.r G_S0 1041 0 (-2147483648) 2147483647 rfl rfl
        have g36 := zz_G.r G_S0 1041 1 (-2147483648) 2147483647 rfl rfl
        have g37 := zz_G.r G_S0 1041 2 (-2147483648) 2147483647 rfl rfl
        have g38 := zz_G.r G_S0 1041 3 (-2147483648) 2147483647 rfl rfl
        have g39 := zz_G.r G_S0 1041 4 (-2147483648) 2147483647 rfl rfl
        exact zz_vret zd_9_5_192 rfl (Nat.zero_le _) (Nat.zero_le _) ⟨_, rfl, G_S0, F_S0, by omega, by omega, by omega, by omega⟩
      · refine zz_aload_n (x := 1037) rfl zd_9_5_174 ?_
        refine zz_iconst zd_9_5_175 ?_
        refine zz_iload (x := zz_fy p0 31 511) rfl zd_9_5_176 ?_
        refine zz_iload (x := v26) rfl zd_9_5_178 ?_
        refine zz_callVV [zi 3, zi (zz_fy p0 31 511), zi v26] zd_9_5_180 zk_Reaches_33 zT_1037 (zz_ltn hn rfl) rfl rfl ⟨Nat.le_of_ble_eq_true rfl, Nat.le_of_ble_eq_true rfl⟩ ⟨rfl, rfl⟩ (Nat.zero_le _) (Nat.zero_le _) (zc_reads_9_8x_1037_3 (zz_fy p0 31 511) v26 S0 n hn G_S0 (by omega) (by omega)) (fun S40 hP => ?_)
        obtain ⟨G_S40, fS40, o42⟩ := hP
        have F_S40 := zz_fr.trans F_S0 fS40 rfl zz_nv
        refine zz_aload_n (x := 1037) rfl zd_9_5_183 ?_
        refine zz_iconst zd_9_5_184 ?_
        refine zz_iload (x := zz_fy p0 40 511) rfl zd_9_5_185 ?_
        refine zz_iload (x := v26) rfl zd_9_5_187 ?_
        refine zz_callVV [zi 4, zi (zz_fy p0 40 511), zi v26] zd_9_5_189 zk_Reaches_37 zT_1037 (zz_ltn hn rfl) rfl rfl ⟨Nat.le_of_ble_eq_true rfl, Nat.le_of_ble_eq_true rfl⟩ ⟨rfl, rfl⟩ (Nat.zero_le _) (Nat.zero_le _) (zc_writes_9_9x_1037_4 (zz_fy p0 40 511) v26 S40 n hn G_S40 (by omega) (by omega)) (fun S43 hP => ?_)
        obtain ⟨G_S43, fS43, o45⟩ := hP
        have F_S43 := zz_fr.trans F_S40 fS43 rfl zz_nv
        have g46 := zz_G.r G_S0 1039 0 (-2147483648) 2147483647 rfl rfl
        have e47 : S43 1039 0 = S0 1039 0 := (zz_rc fS43 rfl rfl (fun h => h) (zz_rc fS40 rfl rfl (fun h => h) rfl))
        have g48 := zz_G.r G_S0 1039 1 (-2147483648) 2147483647 rfl rfl
        have e49 : S43 1039 1 = S0 1039 1 := (zz_rc fS43 rfl rfl (fun h => h) (zz_rc fS40 rfl rfl (fun h => h) rfl))
        have g50 := zz_G.r G_S0 1039 2 (-2147483648) 2147483647 rfl rfl
        have e51 : S43 1039 2 = S0 1039 2 := (zz_rc fS43 rfl rfl (fun h => h) (zz_rc fS40 rfl rfl (fun h => h) rfl))
        have g52 := zz_G.r G_S40 1039 3 (-2147483648) 2147483647 rfl rfl
        have e53 : S43 1039 3 = S40 1039 3 := (zz_rc fS43 rfl rfl (fun h => h) rfl)
        have g54 := zz_G.r G_S0 1039 4 (-2147483648) 2147483647 rfl rfl
        have e55 : S43 1039 4 = S0 1039 4 := (zz_rc fS43 rfl rfl (fun h => h) (zz_rc fS40 rfl rfl (fun h => h) rfl))
        have g56 := zz_G.r G_S0 1041 0 (-2147483648) 2147483647 rfl rfl
        have e57 : S43 1041 0 = S0 1041 0 := (zz_rc fS43 rfl rfl (fun h => h) (zz_rc fS40 rfl rfl (fun h => h) rfl))
        have g58 := zz_G.r G_S0 1041 1 (-2147483648) 2147483647 rfl rfl
        have e59 : S43 1041 1 = S0 1041 1 := (zz_rc fS43 rfl rfl (fun h => h) (zz_rc fS40 rfl rfl (fun h => h) rfl))
        have g60 := zz_G.r G_S0 1041 2 (-2147483648) 2147483647 rfl rfl
        have e61 : S43 1041 2 = S0 1041 2 := (zz_rc fS43 rfl rfl (fun h => h) (zz_rc fS40 rfl rfl (fun h => h) rfl))
        have g62 := zz_G.r G_S0 1041 3 (-2147483648) 2147483647 rfl rfl
        have e63 : S43 1041 3 = S0 1041 3 := (zz_rc fS43 rfl rfl (fun h => h) (zz_rc fS40 rfl rfl (fun h => h) rfl))
        have g64 := zz_G.r G_S43 1041 4 (-2147483648) 2147483647 rfl rfl
        exact zz_vret zd_9_5_192 rfl (Nat.zero_le _) (Nat.zero_le _) ⟨_, rfl, G_S43, F_S43, by omega, by omega, by omega, by omega⟩
    · refine zz_aload_n (x := 1037) rfl zd_9_5_137 ?_
      refine zz_iconst zd_9_5_138 ?_
      refine zz_iload (x := zz_fy p0 31 511) rfl zd_9_5_139 ?_
      refine zz_iload (x := v26) rfl zd_9_5_141 ?_
      refine zz_callVV [zi 1, zi (zz_fy p0 31 511), zi v26] zd_9_5_143 zk_Reaches_33 zT_1037 (zz_ltn hn rfl) rfl rfl ⟨Nat.le_of_ble_eq_true rfl, Nat.le_of_ble_eq_true rfl⟩ ⟨rfl, rfl⟩ (Nat.zero_le _) (Nat.zero_le _) (zc_reads_9_8x_1037_1 (zz_fy p0 31 511) v26 S0 n hn G_S0 (by omega) (by omega)) (fun S65 hP => ?_)
      obtain ⟨G_S65, fS65, o67⟩ := hP
      have F_S65 := zz_fr.trans F_S0 fS65 rfl zz_nv
      refine zz_aload_n (x := 1037) rfl zd_9_5_146 ?_
      refine zz_iload (x := zz_fy p0 40 511) rfl zd_9_5_147 ?_
      refine zz_iload (x := v26) rfl zd_9_5_149 ?_
      refine zz_iload (x := zz_fy p0 59 31) rfl zd_9_5_151 ?_
      refine zz_if_le (by omega) zd_9_5_153 (fun c68 => ?_) (fun c68 => ?_)
      · refine zz_iconst zd_9_5_160 ?_
        have g69 := zz_G.r G_S0 1039 3 (-2147483648) 2147483647 rfl rfl
        have e70 : S65 1039 3 = S0 1039 3 := (zz_rc fS65 rfl rfl (fun h => h) rfl)
        refine zz_callVV [zi (zz_fy p0 40 511), zi v26, zi 0] zd_9_5_161 zk_Reaches_51 zT_1037 (zz_ltn hn rfl) rfl rfl ⟨Nat.le_of_ble_eq_true rfl, Nat.le_of_ble_eq_true rfl⟩ ⟨rfl, rfl⟩ (Nat.zero_le _) (Nat.zero_le _) (zc_workOnSums_9_6x_1037 (zz_fy p0 40 511) v26 0 S65 n hn G_S65 (by omega) (by omega) (by omega)) (fun S71 hP => ?_)
        obtain ⟨G_S71, fS71, o73, o74⟩ := hP
        have F_S71 := zz_fr.trans F_S65 fS71 rfl zz_nv
        refine zz_goto zd_9_5_164 ?_
        have g75 := zz_G.r G_S0 1039 0 (-2147483648) 2147483647 rfl rfl
        have e76 : S71 1039 0 = S0 1039 0 := (zz_rc fS71 rfl rfl (fun h => h) (zz_rc fS65 rfl rfl (fun h => h) rfl))
        have g77 := zz_G.r G_S65 1039 1 (-2147483648) 2147483647 rfl rfl
        have e78 : S71 1039 1 = S65 1039 1 := (zz_rc fS71 rfl rfl (fun h => h) rfl)
        have g79 := zz_G.r G_S0 1039 2 (-2147483648) 2147483647 rfl rfl
        have e80 : S71 1039 2 = S0 1039 2 := (zz_rc fS71 rfl rfl (fun h => h) (zz_rc fS65 rfl rfl (fun h => h) rfl))
        have g81 := zz_G.r G_S71 1039 3 (-2147483648) 2147483647 rfl rfl
        have g82 := zz_G.r G_S0 1039 4 (-2147483648) 2147483647 rfl rfl
        have e83 : S71 1039 4 = S0 1039 4 := (zz_rc fS71 rfl rfl (fun h => h) (zz_rc fS65 rfl rfl (fun h => h) rfl))
        have g84 := zz_G.r G_S0 1041 0 (-2147483648) 2147483647 rfl rfl
        have e85 : S71 1041 0 = S0 1041 0 := (zz_rc fS71 rfl rfl (fun h => h) (zz_rc fS65 rfl rfl (fun h => h) rfl))
        have g86 := zz_G.r G_S0 1041 1 (-2147483648) 2147483647 rfl rfl
        have e87 : S71 1041 1 = S0 1041 1 := (zz_rc fS71 rfl rfl (fun h => h) (zz_rc fS65 rfl rfl (fun h => h) rfl))
        have g88 := zz_G.r G_S0 1041 2 (-2147483648) 2147483647 rfl rfl
        have e89 : S71 1041 2 = S0 1041 2 := (zz_rc fS71 rfl rfl (fun h => h) (zz_rc fS65 rfl rfl (fun h => h) rfl))
        have g90 := zz_G.r G_S71 1041 3 (-2147483648) 2147483647 rfl rfl
        have g91 := zz_G.r G_S0 1041 4 (-2147483648) 2147483647 rfl rfl
        have e92 : S71 1041 4 = S0 1041 4 := (zz_rc fS71 rfl rfl (fun h => h) (zz_rc fS65 rfl rfl (fun h => h) rfl))
        exact zz_vret zd_9_5_192 rfl (Nat.zero_le _) (Nat.zero_le _) ⟨_, rfl, G_S71, F_S71, by omega, by omega, by omega, by omega⟩
      · refine zz_iconst zd_9_5_156 ?_
        refine zz_goto zd_9_5_157 ?_
        have g93 := zz_G.r G_S0 1039 3 (-2147483648) 2147483647 rfl rfl
        have e94 : S65 1039 3 = S0 1039 3 := (zz_rc fS65 rfl rfl (fun h => h) rfl)
        refine zz_callVV [zi (zz_fy p0 40 511), zi v26, zi 1] zd_9_5_161 zk_Reaches_51 zT_1037 (zz_ltn hn rfl) rfl rfl ⟨Nat.le_of_ble_eq_true rfl, Nat.le_of_ble_eq_true rfl⟩ ⟨rfl, rfl⟩ (Nat.zero_le _) (Nat.zero_le _) (zc_workOnSums_9_6x_1037 (zz_fy p0 40 511) v26 1 S65 n hn G_S65 (by omega) (by omega) (by omega)) (fun S95 hP => ?_)
        obtain ⟨G_S95, fS95, o97, o98⟩ := hP
        have F_S95 := zz_fr.trans F_S65 fS95 rfl zz_nv
        refine zz_goto zd_9_5_164 ?_
        have g99 := zz_G.r G_S0 1039 0 (-2147483648) 2147483647 rfl rfl
        have e100 : S95 1039 0 = S0 1039 0 := (zz_rc fS95 rfl rfl (fun h => h) (zz_rc fS65 rfl rfl (fun h => h) rfl))
        have g101 := zz_G.r G_S65 1039 1 (-2147483648) 2147483647 rfl rfl
        have e102 : S95 1039 1 = S65 1039 1 := (zz_rc fS95 rfl rfl (fun h => h) rfl)
        have g103 := zz_G.r G_S0 1039 2 (-2147483648) 2147483647 rfl rfl
        have e104 : S95 1039 2 = S0 1039 2 := (zz_rc fS95 rfl rfl (fun h => h) (zz_rc fS65 rfl rfl (fun h => h) rfl))
        have g105 := zz_G.r G_S95 1039 3 (-2147483648) 2147483647 rfl rfl
        have g106 := zz_G.r G_S0 1039 4 (-2147483648) 2147483647 rfl rfl
        have e107 : S95 1039 4 = S0 1039 4 := (zz_rc fS95 rfl rfl (fun h => h) (zz_rc fS65 rfl rfl (fun h => h) rfl))
        have g108 := zz_G.r G_S0 1041 0 (-2147483648) 2147483647 rfl rfl
        have e109 : S95 1041 0 = S0 1041 0 := (zz_rc fS95 rfl rfl (fun h => h) (zz_rc fS65 rfl rfl (fun h => h) rfl))
        have g110 := zz_G.r G_S0 1041 1 (-2147483648) 2147483647 rfl rfl
        have e111 : S95 1041 1 = S0 1041 1 := (zz_rc fS95 rfl rfl (fun h => h) (zz_rc fS65 rfl rfl (fun h => h) rfl))
        have g112 := zz_G.r G_S0 1041 2 (-2147483648) 2147483647 rfl rfl
        have e113 : S95 1041 2 = S0 1041 2 := (zz_rc fS95 rfl rfl (fun h => h) (zz_rc fS65 rfl rfl (fun h => h) rfl))
        have g114 := zz_G.r G_S95 1041 3 (-2147483648) 2147483647 rfl rfl
        have g115 := zz_G.r G_S0 1041 4 (-2147483648) 2147483647 rfl rfl
        have e116 : S95 1041 4 = S0 1041 4 := (zz_rc fS95 rfl rfl (fun h => h) (zz_rc fS65 rfl rfl (fun h => h) rfl))
        exact zz_vret zd_9_5_192 rfl (Nat.zero_le _) (Nat.zero_le _) ⟨_, rfl, G_S95, F_S95, by omega, by omega, by omega, by omega⟩
  · refine zz_iload (x := zz_fy p0 59 31) rfl zd_9_5_66 ?_
    refine zz_iconst zd_9_5_68 ?_
    refine zz_idiv (by omega) (by omega) zd_9_5_69 (fun v117 hv117 av117 bv117 cv117 => ?_)
    obtain rfl : v117 = (zz_fy p0 59 31) / 2 := by omega
    refine zz_iconst zd_9_5_70 ?_
    refine zz_isub zd_9_5_71 ?_
    refine zz_istore [some (.ref 1037), some (zl p0), none, some (zi p1), some (zi (zz_fy p0 0 15)), some (zi ((zz_fy p0 20 63) - 1)), some (zi ((zz_fy p0 26 31) - 1)), some (zi (zz_fy p0 31 511)), some (zi (zz_fy p0 40 511)), some (zi (zz_fy p0 59 31)), some (zi v26), some (zi (((zz_fy p0 59 31) / 2) - 1))] zd_9_5_72 (by decide) rfl ?_
    refine zz_aload_n (x := 1037) rfl zd_9_5_74 ?_
    refine zz_iconst zd_9_5_75 ?_
    refine zz_iload (x := zz_fy p0 31 511) rfl zd_9_5_76 ?_
    refine zz_iload (x := (zz_fy p0 20 63) - 1) rfl zd_9_5_78 ?_
    refine zz_iload_n (x := p1) rfl zd_9_5_80 ?_
    refine zz_imul zd_9_5_81 ?_
    have m118 := zz_mulh (a := (zz_fy p0 20 63) - 1) (b := p1) (-1) 62 8 (-8) 496 (by omega) (by omega) (by decide) (by decide) (by decide) (by decide)
    refine zz_iload (x := ((zz_fy p0 59 31) / 2) - 1) rfl zd_9_5_82 ?_
    refine zz_iadd zd_9_5_84 ?_
    refine zz_nme (fun v119 ev119 => ?_)
    refine zz_callVV [zi 1, zi (zz_fy p0 31 511), zi v119] zd_9_5_85 zk_Reaches_33 zT_1037 (zz_ltn hn rfl) rfl rfl ⟨Nat.le_of_ble_eq_true rfl, Nat.le_of_ble_eq_true rfl⟩ ⟨rfl, rfl⟩ (Nat.zero_le _) (Nat.zero_le _) (zc_reads_9_8x_1037_1 (zz_fy p0 31 511) v119 S0 n hn G_S0 (by omega) (by omega)) (fun S120 hP => ?_)
    obtain ⟨G_S120, fS120, o122⟩ := hP
    have F_S120 := zz_fr.trans F_S0 fS120 rfl zz_nv
    refine zz_aload_n (x := 1037) rfl zd_9_5_88 ?_
    refine zz_iconst zd_9_5_89 ?_
    refine zz_lload_n (x := p0) rfl zd_9_5_90 ?_
    refine zz_bipush (by decide) zd_9_5_91 ?_
    refine zz_callSI [zl p0, zi 10] zd_9_5_93 zk_Reaches_29 rfl rfl ⟨Nat.le_of_ble_eq_true rfl, Nat.le_of_ble_eq_true rfl⟩ ⟨rfl, rfl⟩ (Nat.zero_le _) (Nat.zero_le _) (zc_get_12_2x_10 p0 S120 n hn G_S120 (by omega)) (fun v124 S123 hP => ?_)
    obtain ⟨rfl, o125, o126⟩ := hP
    subst o126
    refine zz_iload (x := ((zz_fy p0 59 31) / 2) - 1) rfl zd_9_5_96 ?_
    refine zz_iload_n (x := p1) rfl zd_9_5_98 ?_
    refine zz_imul zd_9_5_99 ?_
    have m127 := zz_mulh (a := ((zz_fy p0 59 31) / 2) - 1) (b := p1) (-1) 14 8 (-8) 112 (by omega) (by omega) (by decide) (by decide) (by decide) (by decide)
    refine zz_iload (x := (zz_fy p0 26 31) - 1) rfl zd_9_5_100 ?_
    refine zz_iadd zd_9_5_102 ?_
    refine zz_nme (fun v128 ev128 => ?_)
    refine zz_callVV [zi 2, zi (zz_fy p0 49 1023), zi v128] zd_9_5_103 zk_Reaches_33 zT_1037 (zz_ltn hn rfl) rfl rfl ⟨Nat.le_of_ble_eq_true rfl, Nat.le_of_ble_eq_true rfl⟩ ⟨rfl, rfl⟩ (Nat.zero_le _) (Nat.zero_le _) (zc_reads_9_8x_1037_2 (zz_fy p0 49 1023) v128 S120 n hn G_S120 (by omega) (by omega)) (fun S129 hP => ?_)
    obtain ⟨G_S129, fS129, o131⟩ := hP
    have F_S129 := zz_fr.trans F_S120 fS129 rfl zz_nv
    refine zz_aload_n (x := 1037) rfl zd_9_5_106 ?_
    refine zz_iload (x := zz_fy p0 40 511) rfl zd_9_5_107 ?_
    refine zz_iload (x := v26) rfl zd_9_5_109 ?_
    refine zz_iload (x := zz_fy p0 59 31) rfl zd_9_5_111 ?_
    refine zz_iconst zd_9_5_113 ?_
    refine zz_iand (by omega) (by omega) zd_9_5_114 (fun v132 hv132 av132 bv132 ev132 => ?_)
    refine zz_iconst zd_9_5_115 ?_
    refine zz_icmp_ne (by omega) (by omega) zd_9_5_116 (fun c133 => ?_) (fun c133 => ?_)
    · refine zz_iconst zd_9_5_123 ?_
      have g134 := zz_G.r G_S0 1039 3 (-2147483648) 2147483647 rfl rfl
      have e135 : S129 1039 3 = S0 1039 3 := (zz_rc fS129 rfl rfl (fun h => h) (zz_rc fS120 rfl rfl (fun h => h) rfl))
      refine zz_callVV [zi (zz_fy p0 40 511), zi v26, zi 0] zd_9_5_124 zk_Reaches_51 zT_1037 (zz_ltn hn rfl) rfl rfl ⟨Nat.le_of_ble_eq_true rfl, Nat.le_of_ble_eq_true rfl⟩ ⟨rfl, rfl⟩ (Nat.zero_le _) (Nat.zero_le _) (zc_workOnSums_9_6x_1037 (zz_fy p0 40 511) v26 0 S129 n hn G_S129 (by omega) (by omega) (by omega)) (fun S136 hP => ?_)
      obtain ⟨G_S136, fS136, o138, o139⟩ := hP
      have F_S136 := zz_fr.trans F_S129 fS136 rfl zz_nv
      refine zz_goto zd_9_5_127 ?_
      have g140 := zz_G.r G_S0 1039 0 (-2147483648) 2147483647 rfl rfl
      have e141 : S136 1039 0 = S0 1039 0 := (zz_rc fS136 rfl rfl (fun h => h) (zz_rc fS129 rfl rfl (fun h => h) (zz_rc fS120 rfl rfl (fun h => h) rfl)))
      have g142 := zz_G.r G_S120 1039 1 (-2147483648) 2147483647 rfl rfl
      have e143 : S136 1039 1 = S120 1039 1 := (zz_rc fS136 rfl rfl (fun h => h) (zz_rc fS129 rfl rfl (fun h => h) rfl))
      have g144 := zz_G.r G_S129 1039 2 (-2147483648) 2147483647 rfl rfl
      have e145 : S136 1039 2 = S129 1039 2 := (zz_rc fS136 rfl rfl (fun h => h) rfl)
      have g146 := zz_G.r G_S136 1039 3 (-2147483648) 2147483647 rfl rfl
      have g147 := zz_G.r G_S0 1039 4 (-2147483648) 2147483647 rfl rfl
      have e148 : S136 1039 4 = S0 1039 4 := (zz_rc fS136 rfl rfl (fun h => h) (zz_rc fS129 rfl rfl (fun h => h) (zz_rc fS120 rfl rfl (fun h => h) rfl)))
      have g149 := zz_G.r G_S0 1041 0 (-2147483648) 2147483647 rfl rfl
      have e150 : S136 1041 0 = S0 1041 0 := (zz_rc fS136 rfl rfl (fun h => h) (zz_rc fS129 rfl rfl (fun h => h) (zz_rc fS120 rfl rfl (fun h => h) rfl)))
      have g151 := zz_G.r G_S0 1041 1 (-2147483648) 2147483647 rfl rfl
      have e152 : S136 1041 1 = S0 1041 1 := (zz_rc fS136 rfl rfl (fun h => h) (zz_rc fS129 rfl rfl (fun h => h) (zz_rc fS120 rfl rfl (fun h => h) rfl)))
      have g153 := zz_G.r G_S0 1041 2 (-2147483648) 2147483647 rfl rfl
      have e154 : S136 1041 2 = S0 1041 2 := (zz_rc fS136 rfl rfl (fun h => h) (zz_rc fS129 rfl rfl (fun h => h) (zz_rc fS120 rfl rfl (fun h => h) rfl)))
      have g155 := zz_G.r G_S136 1041 3 (-2147483648) 2147483647 rfl rfl
      have g156 := zz_G.r G_S0 1041 4 (-2147483648) 2147483647 rfl rfl
      have e157 : S136 1041 4 = S0 1041 4 := (zz_rc fS136 rfl rfl (fun h => h) (zz_rc fS129 rfl rfl (fun h => h) (zz_rc fS120 rfl rfl (fun h => h) rfl)))
      exact zz_vret zd_9_5_192 rfl (Nat.zero_le _) (Nat.zero_le _) ⟨_, rfl, G_S136, F_S136, by omega, by omega, by omega, by omega⟩
    · refine zz_iconst zd_9_5_119 ?_
      refine zz_goto zd_9_5_120 ?_
      have g158 := zz_G.r G_S0 1039 3 (-2147483648) 2147483647 rfl rfl
      have e159 : S129 1039 3 = S0 1039 3 := (zz_rc fS129 rfl rfl (fun h => h) (zz_rc fS120 rfl rfl (fun h => h) rfl))
      refine zz_callVV [zi (zz_fy p0 40 511), zi v26, zi 1] zd_9_5_124 zk_Reaches_51 zT_1037 (zz_ltn hn rfl) rfl rfl ⟨Nat.le_of_ble_eq_true rfl, Nat.le_of_ble_eq_true rfl⟩ ⟨rfl, rfl⟩ (Nat.zero_le _) (Nat.zero_le _) (zc_workOnSums_9_6x_1037 (zz_fy p0 40 511) v26 1 S129 n hn G_S129 (by omega) (by omega) (by omega)) (fun S160 hP => ?_)
      obtain ⟨G_S160, fS160, o162, o163⟩ := hP
      have F_S160 := zz_fr.trans F_S129 fS160 rfl zz_nv
      refine zz_goto zd_9_5_127 ?_
      have g164 := zz_G.r G_S0 1039 0 (-2147483648) 2147483647 rfl rfl
      have e165 : S160 1039 0 = S0 1039 0 := (zz_rc fS160 rfl rfl (fun h => h) (zz_rc fS129 rfl rfl (fun h => h) (zz_rc fS120 rfl rfl (fun h => h) rfl)))
      have g166 := zz_G.r G_S120 1039 1 (-2147483648) 2147483647 rfl rfl
      have e167 : S160 1039 1 = S120 1039 1 := (zz_rc fS160 rfl rfl (fun h => h) (zz_rc fS129 rfl rfl (fun h => h) rfl))
      have g168 := zz_G.r G_S129 1039 2 (-2147483648) 2147483647 rfl rfl
      have e169 : S160 1039 2 = S129 1039 2 := (zz_rc fS160 rfl rfl (fun h => h) rfl)
      have g170 := zz_G.r G_S160 1039 3 (-2147483648) 2147483647 rfl rfl
      have g171 := zz_G.r G_S0 1039 4 (-2147483648) 2147483647 rfl rfl
      have e172 : S160 1039 4 = S0 1039 4 := (zz_rc fS160 rfl rfl (fun h => h) (zz_rc fS129 rfl rfl (fun h => h) (zz_rc fS120 rfl rfl (fun h => h) rfl)))
      have g173 := zz_G.r G_S0 1041 0 (-2147483648) 2147483647 rfl rfl
      have e174 : S160 1041 0 = S0 1041 0 := (zz_rc fS160 rfl rfl (fun h => h) (zz_rc fS129 rfl rfl (fun h => h) (zz_rc fS120 rfl rfl (fun h => h) rfl)))
      have g175 := zz_G.r G_S0 1041 1 (-2147483648) 2147483647 rfl rfl
      have e176 : S160 1041 1 = S0 1041 1 := (zz_rc fS160 rfl rfl (fun h => h) (zz_rc fS129 rfl rfl (fun h => h) (zz_rc fS120 rfl rfl (fun h => h) rfl)))
      have g177 := zz_G.r G_S0 1041 2 (-2147483648) 2147483647 rfl rfl
      have e178 : S160 1041 2 = S0 1041 2 := (zz_rc fS160 rfl rfl (fun h => h) (zz_rc fS129 rfl rfl (fun h => h) (zz_rc fS120 rfl rfl (fun h => h) rfl)))
      have g179 := zz_G.r G_S160 1041 3 (-2147483648) 2147483647 rfl rfl
      have g180 := zz_G.r G_S0 1041 4 (-2147483648) 2147483647 rfl rfl
      have e181 : S160 1041 4 = S0 1041 4 := (zz_rc fS160 rfl rfl (fun h => h) (zz_rc fS129 rfl rfl (fun h => h) (zz_rc fS120 rfl rfl (fun h => h) rfl)))
      exact zz_vret zd_9_5_192 rfl (Nat.zero_le _) (Nat.zero_le _) ⟨_, rfl, G_S160, F_S160, by omega, by omega, by omega, by omega⟩
theorem zk_Reaches_40 : mm_Vl "TensorForge$Reaches" 40 4 2 zy_takeWork_9_5 := ⟨zyw_takeWork_9_5, (R_Reaches, F_Reaches, 4), rfl, mm_tb_1 543 (by decide +kernel) rfl, mm_tb_1 545 (by decide +kernel) rfl, mm_tb_s 5 (by decide +kernel) rfl⟩
theorem zg_9_2_205 : zq_at zy_take_9_2.2.1 205 42 ∧ zq_at zy_take_9_2.2.1 206 7 ∧ zq_at zy_take_9_2.2.1 207 21 ∧ zq_at zy_take_9_2.2.1 208 9 ∧ zq_at zy_take_9_2.2.1 209 21 ∧ zq_at zy_take_9_2.2.1 210 10 ∧ zq_at zy_take_9_2.2.1 211 182 ∧ zq_at zy_take_9_2.2.1 212 0 ∧ zq_at zy_take_9_2.2.1 213 33 := by decide +kernel
theorem zd_9_2_205 : zz_D zy_take_9_2 205 (.aload_n 0) 1 206 := ⟨zq_42 zg_9_2_205.1, rfl⟩
theorem zd_9_2_206 : zz_D zy_take_9_2 206 (.iconst 4) 1 207 := ⟨zq_7 zg_9_2_205.2.1, rfl⟩
theorem zd_9_2_207 : zz_D zy_take_9_2 207 (.iload 9) 2 209 := ⟨zq_21 zg_9_2_205.2.2.1 zg_9_2_205.2.2.2.1, rfl⟩
theorem zd_9_2_209 : zz_D zy_take_9_2 209 (.iload 10) 2 211 := ⟨zq_21 zg_9_2_205.2.2.2.2.1 zg_9_2_205.2.2.2.2.2.1, rfl⟩
theorem zd_9_2_211 : zz_D zy_take_9_2 211 (.invokevirtual 33) 3 214 := ⟨zq_182 zg_9_2_205.2.2.2.2.2.2.1 zg_9_2_205.2.2.2.2.2.2.2.1 zg_9_2_205.2.2.2.2.2.2.2.2 rfl, rfl⟩

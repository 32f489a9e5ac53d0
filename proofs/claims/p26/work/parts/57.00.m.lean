-- TensorForgeModel isBusy (II)Z
abbrev zr_isBusy_14_39 : Room := { frames := 0, cells := 0, slots := 0, locals := 0 }
def zp_isBusy_14_39 (p0 : Int) (p1 : Int) (S0 : zz_S) : Int → zz_S → Prop := fun r S => S0 = S ∧ (0 ≤ r ∧ r ≤ 1) ∧ (r = 1 → p1 < 2147483647)
theorem zc_isBusy_14_39 {g : mm_G} {l : Launch} (p0 : Int) (p1 : Int) (S0 : zz_S) (n : Nat) (hn : zz_end ≤ n) (G_S0 : zz_G S0) (hp0 : 0 ≤ p0 ∧ p0 ≤ 2) (hp1 : (-2147483648) ≤ p1 ∧ p1 ≤ 2147483647) : mm_Met g l zy_isBusy_14_39 zr_isBusy_14_39 [.ref 1079, zi p0, zi p1] (zz_M S0 n) n (zz_QI n (zp_isBusy_14_39 p0 p1 S0)) := by
  refine zz_enter (by decide) (Nat.le_of_ble_eq_true rfl) (zz_less (ls1 := [some (.ref 1079), some (zi p0), some (zi p1)]) ⟨rfl, ⟨rfl, ⟨rfl, trivial⟩⟩⟩ ?_)
  refine zz_aload_n (x := 1079) rfl zd_14_39_0 ?_
  refine zz_getr (kd := 0) (z := 1097) zd_14_39_1 zf_Md_70 zT_1079 rfl (zz_ltn hn rfl) (zz_G.eq G_S0 1079 25 1097 rfl rfl) (by decide) 1097 rfl ?_
  refine zz_iload_n (x := p0) rfl zd_14_39_4 ?_
  have g1 := zz_G.r G_S0 1097 p0.toNat (-1) 600 rfl rfl
  refine zz_iald (z := S0 1097 p0.toNat) zd_14_39_5 zT_1097 rfl (zz_ltn hn rfl) (by decide) (by omega) rfl ?_
  refine zz_if_lt (by omega) zd_14_39_6 (fun c2 => ?_) (fun c2 => ?_)
  · refine zz_iconst zd_14_39_28 ?_
    exact zz_zret zd_14_39_29 rfl (by omega) (Nat.zero_le _) (Nat.zero_le _) ⟨_, _, rfl, rfl, by omega, by omega⟩
  · refine zz_aload_n (x := 1079) rfl zd_14_39_9 ?_
    refine zz_getr (kd := 0) (z := 1094) zd_14_39_10 zf_Md_60 zT_1079 rfl (zz_ltn hn rfl) (zz_G.eq G_S0 1079 22 1094 rfl rfl) (by decide) 1094 rfl ?_
    refine zz_aload_n (x := 1079) rfl zd_14_39_13 ?_
    refine zz_getr (kd := 0) (z := 1097) zd_14_39_14 zf_Md_70 zT_1079 rfl (zz_ltn hn rfl) (zz_G.eq G_S0 1079 25 1097 rfl rfl) (by decide) 1097 rfl ?_
    refine zz_iload_n (x := p0) rfl zd_14_39_17 ?_
    refine zz_iald (z := S0 1097 p0.toNat) zd_14_39_18 zT_1097 rfl (zz_ltn hn rfl) (by decide) (by omega) rfl ?_
    have g3 := zz_G.r G_S0 1094 ((S0 1097 p0.toNat).toNat) (-2147483648) 2147483647 rfl rfl
    refine zz_iald (z := S0 1094 ((S0 1097 p0.toNat).toNat)) zd_14_39_19 zT_1094 rfl (zz_ltn hn rfl) (by decide) (by omega) rfl ?_
    refine zz_iload_n (x := p1) rfl zd_14_39_20 ?_
    refine zz_icmp_le (by omega) (by omega) zd_14_39_21 (fun c4 => ?_) (fun c4 => ?_)
    · refine zz_iconst zd_14_39_28 ?_
      exact zz_zret zd_14_39_29 rfl (by omega) (Nat.zero_le _) (Nat.zero_le _) ⟨_, _, rfl, rfl, by omega, by omega⟩
    · refine zz_iconst zd_14_39_24 ?_
      refine zz_goto zd_14_39_25 ?_
      exact zz_zret zd_14_39_29 rfl (by omega) (Nat.zero_le _) (Nat.zero_le _) ⟨_, _, rfl, rfl, by omega, by omega⟩
abbrev zy_startRun_14_40 : mm_Y := (⟨"TensorForgeModel", "startRun", "()V"⟩, prog_14_method_40_code, 2, none)
theorem zyw_startRun_14_40 : mm_Yw zy_startRun_14_40 0 := ⟨mm_tb_1 1926 (by decide +kernel) rfl, mm_tb_1 12 (by decide +kernel) rfl, ⟨by decide, by decide⟩, by decide +kernel⟩
theorem zf_Md_292 : mm_Fl "TensorForgeModel" 292 11 16 .int false := ⟨R_Md, F_Md, 69, t_Md, rfl, i_Md, by decide, mm_tb_1 1627 (by decide +kernel) rfl, rfl, t_Md_ok, n_Md, rfl, by decide +kernel⟩
theorem zf_Md_45 : mm_Fl "TensorForgeModel" 45 11 15 .int false := ⟨R_Md, F_Md, 69, t_Md, rfl, i_Md, by decide, mm_tb_1 1626 (by decide +kernel) rfl, rfl, t_Md_ok, n_Md, rfl, by decide +kernel⟩
theorem zf_Md_67 : mm_Fl "TensorForgeModel" 67 11 24 (.array .int) true := ⟨R_Md, F_Md, 69, t_Md, rfl, i_Md, by decide, mm_tb_1 1635 (by decide +kernel) rfl, rfl, t_Md_ok, n_Md, rfl, by decide +kernel⟩
theorem zg_14_40_0 : zq_at zy_startRun_14_40.2.1 0 42 ∧ zq_at zy_startRun_14_40.2.1 1 42 ∧ zq_at zy_startRun_14_40.2.1 2 180 ∧ zq_at zy_startRun_14_40.2.1 3 0 ∧ zq_at zy_startRun_14_40.2.1 4 224 ∧ zq_at zy_startRun_14_40.2.1 5 181 ∧ zq_at zy_startRun_14_40.2.1 6 1 ∧ zq_at zy_startRun_14_40.2.1 7 16 ∧ zq_at zy_startRun_14_40.2.1 8 42 ∧ zq_at zy_startRun_14_40.2.1 9 3 ∧ zq_at zy_startRun_14_40.2.1 10 181 ∧ zq_at zy_startRun_14_40.2.1 11 1 ∧ zq_at zy_startRun_14_40.2.1 12 36 ∧ zq_at zy_startRun_14_40.2.1 13 42 ∧ zq_at zy_startRun_14_40.2.1 14 2 ∧ zq_at zy_startRun_14_40.2.1 15 181 ∧ zq_at zy_startRun_14_40.2.1 16 0 ∧ zq_at zy_startRun_14_40.2.1 17 45 ∧ zq_at zy_startRun_14_40.2.1 18 3 ∧ zq_at zy_startRun_14_40.2.1 19 60 ∧ zq_at zy_startRun_14_40.2.1 20 27 ∧ zq_at zy_startRun_14_40.2.1 21 7 := by decide +kernel
theorem zd_14_40_0 : zz_D zy_startRun_14_40 0 (.aload_n 0) 1 1 := ⟨zq_42 zg_14_40_0.1, rfl⟩
theorem zd_14_40_1 : zz_D zy_startRun_14_40 1 (.aload_n 0) 1 2 := ⟨zq_42 zg_14_40_0.2.1, rfl⟩
theorem zd_14_40_2 : zz_D zy_startRun_14_40 2 (.getfield 224) 3 5 := ⟨zq_180 zg_14_40_0.2.2.1 zg_14_40_0.2.2.2.1 zg_14_40_0.2.2.2.2.1 rfl, rfl⟩
theorem zd_14_40_5 : zz_D zy_startRun_14_40 5 (.putfield 272) 3 8 := ⟨zq_181 zg_14_40_0.2.2.2.2.2.1 zg_14_40_0.2.2.2.2.2.2.1 zg_14_40_0.2.2.2.2.2.2.2.1 rfl, rfl⟩
theorem zd_14_40_8 : zz_D zy_startRun_14_40 8 (.aload_n 0) 1 9 := ⟨zq_42 zg_14_40_0.2.2.2.2.2.2.2.2.1, rfl⟩
theorem zd_14_40_9 : zz_D zy_startRun_14_40 9 (.iconst 0) 1 10 := ⟨zq_3 zg_14_40_0.2.2.2.2.2.2.2.2.2.1, rfl⟩
theorem zd_14_40_10 : zz_D zy_startRun_14_40 10 (.putfield 292) 3 13 := ⟨zq_181 zg_14_40_0.2.2.2.2.2.2.2.2.2.2.1 zg_14_40_0.2.2.2.2.2.2.2.2.2.2.2.1 zg_14_40_0.2.2.2.2.2.2.2.2.2.2.2.2.1 rfl, rfl⟩
theorem zd_14_40_13 : zz_D zy_startRun_14_40 13 (.aload_n 0) 1 14 := ⟨zq_42 zg_14_40_0.2.2.2.2.2.2.2.2.2.2.2.2.2.1, rfl⟩
theorem zd_14_40_14 : zz_D zy_startRun_14_40 14 (.iconst (-1)) 1 15 := ⟨zq_2 zg_14_40_0.2.2.2.2.2.2.2.2.2.2.2.2.2.2.1, rfl⟩
theorem zd_14_40_15 : zz_D zy_startRun_14_40 15 (.putfield 45) 3 18 := ⟨zq_181 zg_14_40_0.2.2.2.2.2.2.2.2.2.2.2.2.2.2.2.1 zg_14_40_0.2.2.2.2.2.2.2.2.2.2.2.2.2.2.2.2.1 zg_14_40_0.2.2.2.2.2.2.2.2.2.2.2.2.2.2.2.2.2.1 rfl, rfl⟩
theorem zd_14_40_18 : zz_D zy_startRun_14_40 18 (.iconst 0) 1 19 := ⟨zq_3 zg_14_40_0.2.2.2.2.2.2.2.2.2.2.2.2.2.2.2.2.2.2.1, rfl⟩
theorem zd_14_40_19 : zz_D zy_startRun_14_40 19 (.istore_n 1) 1 20 := ⟨zq_60 zg_14_40_0.2.2.2.2.2.2.2.2.2.2.2.2.2.2.2.2.2.2.2.1, rfl⟩
theorem zd_14_40_20 : zz_D zy_startRun_14_40 20 (.iload_n 1) 1 21 := ⟨zq_27 zg_14_40_0.2.2.2.2.2.2.2.2.2.2.2.2.2.2.2.2.2.2.2.2.1, rfl⟩
theorem zd_14_40_21 : zz_D zy_startRun_14_40 21 (.iconst 4) 1 22 := ⟨zq_7 zg_14_40_0.2.2.2.2.2.2.2.2.2.2.2.2.2.2.2.2.2.2.2.2.2, rfl⟩
theorem zg_14_40_22 : zq_at zy_startRun_14_40.2.1 22 162 ∧ zq_at zy_startRun_14_40.2.1 23 0 ∧ zq_at zy_startRun_14_40.2.1 24 16 ∧ zq_at zy_startRun_14_40.2.1 25 42 ∧ zq_at zy_startRun_14_40.2.1 26 180 ∧ zq_at zy_startRun_14_40.2.1 27 0 ∧ zq_at zy_startRun_14_40.2.1 28 51 ∧ zq_at zy_startRun_14_40.2.1 29 27 ∧ zq_at zy_startRun_14_40.2.1 30 3 ∧ zq_at zy_startRun_14_40.2.1 31 79 ∧ zq_at zy_startRun_14_40.2.1 32 132 ∧ zq_at zy_startRun_14_40.2.1 33 1 ∧ zq_at zy_startRun_14_40.2.1 34 1 ∧ zq_at zy_startRun_14_40.2.1 35 167 ∧ zq_at zy_startRun_14_40.2.1 36 255 ∧ zq_at zy_startRun_14_40.2.1 37 241 ∧ zq_at zy_startRun_14_40.2.1 38 3 ∧ zq_at zy_startRun_14_40.2.1 39 60 ∧ zq_at zy_startRun_14_40.2.1 40 27 ∧ zq_at zy_startRun_14_40.2.1 41 42 ∧ zq_at zy_startRun_14_40.2.1 42 180 ∧ zq_at zy_startRun_14_40.2.1 43 1 ∧ zq_at zy_startRun_14_40.2.1 44 16 := by decide +kernel
theorem zd_14_40_22 : zz_B zy_startRun_14_40 22 (Instr.if_icmp .ge) 38 25 := ⟨16, zq_162 zg_14_40_22.1 zg_14_40_22.2.1 zg_14_40_22.2.2.1 (by decide), rfl, rfl⟩
theorem zd_14_40_25 : zz_D zy_startRun_14_40 25 (.aload_n 0) 1 26 := ⟨zq_42 zg_14_40_22.2.2.2.1, rfl⟩
theorem zd_14_40_26 : zz_D zy_startRun_14_40 26 (.getfield 51) 3 29 := ⟨zq_180 zg_14_40_22.2.2.2.2.1 zg_14_40_22.2.2.2.2.2.1 zg_14_40_22.2.2.2.2.2.2.1 rfl, rfl⟩
theorem zd_14_40_29 : zz_D zy_startRun_14_40 29 (.iload_n 1) 1 30 := ⟨zq_27 zg_14_40_22.2.2.2.2.2.2.2.1, rfl⟩
theorem zd_14_40_30 : zz_D zy_startRun_14_40 30 (.iconst 0) 1 31 := ⟨zq_3 zg_14_40_22.2.2.2.2.2.2.2.2.1, rfl⟩
theorem zd_14_40_31 : zz_D zy_startRun_14_40 31 (.iastore) 1 32 := ⟨zq_79 zg_14_40_22.2.2.2.2.2.2.2.2.2.1, rfl⟩
theorem zd_14_40_32 : zz_D zy_startRun_14_40 32 (.iinc 1 1) 3 35 := ⟨zq_132 zg_14_40_22.2.2.2.2.2.2.2.2.2.2.1 zg_14_40_22.2.2.2.2.2.2.2.2.2.2.2.1 zg_14_40_22.2.2.2.2.2.2.2.2.2.2.2.2.1 (by decide), rfl⟩
theorem zd_14_40_35 : zz_B zy_startRun_14_40 35 Instr.goto 20 38 := ⟨(-15), zq_167 zg_14_40_22.2.2.2.2.2.2.2.2.2.2.2.2.2.1 zg_14_40_22.2.2.2.2.2.2.2.2.2.2.2.2.2.2.1 zg_14_40_22.2.2.2.2.2.2.2.2.2.2.2.2.2.2.2.1 (by decide), rfl, rfl⟩
theorem zd_14_40_38 : zz_D zy_startRun_14_40 38 (.iconst 0) 1 39 := ⟨zq_3 zg_14_40_22.2.2.2.2.2.2.2.2.2.2.2.2.2.2.2.2.1, rfl⟩
theorem zd_14_40_39 : zz_D zy_startRun_14_40 39 (.istore_n 1) 1 40 := ⟨zq_60 zg_14_40_22.2.2.2.2.2.2.2.2.2.2.2.2.2.2.2.2.2.1, rfl⟩
theorem zd_14_40_40 : zz_D zy_startRun_14_40 40 (.iload_n 1) 1 41 := ⟨zq_27 zg_14_40_22.2.2.2.2.2.2.2.2.2.2.2.2.2.2.2.2.2.2.1, rfl⟩
theorem zd_14_40_41 : zz_D zy_startRun_14_40 41 (.aload_n 0) 1 42 := ⟨zq_42 zg_14_40_22.2.2.2.2.2.2.2.2.2.2.2.2.2.2.2.2.2.2.2.1, rfl⟩
theorem zd_14_40_42 : zz_D zy_startRun_14_40 42 (.getfield 272) 3 45 := ⟨zq_180 zg_14_40_22.2.2.2.2.2.2.2.2.2.2.2.2.2.2.2.2.2.2.2.2.1 zg_14_40_22.2.2.2.2.2.2.2.2.2.2.2.2.2.2.2.2.2.2.2.2.2.1 zg_14_40_22.2.2.2.2.2.2.2.2.2.2.2.2.2.2.2.2.2.2.2.2.2.2 rfl, rfl⟩
theorem zg_14_40_45 : zq_at zy_startRun_14_40.2.1 45 162 ∧ zq_at zy_startRun_14_40.2.1 46 0 ∧ zq_at zy_startRun_14_40.2.1 47 89 ∧ zq_at zy_startRun_14_40.2.1 134 3 ∧ zq_at zy_startRun_14_40.2.1 135 60 ∧ zq_at zy_startRun_14_40.2.1 136 27 ∧ zq_at zy_startRun_14_40.2.1 137 6 ∧ zq_at zy_startRun_14_40.2.1 138 162 ∧ zq_at zy_startRun_14_40.2.1 139 0 ∧ zq_at zy_startRun_14_40.2.1 140 35 ∧ zq_at zy_startRun_14_40.2.1 141 42 ∧ zq_at zy_startRun_14_40.2.1 142 180 ∧ zq_at zy_startRun_14_40.2.1 143 0 ∧ zq_at zy_startRun_14_40.2.1 144 48 ∧ zq_at zy_startRun_14_40.2.1 145 27 ∧ zq_at zy_startRun_14_40.2.1 146 3 ∧ zq_at zy_startRun_14_40.2.1 147 79 ∧ zq_at zy_startRun_14_40.2.1 148 42 ∧ zq_at zy_startRun_14_40.2.1 149 180 ∧ zq_at zy_startRun_14_40.2.1 150 0 ∧ zq_at zy_startRun_14_40.2.1 151 70 ∧ zq_at zy_startRun_14_40.2.1 152 27 ∧ zq_at zy_startRun_14_40.2.1 153 2 ∧ zq_at zy_startRun_14_40.2.1 154 79 := by decide +kernel
theorem zd_14_40_45 : zz_B zy_startRun_14_40 45 (Instr.if_icmp .ge) 134 48 := ⟨89, zq_162 zg_14_40_45.1 zg_14_40_45.2.1 zg_14_40_45.2.2.1 (by decide), rfl, rfl⟩
theorem zd_14_40_134 : zz_D zy_startRun_14_40 134 (.iconst 0) 1 135 := ⟨zq_3 zg_14_40_45.2.2.2.1, rfl⟩
theorem zd_14_40_135 : zz_D zy_startRun_14_40 135 (.istore_n 1) 1 136 := ⟨zq_60 zg_14_40_45.2.2.2.2.1, rfl⟩
theorem zd_14_40_136 : zz_D zy_startRun_14_40 136 (.iload_n 1) 1 137 := ⟨zq_27 zg_14_40_45.2.2.2.2.2.1, rfl⟩
theorem zd_14_40_137 : zz_D zy_startRun_14_40 137 (.iconst 3) 1 138 := ⟨zq_6 zg_14_40_45.2.2.2.2.2.2.1, rfl⟩
theorem zd_14_40_138 : zz_B zy_startRun_14_40 138 (Instr.if_icmp .ge) 173 141 := ⟨35, zq_162 zg_14_40_45.2.2.2.2.2.2.2.1 zg_14_40_45.2.2.2.2.2.2.2.2.1 zg_14_40_45.2.2.2.2.2.2.2.2.2.1 (by decide), rfl, rfl⟩
theorem zd_14_40_141 : zz_D zy_startRun_14_40 141 (.aload_n 0) 1 142 := ⟨zq_42 zg_14_40_45.2.2.2.2.2.2.2.2.2.2.1, rfl⟩
theorem zd_14_40_142 : zz_D zy_startRun_14_40 142 (.getfield 48) 3 145 := ⟨zq_180 zg_14_40_45.2.2.2.2.2.2.2.2.2.2.2.1 zg_14_40_45.2.2.2.2.2.2.2.2.2.2.2.2.1 zg_14_40_45.2.2.2.2.2.2.2.2.2.2.2.2.2.1 rfl, rfl⟩
theorem zd_14_40_145 : zz_D zy_startRun_14_40 145 (.iload_n 1) 1 146 := ⟨zq_27 zg_14_40_45.2.2.2.2.2.2.2.2.2.2.2.2.2.2.1, rfl⟩
theorem zd_14_40_146 : zz_D zy_startRun_14_40 146 (.iconst 0) 1 147 := ⟨zq_3 zg_14_40_45.2.2.2.2.2.2.2.2.2.2.2.2.2.2.2.1, rfl⟩
theorem zd_14_40_147 : zz_D zy_startRun_14_40 147 (.iastore) 1 148 := ⟨zq_79 zg_14_40_45.2.2.2.2.2.2.2.2.2.2.2.2.2.2.2.2.1, rfl⟩
theorem zd_14_40_148 : zz_D zy_startRun_14_40 148 (.aload_n 0) 1 149 := ⟨zq_42 zg_14_40_45.2.2.2.2.2.2.2.2.2.2.2.2.2.2.2.2.2.1, rfl⟩
theorem zd_14_40_149 : zz_D zy_startRun_14_40 149 (.getfield 70) 3 152 := ⟨zq_180 zg_14_40_45.2.2.2.2.2.2.2.2.2.2.2.2.2.2.2.2.2.2.1 zg_14_40_45.2.2.2.2.2.2.2.2.2.2.2.2.2.2.2.2.2.2.2.1 zg_14_40_45.2.2.2.2.2.2.2.2.2.2.2.2.2.2.2.2.2.2.2.2.1 rfl, rfl⟩
theorem zd_14_40_152 : zz_D zy_startRun_14_40 152 (.iload_n 1) 1 153 := ⟨zq_27 zg_14_40_45.2.2.2.2.2.2.2.2.2.2.2.2.2.2.2.2.2.2.2.2.2.1, rfl⟩
theorem zd_14_40_153 : zz_D zy_startRun_14_40 153 (.iconst (-1)) 1 154 := ⟨zq_2 zg_14_40_45.2.2.2.2.2.2.2.2.2.2.2.2.2.2.2.2.2.2.2.2.2.2.1, rfl⟩
theorem zd_14_40_154 : zz_D zy_startRun_14_40 154 (.iastore) 1 155 := ⟨zq_79 zg_14_40_45.2.2.2.2.2.2.2.2.2.2.2.2.2.2.2.2.2.2.2.2.2.2.2, rfl⟩
theorem zg_14_40_155 : zq_at zy_startRun_14_40.2.1 155 42 ∧ zq_at zy_startRun_14_40.2.1 156 180 ∧ zq_at zy_startRun_14_40.2.1 157 0 ∧ zq_at zy_startRun_14_40.2.1 158 73 ∧ zq_at zy_startRun_14_40.2.1 159 27 ∧ zq_at zy_startRun_14_40.2.1 160 2 ∧ zq_at zy_startRun_14_40.2.1 161 79 ∧ zq_at zy_startRun_14_40.2.1 162 42 ∧ zq_at zy_startRun_14_40.2.1 163 27 ∧ zq_at zy_startRun_14_40.2.1 164 182 ∧ zq_at zy_startRun_14_40.2.1 165 1 ∧ zq_at zy_startRun_14_40.2.1 166 32 ∧ zq_at zy_startRun_14_40.2.1 167 132 ∧ zq_at zy_startRun_14_40.2.1 168 1 ∧ zq_at zy_startRun_14_40.2.1 169 1 ∧ zq_at zy_startRun_14_40.2.1 170 167 ∧ zq_at zy_startRun_14_40.2.1 171 255 ∧ zq_at zy_startRun_14_40.2.1 172 222 ∧ zq_at zy_startRun_14_40.2.1 173 177 ∧ zq_at zy_startRun_14_40.2.1 48 42 ∧ zq_at zy_startRun_14_40.2.1 49 42 ∧ zq_at zy_startRun_14_40.2.1 50 180 ∧ zq_at zy_startRun_14_40.2.1 51 0 ∧ zq_at zy_startRun_14_40.2.1 52 29 := by decide +kernel
theorem zd_14_40_155 : zz_D zy_startRun_14_40 155 (.aload_n 0) 1 156 := ⟨zq_42 zg_14_40_155.1, rfl⟩
theorem zd_14_40_156 : zz_D zy_startRun_14_40 156 (.getfield 73) 3 159 := ⟨zq_180 zg_14_40_155.2.1 zg_14_40_155.2.2.1 zg_14_40_155.2.2.2.1 rfl, rfl⟩
theorem zd_14_40_159 : zz_D zy_startRun_14_40 159 (.iload_n 1) 1 160 := ⟨zq_27 zg_14_40_155.2.2.2.2.1, rfl⟩
theorem zd_14_40_160 : zz_D zy_startRun_14_40 160 (.iconst (-1)) 1 161 := ⟨zq_2 zg_14_40_155.2.2.2.2.2.1, rfl⟩
theorem zd_14_40_161 : zz_D zy_startRun_14_40 161 (.iastore) 1 162 := ⟨zq_79 zg_14_40_155.2.2.2.2.2.2.1, rfl⟩
theorem zd_14_40_162 : zz_D zy_startRun_14_40 162 (.aload_n 0) 1 163 := ⟨zq_42 zg_14_40_155.2.2.2.2.2.2.2.1, rfl⟩
theorem zd_14_40_163 : zz_D zy_startRun_14_40 163 (.iload_n 1) 1 164 := ⟨zq_27 zg_14_40_155.2.2.2.2.2.2.2.2.1, rfl⟩
theorem zd_14_40_164 : zz_D zy_startRun_14_40 164 (.invokevirtual 288) 3 167 := ⟨zq_182 zg_14_40_155.2.2.2.2.2.2.2.2.2.1 zg_14_40_155.2.2.2.2.2.2.2.2.2.2.1 zg_14_40_155.2.2.2.2.2.2.2.2.2.2.2.1 rfl, rfl⟩
theorem zd_14_40_167 : zz_D zy_startRun_14_40 167 (.iinc 1 1) 3 170 := ⟨zq_132 zg_14_40_155.2.2.2.2.2.2.2.2.2.2.2.2.1 zg_14_40_155.2.2.2.2.2.2.2.2.2.2.2.2.2.1 zg_14_40_155.2.2.2.2.2.2.2.2.2.2.2.2.2.2.1 (by decide), rfl⟩
theorem zd_14_40_170 : zz_B zy_startRun_14_40 170 Instr.goto 136 173 := ⟨(-34), zq_167 zg_14_40_155.2.2.2.2.2.2.2.2.2.2.2.2.2.2.2.1 zg_14_40_155.2.2.2.2.2.2.2.2.2.2.2.2.2.2.2.2.1 zg_14_40_155.2.2.2.2.2.2.2.2.2.2.2.2.2.2.2.2.2.1 (by decide), rfl, rfl⟩
theorem zd_14_40_173 : zz_D zy_startRun_14_40 173 (.return_) 1 174 := ⟨zq_177 zg_14_40_155.2.2.2.2.2.2.2.2.2.2.2.2.2.2.2.2.2.2.1, rfl⟩
theorem zd_14_40_48 : zz_D zy_startRun_14_40 48 (.aload_n 0) 1 49 := ⟨zq_42 zg_14_40_155.2.2.2.2.2.2.2.2.2.2.2.2.2.2.2.2.2.2.2.1, rfl⟩
theorem zd_14_40_49 : zz_D zy_startRun_14_40 49 (.aload_n 0) 1 50 := ⟨zq_42 zg_14_40_155.2.2.2.2.2.2.2.2.2.2.2.2.2.2.2.2.2.2.2.2.1, rfl⟩
theorem zd_14_40_50 : zz_D zy_startRun_14_40 50 (.getfield 29) 3 53 := ⟨zq_180 zg_14_40_155.2.2.2.2.2.2.2.2.2.2.2.2.2.2.2.2.2.2.2.2.2.1 zg_14_40_155.2.2.2.2.2.2.2.2.2.2.2.2.2.2.2.2.2.2.2.2.2.2.1 zg_14_40_155.2.2.2.2.2.2.2.2.2.2.2.2.2.2.2.2.2.2.2.2.2.2.2 rfl, rfl⟩
theorem zg_14_40_53 : zq_at zy_startRun_14_40.2.1 53 27 ∧ zq_at zy_startRun_14_40.2.1 54 47 ∧ zq_at zy_startRun_14_40.2.1 55 182 ∧ zq_at zy_startRun_14_40.2.1 56 0 ∧ zq_at zy_startRun_14_40.2.1 57 234 ∧ zq_at zy_startRun_14_40.2.1 58 42 ∧ zq_at zy_startRun_14_40.2.1 59 180 ∧ zq_at zy_startRun_14_40.2.1 60 0 ∧ zq_at zy_startRun_14_40.2.1 61 54 ∧ zq_at zy_startRun_14_40.2.1 62 27 ∧ zq_at zy_startRun_14_40.2.1 63 42 ∧ zq_at zy_startRun_14_40.2.1 64 182 ∧ zq_at zy_startRun_14_40.2.1 65 0 ∧ zq_at zy_startRun_14_40.2.1 66 243 ∧ zq_at zy_startRun_14_40.2.1 67 79 ∧ zq_at zy_startRun_14_40.2.1 68 42 ∧ zq_at zy_startRun_14_40.2.1 69 180 ∧ zq_at zy_startRun_14_40.2.1 70 0 ∧ zq_at zy_startRun_14_40.2.1 71 67 ∧ zq_at zy_startRun_14_40.2.1 72 27 ∧ zq_at zy_startRun_14_40.2.1 73 42 ∧ zq_at zy_startRun_14_40.2.1 74 180 ∧ zq_at zy_startRun_14_40.2.1 75 0 ∧ zq_at zy_startRun_14_40.2.1 76 36 := by decide +kernel
theorem zd_14_40_53 : zz_D zy_startRun_14_40 53 (.iload_n 1) 1 54 := ⟨zq_27 zg_14_40_53.1, rfl⟩
theorem zd_14_40_54 : zz_D zy_startRun_14_40 54 (.laload) 1 55 := ⟨zq_47 zg_14_40_53.2.1, rfl⟩
theorem zd_14_40_55 : zz_D zy_startRun_14_40 55 (.invokevirtual 234) 3 58 := ⟨zq_182 zg_14_40_53.2.2.1 zg_14_40_53.2.2.2.1 zg_14_40_53.2.2.2.2.1 rfl, rfl⟩
theorem zd_14_40_58 : zz_D zy_startRun_14_40 58 (.aload_n 0) 1 59 := ⟨zq_42 zg_14_40_53.2.2.2.2.2.1, rfl⟩
theorem zd_14_40_59 : zz_D zy_startRun_14_40 59 (.getfield 54) 3 62 := ⟨zq_180 zg_14_40_53.2.2.2.2.2.2.1 zg_14_40_53.2.2.2.2.2.2.2.1 zg_14_40_53.2.2.2.2.2.2.2.2.1 rfl, rfl⟩
theorem zd_14_40_62 : zz_D zy_startRun_14_40 62 (.iload_n 1) 1 63 := ⟨zq_27 zg_14_40_53.2.2.2.2.2.2.2.2.2.1, rfl⟩
theorem zd_14_40_63 : zz_D zy_startRun_14_40 63 (.aload_n 0) 1 64 := ⟨zq_42 zg_14_40_53.2.2.2.2.2.2.2.2.2.2.1, rfl⟩
theorem zd_14_40_64 : zz_D zy_startRun_14_40 64 (.invokevirtual 243) 3 67 := ⟨zq_182 zg_14_40_53.2.2.2.2.2.2.2.2.2.2.2.1 zg_14_40_53.2.2.2.2.2.2.2.2.2.2.2.2.1 zg_14_40_53.2.2.2.2.2.2.2.2.2.2.2.2.2.1 rfl, rfl⟩
theorem zd_14_40_67 : zz_D zy_startRun_14_40 67 (.iastore) 1 68 := ⟨zq_79 zg_14_40_53.2.2.2.2.2.2.2.2.2.2.2.2.2.2.1, rfl⟩
theorem zd_14_40_68 : zz_D zy_startRun_14_40 68 (.aload_n 0) 1 69 := ⟨zq_42 zg_14_40_53.2.2.2.2.2.2.2.2.2.2.2.2.2.2.2.1, rfl⟩
theorem zd_14_40_69 : zz_D zy_startRun_14_40 69 (.getfield 67) 3 72 := ⟨zq_180 zg_14_40_53.2.2.2.2.2.2.2.2.2.2.2.2.2.2.2.2.1 zg_14_40_53.2.2.2.2.2.2.2.2.2.2.2.2.2.2.2.2.2.1 zg_14_40_53.2.2.2.2.2.2.2.2.2.2.2.2.2.2.2.2.2.2.1 rfl, rfl⟩
theorem zd_14_40_72 : zz_D zy_startRun_14_40 72 (.iload_n 1) 1 73 := ⟨zq_27 zg_14_40_53.2.2.2.2.2.2.2.2.2.2.2.2.2.2.2.2.2.2.2.1, rfl⟩
theorem zd_14_40_73 : zz_D zy_startRun_14_40 73 (.aload_n 0) 1 74 := ⟨zq_42 zg_14_40_53.2.2.2.2.2.2.2.2.2.2.2.2.2.2.2.2.2.2.2.2.1, rfl⟩
theorem zd_14_40_74 : zz_D zy_startRun_14_40 74 (.getfield 36) 3 77 := ⟨zq_180 zg_14_40_53.2.2.2.2.2.2.2.2.2.2.2.2.2.2.2.2.2.2.2.2.2.1 zg_14_40_53.2.2.2.2.2.2.2.2.2.2.2.2.2.2.2.2.2.2.2.2.2.2.1 zg_14_40_53.2.2.2.2.2.2.2.2.2.2.2.2.2.2.2.2.2.2.2.2.2.2.2 rfl, rfl⟩
theorem zg_14_40_77 : zq_at zy_startRun_14_40.2.1 77 4 ∧ zq_at zy_startRun_14_40.2.1 78 46 ∧ zq_at zy_startRun_14_40.2.1 79 42 ∧ zq_at zy_startRun_14_40.2.1 80 180 ∧ zq_at zy_startRun_14_40.2.1 81 0 ∧ zq_at zy_startRun_14_40.2.1 82 36 ∧ zq_at zy_startRun_14_40.2.1 83 5 ∧ zq_at zy_startRun_14_40.2.1 84 46 ∧ zq_at zy_startRun_14_40.2.1 85 4 ∧ zq_at zy_startRun_14_40.2.1 86 120 ∧ zq_at zy_startRun_14_40.2.1 87 128 ∧ zq_at zy_startRun_14_40.2.1 88 42 ∧ zq_at zy_startRun_14_40.2.1 89 180 ∧ zq_at zy_startRun_14_40.2.1 90 0 ∧ zq_at zy_startRun_14_40.2.1 91 36 ∧ zq_at zy_startRun_14_40.2.1 92 6 ∧ zq_at zy_startRun_14_40.2.1 93 46 ∧ zq_at zy_startRun_14_40.2.1 94 5 ∧ zq_at zy_startRun_14_40.2.1 95 120 ∧ zq_at zy_startRun_14_40.2.1 96 128 ∧ zq_at zy_startRun_14_40.2.1 97 42 ∧ zq_at zy_startRun_14_40.2.1 98 180 ∧ zq_at zy_startRun_14_40.2.1 99 0 ∧ zq_at zy_startRun_14_40.2.1 100 36 := by decide +kernel
theorem zd_14_40_77 : zz_D zy_startRun_14_40 77 (.iconst 1) 1 78 := ⟨zq_4 zg_14_40_77.1, rfl⟩
theorem zd_14_40_78 : zz_D zy_startRun_14_40 78 (.iaload) 1 79 := ⟨zq_46 zg_14_40_77.2.1, rfl⟩
theorem zd_14_40_79 : zz_D zy_startRun_14_40 79 (.aload_n 0) 1 80 := ⟨zq_42 zg_14_40_77.2.2.1, rfl⟩
theorem zd_14_40_80 : zz_D zy_startRun_14_40 80 (.getfield 36) 3 83 := ⟨zq_180 zg_14_40_77.2.2.2.1 zg_14_40_77.2.2.2.2.1 zg_14_40_77.2.2.2.2.2.1 rfl, rfl⟩
theorem zd_14_40_83 : zz_D zy_startRun_14_40 83 (.iconst 2) 1 84 := ⟨zq_5 zg_14_40_77.2.2.2.2.2.2.1, rfl⟩
theorem zd_14_40_84 : zz_D zy_startRun_14_40 84 (.iaload) 1 85 := ⟨zq_46 zg_14_40_77.2.2.2.2.2.2.2.1, rfl⟩
theorem zd_14_40_85 : zz_D zy_startRun_14_40 85 (.iconst 1) 1 86 := ⟨zq_4 zg_14_40_77.2.2.2.2.2.2.2.2.1, rfl⟩
theorem zd_14_40_86 : zz_D zy_startRun_14_40 86 (.ishl) 1 87 := ⟨zq_120 zg_14_40_77.2.2.2.2.2.2.2.2.2.1, rfl⟩
theorem zd_14_40_87 : zz_D zy_startRun_14_40 87 (.ior) 1 88 := ⟨zq_128 zg_14_40_77.2.2.2.2.2.2.2.2.2.2.1, rfl⟩
theorem zd_14_40_88 : zz_D zy_startRun_14_40 88 (.aload_n 0) 1 89 := ⟨zq_42 zg_14_40_77.2.2.2.2.2.2.2.2.2.2.2.1, rfl⟩
theorem zd_14_40_89 : zz_D zy_startRun_14_40 89 (.getfield 36) 3 92 := ⟨zq_180 zg_14_40_77.2.2.2.2.2.2.2.2.2.2.2.2.1 zg_14_40_77.2.2.2.2.2.2.2.2.2.2.2.2.2.1 zg_14_40_77.2.2.2.2.2.2.2.2.2.2.2.2.2.2.1 rfl, rfl⟩
theorem zd_14_40_92 : zz_D zy_startRun_14_40 92 (.iconst 3) 1 93 := ⟨zq_6 zg_14_40_77.2.2.2.2.2.2.2.2.2.2.2.2.2.2.2.1, rfl⟩
theorem zd_14_40_93 : zz_D zy_startRun_14_40 93 (.iaload) 1 94 := ⟨zq_46 zg_14_40_77.2.2.2.2.2.2.2.2.2.2.2.2.2.2.2.2.1, rfl⟩
theorem zd_14_40_94 : zz_D zy_startRun_14_40 94 (.iconst 2) 1 95 := ⟨zq_5 zg_14_40_77.2.2.2.2.2.2.2.2.2.2.2.2.2.2.2.2.2.1, rfl⟩
theorem zd_14_40_95 : zz_D zy_startRun_14_40 95 (.ishl) 1 96 := ⟨zq_120 zg_14_40_77.2.2.2.2.2.2.2.2.2.2.2.2.2.2.2.2.2.2.1, rfl⟩
theorem zd_14_40_96 : zz_D zy_startRun_14_40 96 (.ior) 1 97 := ⟨zq_128 zg_14_40_77.2.2.2.2.2.2.2.2.2.2.2.2.2.2.2.2.2.2.2.1, rfl⟩
theorem zd_14_40_97 : zz_D zy_startRun_14_40 97 (.aload_n 0) 1 98 := ⟨zq_42 zg_14_40_77.2.2.2.2.2.2.2.2.2.2.2.2.2.2.2.2.2.2.2.2.1, rfl⟩
theorem zd_14_40_98 : zz_D zy_startRun_14_40 98 (.getfield 36) 3 101 := ⟨zq_180 zg_14_40_77.2.2.2.2.2.2.2.2.2.2.2.2.2.2.2.2.2.2.2.2.2.1 zg_14_40_77.2.2.2.2.2.2.2.2.2.2.2.2.2.2.2.2.2.2.2.2.2.2.1 zg_14_40_77.2.2.2.2.2.2.2.2.2.2.2.2.2.2.2.2.2.2.2.2.2.2.2 rfl, rfl⟩
theorem zg_14_40_101 : zq_at zy_startRun_14_40.2.1 101 7 ∧ zq_at zy_startRun_14_40.2.1 102 46 ∧ zq_at zy_startRun_14_40.2.1 103 6 ∧ zq_at zy_startRun_14_40.2.1 104 120 ∧ zq_at zy_startRun_14_40.2.1 105 128 ∧ zq_at zy_startRun_14_40.2.1 106 79 ∧ zq_at zy_startRun_14_40.2.1 107 42 ∧ zq_at zy_startRun_14_40.2.1 108 180 ∧ zq_at zy_startRun_14_40.2.1 109 0 ∧ zq_at zy_startRun_14_40.2.1 110 57 ∧ zq_at zy_startRun_14_40.2.1 111 27 ∧ zq_at zy_startRun_14_40.2.1 112 2 ∧ zq_at zy_startRun_14_40.2.1 113 79 ∧ zq_at zy_startRun_14_40.2.1 114 42 ∧ zq_at zy_startRun_14_40.2.1 115 180 ∧ zq_at zy_startRun_14_40.2.1 116 0 ∧ zq_at zy_startRun_14_40.2.1 117 60 ∧ zq_at zy_startRun_14_40.2.1 118 27 ∧ zq_at zy_startRun_14_40.2.1 119 2 ∧ zq_at zy_startRun_14_40.2.1 120 79 ∧ zq_at zy_startRun_14_40.2.1 121 42 ∧ zq_at zy_startRun_14_40.2.1 122 180 ∧ zq_at zy_startRun_14_40.2.1 123 0 ∧ zq_at zy_startRun_14_40.2.1 124 63 := by decide +kernel
theorem zd_14_40_101 : zz_D zy_startRun_14_40 101 (.iconst 4) 1 102 := ⟨zq_7 zg_14_40_101.1, rfl⟩
theorem zd_14_40_102 : zz_D zy_startRun_14_40 102 (.iaload) 1 103 := ⟨zq_46 zg_14_40_101.2.1, rfl⟩
theorem zd_14_40_103 : zz_D zy_startRun_14_40 103 (.iconst 3) 1 104 := ⟨zq_6 zg_14_40_101.2.2.1, rfl⟩
theorem zd_14_40_104 : zz_D zy_startRun_14_40 104 (.ishl) 1 105 := ⟨zq_120 zg_14_40_101.2.2.2.1, rfl⟩
theorem zd_14_40_105 : zz_D zy_startRun_14_40 105 (.ior) 1 106 := ⟨zq_128 zg_14_40_101.2.2.2.2.1, rfl⟩
theorem zd_14_40_106 : zz_D zy_startRun_14_40 106 (.iastore) 1 107 := ⟨zq_79 zg_14_40_101.2.2.2.2.2.1, rfl⟩
theorem zd_14_40_107 : zz_D zy_startRun_14_40 107 (.aload_n 0) 1 108 := ⟨zq_42 zg_14_40_101.2.2.2.2.2.2.1, rfl⟩
theorem zd_14_40_108 : zz_D zy_startRun_14_40 108 (.getfield 57) 3 111 := ⟨zq_180 zg_14_40_101.2.2.2.2.2.2.2.1 zg_14_40_101.2.2.2.2.2.2.2.2.1 zg_14_40_101.2.2.2.2.2.2.2.2.2.1 rfl, rfl⟩
theorem zd_14_40_111 : zz_D zy_startRun_14_40 111 (.iload_n 1) 1 112 := ⟨zq_27 zg_14_40_101.2.2.2.2.2.2.2.2.2.2.1, rfl⟩
theorem zd_14_40_112 : zz_D zy_startRun_14_40 112 (.iconst (-1)) 1 113 := ⟨zq_2 zg_14_40_101.2.2.2.2.2.2.2.2.2.2.2.1, rfl⟩
theorem zd_14_40_113 : zz_D zy_startRun_14_40 113 (.iastore) 1 114 := ⟨zq_79 zg_14_40_101.2.2.2.2.2.2.2.2.2.2.2.2.1, rfl⟩
theorem zd_14_40_114 : zz_D zy_startRun_14_40 114 (.aload_n 0) 1 115 := ⟨zq_42 zg_14_40_101.2.2.2.2.2.2.2.2.2.2.2.2.2.1, rfl⟩
theorem zd_14_40_115 : zz_D zy_startRun_14_40 115 (.getfield 60) 3 118 := ⟨zq_180 zg_14_40_101.2.2.2.2.2.2.2.2.2.2.2.2.2.2.1 zg_14_40_101.2.2.2.2.2.2.2.2.2.2.2.2.2.2.2.1 zg_14_40_101.2.2.2.2.2.2.2.2.2.2.2.2.2.2.2.2.1 rfl, rfl⟩
theorem zd_14_40_118 : zz_D zy_startRun_14_40 118 (.iload_n 1) 1 119 := ⟨zq_27 zg_14_40_101.2.2.2.2.2.2.2.2.2.2.2.2.2.2.2.2.2.1, rfl⟩
theorem zd_14_40_119 : zz_D zy_startRun_14_40 119 (.iconst (-1)) 1 120 := ⟨zq_2 zg_14_40_101.2.2.2.2.2.2.2.2.2.2.2.2.2.2.2.2.2.2.1, rfl⟩
theorem zd_14_40_120 : zz_D zy_startRun_14_40 120 (.iastore) 1 121 := ⟨zq_79 zg_14_40_101.2.2.2.2.2.2.2.2.2.2.2.2.2.2.2.2.2.2.2.1, rfl⟩
theorem zd_14_40_121 : zz_D zy_startRun_14_40 121 (.aload_n 0) 1 122 := ⟨zq_42 zg_14_40_101.2.2.2.2.2.2.2.2.2.2.2.2.2.2.2.2.2.2.2.2.1, rfl⟩
theorem zd_14_40_122 : zz_D zy_startRun_14_40 122 (.getfield 63) 3 125 := ⟨zq_180 zg_14_40_101.2.2.2.2.2.2.2.2.2.2.2.2.2.2.2.2.2.2.2.2.2.1 zg_14_40_101.2.2.2.2.2.2.2.2.2.2.2.2.2.2.2.2.2.2.2.2.2.2.1 zg_14_40_101.2.2.2.2.2.2.2.2.2.2.2.2.2.2.2.2.2.2.2.2.2.2.2 rfl, rfl⟩
theorem zg_14_40_125 : zq_at zy_startRun_14_40.2.1 125 27 ∧ zq_at zy_startRun_14_40.2.1 126 3 ∧ zq_at zy_startRun_14_40.2.1 127 84 ∧ zq_at zy_startRun_14_40.2.1 128 132 ∧ zq_at zy_startRun_14_40.2.1 129 1 ∧ zq_at zy_startRun_14_40.2.1 130 1 ∧ zq_at zy_startRun_14_40.2.1 131 167 ∧ zq_at zy_startRun_14_40.2.1 132 255 ∧ zq_at zy_startRun_14_40.2.1 133 165 := by decide +kernel
theorem zd_14_40_125 : zz_D zy_startRun_14_40 125 (.iload_n 1) 1 126 := ⟨zq_27 zg_14_40_125.1, rfl⟩
theorem zd_14_40_126 : zz_D zy_startRun_14_40 126 (.iconst 0) 1 127 := ⟨zq_3 zg_14_40_125.2.1, rfl⟩
theorem zd_14_40_127 : zz_D zy_startRun_14_40 127 (.bastore) 1 128 := ⟨zq_84 zg_14_40_125.2.2.1, rfl⟩
theorem zd_14_40_128 : zz_D zy_startRun_14_40 128 (.iinc 1 1) 3 131 := ⟨zq_132 zg_14_40_125.2.2.2.1 zg_14_40_125.2.2.2.2.1 zg_14_40_125.2.2.2.2.2.1 (by decide), rfl⟩
theorem zd_14_40_131 : zz_B zy_startRun_14_40 131 Instr.goto 40 134 := ⟨(-91), zq_167 zg_14_40_125.2.2.2.2.2.2.1 zg_14_40_125.2.2.2.2.2.2.2.1 zg_14_40_125.2.2.2.2.2.2.2.2 (by decide), rfl, rfl⟩
-- TensorForgeModel startRun ()V
abbrev zr_startRun_14_40 : Room := { frames := 3, cells := 0, slots := 0, locals := 49 }
def zp_startRun_14_40  (S0 : zz_S) : zz_S → Prop := fun S => zz_G S ∧ zz_fr [(1079, 15), (1079, 16), (1079, 19), (1087, 0), (1087, 1), (1087, 2), (1087, 3), (1087, 4), (1087, 5), (1087, 6), (1087, 7), (1087, 8), (1087, 9), (1087, 10), (1087, 11), (1090, 0), (1090, 1), (1090, 2), (1097, 0), (1097, 1), (1097, 2), (1098, 0), (1098, 1), (1098, 2)] [1091, 1092, 1093, 1094, 1095, 1096] (fun _ _ => False) S0 S ∧ (S 1079 19 = S0 1079 7) ∧ (0 ≤ S 1098 0 ∧ 0 ≤ S 1098 1 ∧ 0 ≤ S 1098 2)
theorem zb_startRun_14_40_20 {g : mm_G} {l : Launch}  (S0 : zz_S) (n : Nat) (hn : zz_end ≤ n) (G_S0 : zz_G S0)  (x1 : Int) (S : zz_S) (G_S : zz_G S) (F_S : zz_fr [(1079, 15), (1079, 16), (1079, 19), (1087, 0), (1087, 1), (1087, 2), (1087, 3), (1087, 4), (1087, 5), (1087, 6), (1087, 7), (1087, 8), (1087, 9), (1087, 10), (1087, 11), (1090, 0), (1090, 1), (1090, 2), (1097, 0), (1097, 1), (1097, 2), (1098, 0), (1098, 1), (1098, 2)] [1091, 1092, 1093, 1094, 1095, 1096] (fun _ _ => False) S0 S) (i20_0 : 0 ≤ x1 ∧ x1 ≤ 4) (i20_1 : S 1079 19 = S0 1079 7) (R : Nat) (hR : (34359738368 + (4 - x1).toNat) = R) (k20 : ∀ (x1 : Int) (S : zz_S), zz_G S → zz_fr [(1079, 15), (1079, 16), (1079, 19), (1087, 0), (1087, 1), (1087, 2), (1087, 3), (1087, 4), (1087, 5), (1087, 6), (1087, 7), (1087, 8), (1087, 9), (1087, 10), (1087, 11), (1090, 0), (1090, 1), (1090, 2), (1097, 0), (1097, 1), (1097, 2), (1098, 0), (1098, 1), (1098, 2)] [1091, 1092, 1093, 1094, 1095, 1096] (fun _ _ => False) S0 S → (0 ≤ x1 ∧ x1 ≤ 4) → (S 1079 19 = S0 1079 7) → (34359738368 + (4 - x1).toNat) < R → zz_E g l zy_startRun_14_40 zr_startRun_14_40 (zz_QV n (zp_startRun_14_40  S0)) S n 20 [some (.ref 1079), some (zi x1)] [] 0 0) (k40 : ∀ (x1 : Int) (S : zz_S), zz_G S → zz_fr [(1079, 15), (1079, 16), (1079, 19), (1087, 0), (1087, 1), (1087, 2), (1087, 3), (1087, 4), (1087, 5), (1087, 6), (1087, 7), (1087, 8), (1087, 9), (1087, 10), (1087, 11), (1090, 0), (1090, 1), (1090, 2), (1097, 0), (1097, 1), (1097, 2), (1098, 0), (1098, 1), (1098, 2)] [1091, 1092, 1093, 1094, 1095, 1096] (fun _ _ => False) S0 S → (0 ≤ x1 ∧ x1 ≤ 600) → (S 1079 19 = S0 1079 7) → (17179869184 + (S 1079 19 - x1).toNat) < R → zz_E g l zy_startRun_14_40 zr_startRun_14_40 (zz_QV n (zp_startRun_14_40  S0)) S n 40 [some (.ref 1079), some (zi x1)] [] 0 0) : zz_E g l zy_startRun_14_40 zr_startRun_14_40 (zz_QV n (zp_startRun_14_40  S0)) S n 20 [some (.ref 1079), some (zi x1)] [] 0 0 := by
  refine zz_iload_n (x := x1) rfl zd_14_40_20 ?_
  refine zz_iconst zd_14_40_21 ?_
  refine zz_icmp_ge (by omega) (by omega) zd_14_40_22 (fun c6 => ?_) (fun c6 => ?_)
  · refine zz_iconst zd_14_40_38 ?_
    refine zz_istore_n [some (.ref 1079), some (zi 0)] zd_14_40_39 (by decide) rfl ?_
    have g7 := zz_G.r G_S 1079 19 (-1) 600 rfl rfl
    refine zz_less (ls1 := [some (.ref 1079), some (zi 0)]) ⟨rfl, ⟨rfl, trivial⟩⟩ ?_
    exact k40 0 S G_S F_S (by omega) (by omega) (by omega)
  · refine zz_aload_n (x := 1079) rfl zd_14_40_25 ?_
    refine zz_getr (kd := 0) (z := 1091) zd_14_40_26 zf_Md_51 zT_1079 rfl (zz_ltn hn rfl) (zz_G.eq G_S 1079 18 1091 rfl rfl) (by decide) 1091 rfl ?_
    refine zz_iload_n (x := x1) rfl zd_14_40_29 ?_
    refine zz_iconst zd_14_40_30 ?_
    refine zz_iast zd_14_40_31 zT_1091 rfl (zz_ltn hn rfl) (by decide) (by omega) (fun S8 qS8 => ?_)
    have G_S8 := zz_G.put G_S qS8 (-2147483648) 2147483647 rfl (by omega)
    have F_S8 := zz_fr.putc F_S qS8 rfl
    refine zz_iinc [some (.ref 1079), some (zi (x1 + 1))] zd_14_40_32 rfl rfl ?_
    refine zz_goto zd_14_40_35 ?_
    have g9 := zz_G.r G_S 1079 19 (-1) 600 rfl rfl
    have e10 : S8 1079 19 = S 1079 19 := (zz_ro qS8 (fun h => absurd h.1 (by decide)) rfl)
    refine zz_less (ls1 := [some (.ref 1079), some (zi (x1 + 1))]) ⟨rfl, ⟨rfl, trivial⟩⟩ ?_
    exact k20 (x1 + 1) S8 G_S8 F_S8 (by omega) (by omega) (by omega)
theorem zb_startRun_14_40_40 {g : mm_G} {l : Launch}  (S0 : zz_S) (n : Nat) (hn : zz_end ≤ n) (G_S0 : zz_G S0)  (x1 : Int) (S : zz_S) (G_S : zz_G S) (F_S : zz_fr [(1079, 15), (1079, 16), (1079, 19), (1087, 0), (1087, 1), (1087, 2), (1087, 3), (1087, 4), (1087, 5), (1087, 6), (1087, 7), (1087, 8), (1087, 9), (1087, 10), (1087, 11), (1090, 0), (1090, 1), (1090, 2), (1097, 0), (1097, 1), (1097, 2), (1098, 0), (1098, 1), (1098, 2)] [1091, 1092, 1093, 1094, 1095, 1096] (fun _ _ => False) S0 S) (i40_0 : 0 ≤ x1 ∧ x1 ≤ 600) (i40_1 : S 1079 19 = S0 1079 7) (R : Nat) (hR : (17179869184 + (S 1079 19 - x1).toNat) = R) (k40 : ∀ (x1 : Int) (S : zz_S), zz_G S → zz_fr [(1079, 15), (1079, 16), (1079, 19), (1087, 0), (1087, 1), (1087, 2), (1087, 3), (1087, 4), (1087, 5), (1087, 6), (1087, 7), (1087, 8), (1087, 9), (1087, 10), (1087, 11), (1090, 0), (1090, 1), (1090, 2), (1097, 0), (1097, 1), (1097, 2), (1098, 0), (1098, 1), (1098, 2)] [1091, 1092, 1093, 1094, 1095, 1096] (fun _ _ => False) S0 S → (0 ≤ x1 ∧ x1 ≤ 600) → (S 1079 19 = S0 1079 7) → (17179869184 + (S 1079 19 - x1).toNat) < R → zz_E g l zy_startRun_14_40 zr_startRun_14_40 (zz_QV n (zp_startRun_14_40  S0)) S n 40 [some (.ref 1079), some (zi x1)] [] 0 0) : zz_E g l zy_startRun_14_40 zr_startRun_14_40 (zz_QV n (zp_startRun_14_40  S0)) S n 40 [some (.ref 1079), some (zi x1)] [] 0 0 := by
  refine zz_iload_n (x := x1) rfl zd_14_40_40 ?_
  refine zz_aload_n (x := 1079) rfl zd_14_40_41 ?_
  have g11 := zz_G.r G_S 1079 19 (-1) 600 rfl rfl
  refine zz_geti (z := S 1079 19) zd_14_40_42 zf_Md_272 zT_1079 rfl (zz_ltn hn rfl) rfl ?_
  refine zz_icmp_ge (by omega) (by omega) zd_14_40_45 (fun c12 => ?_) (fun c12 => ?_)
  · refine zz_iconst zd_14_40_134 ?_
    refine zz_istore_n [some (.ref 1079), some (zi 0)] zd_14_40_135 (by decide) rfl ?_
    refine zz_iload_n (x := 0) rfl zd_14_40_136 ?_
    refine zz_iconst zd_14_40_137 ?_
    refine zz_icmp_ge (by omega) (by omega) zd_14_40_138 (fun c13 => ?_) (fun c13 => ?_)
    · exfalso; omega
    · refine zz_aload_n (x := 1079) rfl zd_14_40_141 ?_
      refine zz_getr (kd := 0) (z := 1090) zd_14_40_142 zf_Md_48 zT_1079 rfl (zz_ltn hn rfl) (zz_G.eq G_S 1079 17 1090 rfl rfl) (by decide) 1090 rfl ?_
      refine zz_iload_n (x := 0) rfl zd_14_40_145 ?_
      refine zz_iconst zd_14_40_146 ?_
      refine zz_iast zd_14_40_147 zT_1090 rfl (zz_ltn hn rfl) (by decide) (by decide) (fun S14 qS14 => ?_)
      have G_S14 := zz_G.put G_S qS14 (-2147483648) 2147483647 rfl (by omega)
      have F_S14 := zz_fr.puts F_S qS14 rfl
      refine zz_aload_n (x := 1079) rfl zd_14_40_148 ?_
      refine zz_getr (kd := 0) (z := 1097) zd_14_40_149 zf_Md_70 zT_1079 rfl (zz_ltn hn rfl) (zz_G.eq G_S14 1079 25 1097 rfl rfl) (by decide) 1097 rfl ?_
      refine zz_iload_n (x := 0) rfl zd_14_40_152 ?_
      refine zz_iconst zd_14_40_153 ?_
      refine zz_iast zd_14_40_154 zT_1097 rfl (zz_ltn hn rfl) (by decide) (by decide) (fun S15 qS15 => ?_)
      have G_S15 := zz_G.put G_S14 qS15 (-1) 600 rfl (by omega)
      have F_S15 := zz_fr.puts F_S14 qS15 rfl
      refine zz_aload_n (x := 1079) rfl zd_14_40_155 ?_
      refine zz_getr (kd := 0) (z := 1098) zd_14_40_156 zf_Md_73 zT_1079 rfl (zz_ltn hn rfl) (zz_G.eq G_S15 1079 26 1098 rfl rfl) (by decide) 1098 rfl ?_
      refine zz_iload_n (x := 0) rfl zd_14_40_159 ?_
      refine zz_iconst zd_14_40_160 ?_
      refine zz_iast zd_14_40_161 zT_1098 rfl (zz_ltn hn rfl) (by decide) (by decide) (fun S16 qS16 => ?_)
      have G_S16 := zz_G.put G_S15 qS16 (-1) 601 rfl (by omega)
      have F_S16 := zz_fr.puts F_S15 qS16 rfl
      refine zz_aload_n (x := 1079) rfl zd_14_40_162 ?_
      refine zz_iload_n (x := 0) rfl zd_14_40_163 ?_
      have e17 : S16 1098 0 = (-1) := (zz_rs qS16)
      refine zz_callVV [zi 0] zd_14_40_164 zk_Md_288 zT_1079 (zz_ltn hn rfl) rfl rfl ⟨Nat.le_of_ble_eq_true rfl, Nat.le_of_ble_eq_true rfl⟩ ⟨rfl, rfl⟩ (Nat.zero_le _) (Nat.zero_le _) (zc_findNext_14_34x_0  S16 n hn G_S16 (by omega)) (fun S18 hP => ?_)
      obtain ⟨G_S18, fS18, o20⟩ := hP
      have F_S18 := zz_fr.trans F_S16 fS18 rfl zz_nv
      refine zz_iinc [some (.ref 1079), some (zi 1)] zd_14_40_167 rfl rfl ?_
      refine zz_goto zd_14_40_170 ?_
      refine zz_iload_n (x := 1) rfl zd_14_40_136 ?_
      refine zz_iconst zd_14_40_137 ?_
      refine zz_icmp_ge (by omega) (by omega) zd_14_40_138 (fun c21 => ?_) (fun c21 => ?_)
      · exfalso; omega
      · refine zz_aload_n (x := 1079) rfl zd_14_40_141 ?_
        refine zz_getr (kd := 0) (z := 1090) zd_14_40_142 zf_Md_48 zT_1079 rfl (zz_ltn hn rfl) (zz_G.eq G_S18 1079 17 1090 rfl rfl) (by decide) 1090 rfl ?_
        refine zz_iload_n (x := 1) rfl zd_14_40_145 ?_
        refine zz_iconst zd_14_40_146 ?_
        refine zz_iast zd_14_40_147 zT_1090 rfl (zz_ltn hn rfl) (by decide) (by decide) (fun S22 qS22 => ?_)
        have G_S22 := zz_G.put G_S18 qS22 (-2147483648) 2147483647 rfl (by omega)
        have F_S22 := zz_fr.puts F_S18 qS22 rfl
        refine zz_aload_n (x := 1079) rfl zd_14_40_148 ?_
        refine zz_getr (kd := 0) (z := 1097) zd_14_40_149 zf_Md_70 zT_1079 rfl (zz_ltn hn rfl) (zz_G.eq G_S22 1079 25 1097 rfl rfl) (by decide) 1097 rfl ?_
        refine zz_iload_n (x := 1) rfl zd_14_40_152 ?_
        refine zz_iconst zd_14_40_153 ?_
        refine zz_iast zd_14_40_154 zT_1097 rfl (zz_ltn hn rfl) (by decide) (by decide) (fun S23 qS23 => ?_)
        have G_S23 := zz_G.put G_S22 qS23 (-1) 600 rfl (by omega)
        have F_S23 := zz_fr.puts F_S22 qS23 rfl
        refine zz_aload_n (x := 1079) rfl zd_14_40_155 ?_
        refine zz_getr (kd := 0) (z := 1098) zd_14_40_156 zf_Md_73 zT_1079 rfl (zz_ltn hn rfl) (zz_G.eq G_S23 1079 26 1098 rfl rfl) (by decide) 1098 rfl ?_
        refine zz_iload_n (x := 1) rfl zd_14_40_159 ?_
        refine zz_iconst zd_14_40_160 ?_
        refine zz_iast zd_14_40_161 zT_1098 rfl (zz_ltn hn rfl) (by decide) (by decide) (fun S24 qS24 => ?_)
        have G_S24 := zz_G.put G_S23 qS24 (-1) 601 rfl (by omega)
        have F_S24 := zz_fr.puts F_S23 qS24 rfl
        refine zz_aload_n (x := 1079) rfl zd_14_40_162 ?_
        refine zz_iload_n (x := 1) rfl zd_14_40_163 ?_
        have e25 : S24 1098 1 = (-1) := (zz_rs qS24)
        refine zz_callVV [zi 1] zd_14_40_164 zk_Md_288 zT_1079 (zz_ltn hn rfl) rfl rfl ⟨Nat.le_of_ble_eq_true rfl, Nat.le_of_ble_eq_true rfl⟩ ⟨rfl, rfl⟩ (Nat.zero_le _) (Nat.zero_le _) (zc_findNext_14_34x_1  S24 n hn G_S24 (by omega)) (fun S26 hP => ?_)
        obtain ⟨G_S26, fS26, o28⟩ := hP
        have F_S26 := zz_fr.trans F_S24 fS26 rfl zz_nv
        refine zz_iinc [some (.ref 1079), some (zi 2)] zd_14_40_167 rfl rfl ?_
        refine zz_goto zd_14_40_170 ?_
        refine zz_iload_n (x := 2) rfl zd_14_40_136 ?_
        refine zz_iconst zd_14_40_137 ?_
        refine zz_icmp_ge (by omega) (by omega) zd_14_40_138 (fun c29 => ?_) (fun c29 => ?_)
        · exfalso; omega
        · refine zz_aload_n (x := 1079) rfl zd_14_40_141 ?_
          refine zz_getr (kd := 0) (z := 1090) zd_14_40_142 zf_Md_48 zT_1079 rfl (zz_ltn hn rfl) (zz_G.eq G_S26 1079 17 1090 rfl rfl) (by decide) 1090 rfl ?_
          refine zz_iload_n (x := 2) rfl zd_14_40_145 ?_
          refine zz_iconst zd_14_40_146 ?_
          refine zz_iast zd_14_40_147 zT_1090 rfl (zz_ltn hn rfl) (by decide) (by decide) (fun S30 qS30 => ?_)
          have G_S30 := zz_G.put G_S26 qS30 (-2147483648) 2147483647 rfl (by omega)
          have F_S30 := zz_fr.puts F_S26 qS30 rfl
          refine zz_aload_n (x := 1079) rfl zd_14_40_148 ?_
          refine zz_getr (kd := 0) (z := 1097) zd_14_40_149 zf_Md_70 zT_1079 rfl (zz_ltn hn rfl) (zz_G.eq G_S30 1079 25 1097 rfl rfl) (by decide) 1097 rfl ?_
          refine zz_iload_n (x := 2) rfl zd_14_40_152 ?_
          refine zz_iconst zd_14_40_153 ?_
          refine zz_iast zd_14_40_154 zT_1097 rfl (zz_ltn hn rfl) (by decide) (by decide) (fun S31 qS31 => ?_)
          have G_S31 := zz_G.put G_S30 qS31 (-1) 600 rfl (by omega)
          have F_S31 := zz_fr.puts F_S30 qS31 rfl
          refine zz_aload_n (x := 1079) rfl zd_14_40_155 ?_
          refine zz_getr (kd := 0) (z := 1098) zd_14_40_156 zf_Md_73 zT_1079 rfl (zz_ltn hn rfl) (zz_G.eq G_S31 1079 26 1098 rfl rfl) (by decide) 1098 rfl ?_
          refine zz_iload_n (x := 2) rfl zd_14_40_159 ?_
          refine zz_iconst zd_14_40_160 ?_
          refine zz_iast zd_14_40_161 zT_1098 rfl (zz_ltn hn rfl) (by decide) (by decide) (fun S32 qS32 => ?_)
          have G_S32 := zz_G.put G_S31 qS32 (-1) 601 rfl (by omega)
          have F_S32 := zz_fr.puts F_S31 qS32 rfl
          refine zz_aload_n (x := 1079) rfl zd_14_40_162 ?_
          refine zz_iload_n (x := 2) rfl zd_14_40_163 ?_
          have e33 : S32 1098 2 = (-1) := (zz_rs qS32)
          refine zz_callVV [zi 2] zd_14_40_164 zk_Md_288 zT_1079 (zz_ltn hn rfl) rfl rfl ⟨Nat.le_of_ble_eq_true rfl, Nat.le_of_ble_eq_true rfl⟩ ⟨rfl, rfl⟩ (Nat.zero_le _) (Nat.zero_le _) (zc_findNext_14_34x_2  S32 n hn G_S32 (by omega)) (fun S34 hP => ?_)
          obtain ⟨G_S34, fS34, o36⟩ := hP
          have F_S34 := zz_fr.trans F_S32 fS34 rfl zz_nv
          refine zz_iinc [some (.ref 1079), some (zi 3)] zd_14_40_167 rfl rfl ?_
          refine zz_goto zd_14_40_170 ?_
          refine zz_iload_n (x := 3) rfl zd_14_40_136 ?_
          refine zz_iconst zd_14_40_137 ?_
          refine zz_icmp_ge (by omega) (by omega) zd_14_40_138 (fun c37 => ?_) (fun c37 => ?_)
          · have e38 : S34 1079 19 = S 1079 19 := (zz_rc fS34 rfl rfl (fun h => h) (zz_ro qS32 (fun h => absurd h.1 (by decide)) (zz_ro qS31 (fun h => absurd h.1 (by decide)) (zz_ro qS30 (fun h => absurd h.1 (by decide)) (zz_rc fS26 rfl rfl (fun h => h) (zz_ro qS24 (fun h => absurd h.1 (by decide)) (zz_ro qS23 (fun h => absurd h.1 (by decide)) (zz_ro qS22 (fun h => absurd h.1 (by decide)) (zz_rc fS18 rfl rfl (fun h => h) (zz_ro qS16 (fun h => absurd h.1 (by decide)) (zz_ro qS15 (fun h => absurd h.1 (by decide)) (zz_ro qS14 (fun h => absurd h.1 (by decide)) rfl))))))))))))
            have g39 := zz_G.r G_S18 1098 0 (-1) 601 rfl rfl
            have e40 : S34 1098 0 = S18 1098 0 := (zz_rc fS34 rfl rfl (fun h => h) (zz_ro qS32 (fun h => absurd h.2 (by decide)) (zz_ro qS31 (fun h => absurd h.1 (by decide)) (zz_ro qS30 (fun h => absurd h.1 (by decide)) (zz_rc fS26 rfl rfl (fun h => h) (zz_ro qS24 (fun h => absurd h.2 (by decide)) (zz_ro qS23 (fun h => absurd h.1 (by decide)) (zz_ro qS22 (fun h => absurd h.1 (by decide)) rfl))))))))
            have g41 := zz_G.r G_S26 1098 1 (-1) 601 rfl rfl
            have e42 : S34 1098 1 = S26 1098 1 := (zz_rc fS34 rfl rfl (fun h => h) (zz_ro qS32 (fun h => absurd h.2 (by decide)) (zz_ro qS31 (fun h => absurd h.1 (by decide)) (zz_ro qS30 (fun h => absurd h.1 (by decide)) rfl))))
            have g43 := zz_G.r G_S34 1098 2 (-1) 601 rfl rfl
            exact zz_vret zd_14_40_173 rfl (Nat.zero_le _) (Nat.zero_le _) ⟨_, rfl, G_S34, F_S34, by omega, by omega⟩
          · exfalso; omega
  · refine zz_aload_n (x := 1079) rfl zd_14_40_48 ?_
    refine zz_aload_n (x := 1079) rfl zd_14_40_49 ?_
    refine zz_getr (kd := 0) (z := 1085) zd_14_40_50 zf_Md_29 zT_1079 rfl (zz_ltn hn rfl) (zz_G.eq G_S 1079 8 1085 rfl rfl) (by decide) 1085 rfl ?_
    refine zz_iload_n (x := x1) rfl zd_14_40_53 ?_
    have g44 := zz_G.r G_S0 1085 x1.toNat (-9223372036854775808) 9223372036854775807 rfl rfl
    refine zz_lald (z := S0 1085 x1.toNat) zd_14_40_54 zT_1085 rfl (zz_ltn hn rfl) (by decide) (by omega) (zz_rc F_S (zz_nc1 rfl) rfl (fun h => h) rfl) ?_
    have g45 := zz_G.r G_S 1087 0 (-2147483648) 2147483647 rfl rfl
    have g46 := zz_G.r G_S 1087 1 (-2147483648) 2147483647 rfl rfl
    have g47 := zz_G.r G_S 1087 2 (-2147483648) 2147483647 rfl rfl
    have g48 := zz_G.r G_S 1087 3 (-2147483648) 2147483647 rfl rfl
    have g49 := zz_G.r G_S 1087 4 (-2147483648) 2147483647 rfl rfl
    have g50 := zz_G.r G_S 1087 5 (-2147483648) 2147483647 rfl rfl
    have g51 := zz_G.r G_S 1087 6 (-2147483648) 2147483647 rfl rfl
    have g52 := zz_G.r G_S 1087 7 (-2147483648) 2147483647 rfl rfl
    have g53 := zz_G.r G_S 1087 8 (-2147483648) 2147483647 rfl rfl
    have g54 := zz_G.r G_S 1087 9 (-2147483648) 2147483647 rfl rfl
    have g55 := zz_G.r G_S 1087 10 (-2147483648) 2147483647 rfl rfl
    have g56 := zz_G.r G_S 1087 11 (-2147483648) 2147483647 rfl rfl
    refine zz_callVV [zl (S0 1085 x1.toNat)] zd_14_40_55 zk_Md_234 zT_1079 (zz_ltn hn rfl) rfl rfl ⟨Nat.le_of_ble_eq_true rfl, Nat.le_of_ble_eq_true rfl⟩ ⟨rfl, rfl⟩ (Nat.zero_le _) (Nat.zero_le _) (zc_take_14_18 (S0 1085 x1.toNat) S n hn G_S (by omega)) (fun S57 hP => ?_)
    obtain ⟨G_S57, fS57, o59, o60, o61, o62, o63, o64, o65, o66, o67, o68, o69, o70⟩ := hP
    have F_S57 := zz_fr.trans F_S fS57 rfl zz_nv
    refine zz_aload_n (x := 1079) rfl zd_14_40_58 ?_
    refine zz_getr (kd := 0) (z := 1092) zd_14_40_59 zf_Md_54 zT_1079 rfl (zz_ltn hn rfl) (zz_G.eq G_S57 1079 20 1092 rfl rfl) (by decide) 1092 rfl ?_
    refine zz_iload_n (x := x1) rfl zd_14_40_62 ?_
    refine zz_aload_n (x := 1079) rfl zd_14_40_63 ?_
    have g71 := zz_G.r G_S57 1087 0 (-2147483648) 2147483647 rfl rfl
    have g72 := zz_G.r G_S57 1087 11 (-2147483648) 2147483647 rfl rfl
    refine zz_callVI [] zd_14_40_64 zk_Md_243 zT_1079 (zz_ltn hn rfl) rfl rfl ⟨Nat.le_of_ble_eq_true rfl, Nat.le_of_ble_eq_true rfl⟩ ⟨rfl, rfl⟩ (Nat.zero_le _) (Nat.zero_le _) (zc_unit_14_19  S57 n hn G_S57 ) (fun v74 S73 hP => ?_)
    obtain ⟨rfl, o75, o76⟩ := hP
    refine zz_iast zd_14_40_67 zT_1092 rfl (zz_ltn hn rfl) (by decide) (by omega) (fun S77 qS77 => ?_)
    have G_S77 := zz_G.put G_S57 qS77 (-2147483648) 2147483647 rfl (by omega)
    have F_S77 := zz_fr.putc F_S57 qS77 rfl
    refine zz_aload_n (x := 1079) rfl zd_14_40_68 ?_
    refine zz_getr (kd := 0) (z := 1096) zd_14_40_69 zf_Md_67 zT_1079 rfl (zz_ltn hn rfl) (zz_G.eq G_S77 1079 24 1096 rfl rfl) (by decide) 1096 rfl ?_
    refine zz_iload_n (x := x1) rfl zd_14_40_72 ?_
    refine zz_aload_n (x := 1079) rfl zd_14_40_73 ?_
    refine zz_getr (kd := 0) (z := 1087) zd_14_40_74 zf_Md_36 zT_1079 rfl (zz_ltn hn rfl) (zz_G.eq G_S77 1079 11 1087 rfl rfl) (by decide) 1087 rfl ?_
    refine zz_iconst zd_14_40_77 ?_
    have g78 := zz_G.r G_S57 1087 1 (-2147483648) 2147483647 rfl rfl
    refine zz_iald (z := S57 1087 1) zd_14_40_78 zT_1087 rfl (zz_ltn hn rfl) (by decide) (by decide) (zz_ro qS77 (fun h => absurd h.1 (by decide)) rfl) ?_
    refine zz_aload_n (x := 1079) rfl zd_14_40_79 ?_
    refine zz_getr (kd := 0) (z := 1087) zd_14_40_80 zf_Md_36 zT_1079 rfl (zz_ltn hn rfl) (zz_G.eq G_S77 1079 11 1087 rfl rfl) (by decide) 1087 rfl ?_
    refine zz_iconst zd_14_40_83 ?_
    have g79 := zz_G.r G_S57 1087 2 (-2147483648) 2147483647 rfl rfl
    refine zz_iald (z := S57 1087 2) zd_14_40_84 zT_1087 rfl (zz_ltn hn rfl) (by decide) (by decide) (zz_ro qS77 (fun h => absurd h.1 (by decide)) rfl) ?_
    refine zz_iconst zd_14_40_85 ?_
    refine zz_ishl zd_14_40_86 (fun v80 hv80 ev80 => ?_)
    refine zz_ior (by omega) (by omega) zd_14_40_87 (fun v81 hv81 av81 ev81 => ?_)
    refine zz_aload_n (x := 1079) rfl zd_14_40_88 ?_
    refine zz_getr (kd := 0) (z := 1087) zd_14_40_89 zf_Md_36 zT_1079 rfl (zz_ltn hn rfl) (zz_G.eq G_S77 1079 11 1087 rfl rfl) (by decide) 1087 rfl ?_
    refine zz_iconst zd_14_40_92 ?_
    have g82 := zz_G.r G_S57 1087 3 (-2147483648) 2147483647 rfl rfl
    refine zz_iald (z := S57 1087 3) zd_14_40_93 zT_1087 rfl (zz_ltn hn rfl) (by decide) (by decide) (zz_ro qS77 (fun h => absurd h.1 (by decide)) rfl) ?_
    refine zz_iconst zd_14_40_94 ?_
    refine zz_ishl zd_14_40_95 (fun v83 hv83 ev83 => ?_)
    refine zz_ior (by omega) (by omega) zd_14_40_96 (fun v84 hv84 av84 ev84 => ?_)
    refine zz_aload_n (x := 1079) rfl zd_14_40_97 ?_
    refine zz_getr (kd := 0) (z := 1087) zd_14_40_98 zf_Md_36 zT_1079 rfl (zz_ltn hn rfl) (zz_G.eq G_S77 1079 11 1087 rfl rfl) (by decide) 1087 rfl ?_
    refine zz_iconst zd_14_40_101 ?_
    have g85 := zz_G.r G_S57 1087 4 (-2147483648) 2147483647 rfl rfl
    refine zz_iald (z := S57 1087 4) zd_14_40_102 zT_1087 rfl (zz_ltn hn rfl) (by decide) (by decide) (zz_ro qS77 (fun h => absurd h.1 (by decide)) rfl) ?_
    refine zz_iconst zd_14_40_103 ?_
    refine zz_ishl zd_14_40_104 (fun v86 hv86 ev86 => ?_)
    refine zz_ior (by omega) (by omega) zd_14_40_105 (fun v87 hv87 av87 ev87 => ?_)
    refine zz_iast zd_14_40_106 zT_1096 rfl (zz_ltn hn rfl) (by decide) (by omega) (fun S88 qS88 => ?_)
    have G_S88 := zz_G.put G_S77 qS88 (-2147483648) 2147483647 rfl (by omega)
    have F_S88 := zz_fr.putc F_S77 qS88 rfl
    refine zz_aload_n (x := 1079) rfl zd_14_40_107 ?_
    refine zz_getr (kd := 0) (z := 1093) zd_14_40_108 zf_Md_57 zT_1079 rfl (zz_ltn hn rfl) (zz_G.eq G_S88 1079 21 1093 rfl rfl) (by decide) 1093 rfl ?_
    refine zz_iload_n (x := x1) rfl zd_14_40_111 ?_
    refine zz_iconst zd_14_40_112 ?_
    refine zz_iast zd_14_40_113 zT_1093 rfl (zz_ltn hn rfl) (by decide) (by omega) (fun S89 qS89 => ?_)
    have G_S89 := zz_G.put G_S88 qS89 (-2147483648) 2147483647 rfl (by omega)
    have F_S89 := zz_fr.putc F_S88 qS89 rfl
    refine zz_aload_n (x := 1079) rfl zd_14_40_114 ?_
    refine zz_getr (kd := 0) (z := 1094) zd_14_40_115 zf_Md_60 zT_1079 rfl (zz_ltn hn rfl) (zz_G.eq G_S89 1079 22 1094 rfl rfl) (by decide) 1094 rfl ?_
    refine zz_iload_n (x := x1) rfl zd_14_40_118 ?_
    refine zz_iconst zd_14_40_119 ?_
    refine zz_iast zd_14_40_120 zT_1094 rfl (zz_ltn hn rfl) (by decide) (by omega) (fun S90 qS90 => ?_)
    have G_S90 := zz_G.put G_S89 qS90 (-2147483648) 2147483647 rfl (by omega)
    have F_S90 := zz_fr.putc F_S89 qS90 rfl
    refine zz_aload_n (x := 1079) rfl zd_14_40_121 ?_
    refine zz_getr (kd := 0) (z := 1095) zd_14_40_122 zf_Md_63 zT_1079 rfl (zz_ltn hn rfl) (zz_G.eq G_S90 1079 23 1095 rfl rfl) (by decide) 1095 rfl ?_
    refine zz_iload_n (x := x1) rfl zd_14_40_125 ?_
    refine zz_iconst zd_14_40_126 ?_
    refine zz_zast zd_14_40_127 zT_1095 rfl (zz_ltn hn rfl) (by decide) (by omega) (by omega) (fun S91 qS91 => ?_)
    have G_S91 := zz_G.put G_S90 qS91 0 1 rfl (by omega)
    have F_S91 := zz_fr.putc F_S90 qS91 rfl
    refine zz_iinc [some (.ref 1079), some (zi (x1 + 1))] zd_14_40_128 rfl rfl ?_
    refine zz_goto zd_14_40_131 ?_
    have e92 : S91 1079 19 = S 1079 19 := (zz_ro qS91 (fun h => absurd h.1 (by decide)) (zz_ro qS90 (fun h => absurd h.1 (by decide)) (zz_ro qS89 (fun h => absurd h.1 (by decide)) (zz_ro qS88 (fun h => absurd h.1 (by decide)) (zz_ro qS77 (fun h => absurd h.1 (by decide)) (zz_rc fS57 rfl rfl (fun h => h) rfl))))))
    refine zz_less (ls1 := [some (.ref 1079), some (zi (x1 + 1))]) ⟨rfl, ⟨rfl, trivial⟩⟩ ?_
    exact k40 (x1 + 1) S91 G_S91 F_S91 (by omega) (by omega) (by omega)
theorem zi_startRun_14_40 {g : mm_G} {l : Launch}  (S0 : zz_S) (n : Nat) (hn : zz_end ≤ n) (G_S0 : zz_G S0)  : ∀ N : Nat, (∀ (x1 : Int) (S : zz_S), zz_G S → zz_fr [(1079, 15), (1079, 16), (1079, 19), (1087, 0), (1087, 1), (1087, 2), (1087, 3), (1087, 4), (1087, 5), (1087, 6), (1087, 7), (1087, 8), (1087, 9), (1087, 10), (1087, 11), (1090, 0), (1090, 1), (1090, 2), (1097, 0), (1097, 1), (1097, 2), (1098, 0), (1098, 1), (1098, 2)] [1091, 1092, 1093, 1094, 1095, 1096] (fun _ _ => False) S0 S → (0 ≤ x1 ∧ x1 ≤ 4) → (S 1079 19 = S0 1079 7) → (34359738368 + (4 - x1).toNat) < N → zz_E g l zy_startRun_14_40 zr_startRun_14_40 (zz_QV n (zp_startRun_14_40  S0)) S n 20 [some (.ref 1079), some (zi x1)] [] 0 0) ∧ (∀ (x1 : Int) (S : zz_S), zz_G S → zz_fr [(1079, 15), (1079, 16), (1079, 19), (1087, 0), (1087, 1), (1087, 2), (1087, 3), (1087, 4), (1087, 5), (1087, 6), (1087, 7), (1087, 8), (1087, 9), (1087, 10), (1087, 11), (1090, 0), (1090, 1), (1090, 2), (1097, 0), (1097, 1), (1097, 2), (1098, 0), (1098, 1), (1098, 2)] [1091, 1092, 1093, 1094, 1095, 1096] (fun _ _ => False) S0 S → (0 ≤ x1 ∧ x1 ≤ 600) → (S 1079 19 = S0 1079 7) → (17179869184 + (S 1079 19 - x1).toNat) < N → zz_E g l zy_startRun_14_40 zr_startRun_14_40 (zz_QV n (zp_startRun_14_40  S0)) S n 40 [some (.ref 1079), some (zi x1)] [] 0 0) := by
  intro N
  induction N with
  | zero => exact ⟨fun x1 S _ _ _ _ h => absurd h (Nat.not_lt_zero _), fun x1 S _ _ _ _ h => absurd h (Nat.not_lt_zero _)⟩
  | succ N ih =>
    exact ⟨fun x1 S a b j0 j1 hR => zb_startRun_14_40_20  S0 n hn G_S0  x1 S a b j0 j1 _ rfl (fun x1 S a b j0 j1 h => ih.1 x1 S a b j0 j1 (Nat.lt_of_lt_of_le h (Nat.le_of_lt_succ hR))) (fun x1 S a b j0 j1 h => ih.2 x1 S a b j0 j1 (Nat.lt_of_lt_of_le h (Nat.le_of_lt_succ hR))),
      fun x1 S a b j0 j1 hR => zb_startRun_14_40_40  S0 n hn G_S0  x1 S a b j0 j1 _ rfl (fun x1 S a b j0 j1 h => ih.2 x1 S a b j0 j1 (Nat.lt_of_lt_of_le h (Nat.le_of_lt_succ hR)))⟩
theorem zc_startRun_14_40 {g : mm_G} {l : Launch}  (S0 : zz_S) (n : Nat) (hn : zz_end ≤ n) (G_S0 : zz_G S0)  : mm_Met g l zy_startRun_14_40 zr_startRun_14_40 [.ref 1079] (zz_M S0 n) n (zz_QV n (zp_startRun_14_40  S0)) := by
  refine zz_enter (by decide) (Nat.le_of_ble_eq_true rfl) (zz_less (ls1 := [some (.ref 1079)]) ⟨rfl, trivial⟩ ?_)
  have F_S0 : zz_fr [(1079, 15), (1079, 16), (1079, 19), (1087, 0), (1087, 1), (1087, 2), (1087, 3), (1087, 4), (1087, 5), (1087, 6), (1087, 7), (1087, 8), (1087, 9), (1087, 10), (1087, 11), (1090, 0), (1090, 1), (1090, 2), (1097, 0), (1097, 1), (1097, 2), (1098, 0), (1098, 1), (1098, 2)] [1091, 1092, 1093, 1094, 1095, 1096] (fun _ _ => False) S0 S0 := zz_fr.refl
  have k20 : ∀ (x1 : Int) (S : zz_S), zz_G S → zz_fr [(1079, 15), (1079, 16), (1079, 19), (1087, 0), (1087, 1), (1087, 2), (1087, 3), (1087, 4), (1087, 5), (1087, 6), (1087, 7), (1087, 8), (1087, 9), (1087, 10), (1087, 11), (1090, 0), (1090, 1), (1090, 2), (1097, 0), (1097, 1), (1097, 2), (1098, 0), (1098, 1), (1098, 2)] [1091, 1092, 1093, 1094, 1095, 1096] (fun _ _ => False) S0 S → (0 ≤ x1 ∧ x1 ≤ 4) → (S 1079 19 = S0 1079 7) → zz_E g l zy_startRun_14_40 zr_startRun_14_40 (zz_QV n (zp_startRun_14_40  S0)) S n 20 [some (.ref 1079), some (zi x1)] [] 0 0 := fun x1 S a b j0 j1 => (zi_startRun_14_40 (g := g) (l := l)  S0 n hn G_S0  _).1 x1 S a b j0 j1 (Nat.lt_succ_self _)
  refine zz_aload_n (x := 1079) rfl zd_14_40_0 ?_
  refine zz_aload_n (x := 1079) rfl zd_14_40_1 ?_
  have g1 := zz_G.r G_S0 1079 7 0 600 rfl rfl
  refine zz_geti (z := S0 1079 7) zd_14_40_2 zf_Md_224 zT_1079 rfl (zz_ltn hn rfl) rfl ?_
  refine zz_puti zd_14_40_5 zf_Md_272 zT_1079 rfl (zz_ltn hn rfl) (fun S2 qS2 => ?_)
  have G_S2 := zz_G.put G_S0 qS2 (-1) 600 rfl (by omega)
  have F_S2 := zz_fr.puts F_S0 qS2 rfl
  refine zz_aload_n (x := 1079) rfl zd_14_40_8 ?_
  refine zz_iconst zd_14_40_9 ?_
  refine zz_puti zd_14_40_10 zf_Md_292 zT_1079 rfl (zz_ltn hn rfl) (fun S3 qS3 => ?_)
  have G_S3 := zz_G.put G_S2 qS3 (-2147483648) 2147483647 rfl (by omega)
  have F_S3 := zz_fr.puts F_S2 qS3 rfl
  refine zz_aload_n (x := 1079) rfl zd_14_40_13 ?_
  refine zz_iconst zd_14_40_14 ?_
  refine zz_puti zd_14_40_15 zf_Md_45 zT_1079 rfl (zz_ltn hn rfl) (fun S4 qS4 => ?_)
  have G_S4 := zz_G.put G_S3 qS4 (-1) 600 rfl (by omega)
  have F_S4 := zz_fr.puts F_S3 qS4 rfl
  refine zz_iconst zd_14_40_18 ?_
  refine zz_istore_n [some (.ref 1079), some (zi 0)] zd_14_40_19 (by decide) rfl ?_
  have e5 : S4 1079 19 = S0 1079 7 := (zz_ro qS4 (fun h => absurd h.2 (by decide)) (zz_ro qS3 (fun h => absurd h.2 (by decide)) (zz_rs qS2)))
  refine zz_less (ls1 := [some (.ref 1079), some (zi 0)]) ⟨rfl, ⟨rfl, trivial⟩⟩ ?_
  exact k20 0 S4 G_S4 F_S4 (by omega) (by omega)
abbrev zy_firstIllegal_14_41 : mm_Y := (⟨"TensorForgeModel", "firstIllegal", "()I"⟩, prog_14_method_41_code, 3, (some .int))
theorem zyw_firstIllegal_14_41 : mm_Yw zy_firstIllegal_14_41 0 := ⟨mm_tb_1 1922 (by decide +kernel) rfl, mm_tb_1 12 (by decide +kernel) rfl, ⟨by decide, by decide⟩, by decide +kernel⟩
theorem zg_14_41_0 : zq_at zy_firstIllegal_14_41.2.1 0 2 ∧ zq_at zy_firstIllegal_14_41.2.1 1 60 ∧ zq_at zy_firstIllegal_14_41.2.1 2 42 ∧ zq_at zy_firstIllegal_14_41.2.1 3 180 ∧ zq_at zy_firstIllegal_14_41.2.1 4 0 ∧ zq_at zy_firstIllegal_14_41.2.1 5 224 ∧ zq_at zy_firstIllegal_14_41.2.1 6 4 ∧ zq_at zy_firstIllegal_14_41.2.1 7 100 ∧ zq_at zy_firstIllegal_14_41.2.1 8 61 ∧ zq_at zy_firstIllegal_14_41.2.1 9 28 ∧ zq_at zy_firstIllegal_14_41.2.1 10 155 ∧ zq_at zy_firstIllegal_14_41.2.1 11 0 ∧ zq_at zy_firstIllegal_14_41.2.1 12 28 ∧ zq_at zy_firstIllegal_14_41.2.1 38 27 ∧ zq_at zy_firstIllegal_14_41.2.1 39 172 ∧ zq_at zy_firstIllegal_14_41.2.1 13 42 ∧ zq_at zy_firstIllegal_14_41.2.1 14 42 ∧ zq_at zy_firstIllegal_14_41.2.1 15 180 ∧ zq_at zy_firstIllegal_14_41.2.1 16 0 ∧ zq_at zy_firstIllegal_14_41.2.1 17 29 ∧ zq_at zy_firstIllegal_14_41.2.1 18 28 ∧ zq_at zy_firstIllegal_14_41.2.1 19 47 := by decide +kernel
theorem zd_14_41_0 : zz_D zy_firstIllegal_14_41 0 (.iconst (-1)) 1 1 := ⟨zq_2 zg_14_41_0.1, rfl⟩
theorem zd_14_41_1 : zz_D zy_firstIllegal_14_41 1 (.istore_n 1) 1 2 := ⟨zq_60 zg_14_41_0.2.1, rfl⟩
theorem zd_14_41_2 : zz_D zy_firstIllegal_14_41 2 (.aload_n 0) 1 3 := ⟨zq_42 zg_14_41_0.2.2.1, rfl⟩
theorem zd_14_41_3 : zz_D zy_firstIllegal_14_41 3 (.getfield 224) 3 6 := ⟨zq_180 zg_14_41_0.2.2.2.1 zg_14_41_0.2.2.2.2.1 zg_14_41_0.2.2.2.2.2.1 rfl, rfl⟩
theorem zd_14_41_6 : zz_D zy_firstIllegal_14_41 6 (.iconst 1) 1 7 := ⟨zq_4 zg_14_41_0.2.2.2.2.2.2.1, rfl⟩
theorem zd_14_41_7 : zz_D zy_firstIllegal_14_41 7 (.isub) 1 8 := ⟨zq_100 zg_14_41_0.2.2.2.2.2.2.2.1, rfl⟩
theorem zd_14_41_8 : zz_D zy_firstIllegal_14_41 8 (.istore_n 2) 1 9 := ⟨zq_61 zg_14_41_0.2.2.2.2.2.2.2.2.1, rfl⟩
theorem zd_14_41_9 : zz_D zy_firstIllegal_14_41 9 (.iload_n 2) 1 10 := ⟨zq_28 zg_14_41_0.2.2.2.2.2.2.2.2.2.1, rfl⟩
theorem zd_14_41_10 : zz_B zy_firstIllegal_14_41 10 (Instr.ifCond .lt) 38 13 := ⟨28, zq_155 zg_14_41_0.2.2.2.2.2.2.2.2.2.2.1 zg_14_41_0.2.2.2.2.2.2.2.2.2.2.2.1 zg_14_41_0.2.2.2.2.2.2.2.2.2.2.2.2.1 (by decide), rfl, rfl⟩
theorem zd_14_41_38 : zz_D zy_firstIllegal_14_41 38 (.iload_n 1) 1 39 := ⟨zq_27 zg_14_41_0.2.2.2.2.2.2.2.2.2.2.2.2.2.1, rfl⟩
theorem zd_14_41_39 : zz_D zy_firstIllegal_14_41 39 (.ireturn) 1 40 := ⟨zq_172 zg_14_41_0.2.2.2.2.2.2.2.2.2.2.2.2.2.2.1, rfl⟩
theorem zd_14_41_13 : zz_D zy_firstIllegal_14_41 13 (.aload_n 0) 1 14 := ⟨zq_42 zg_14_41_0.2.2.2.2.2.2.2.2.2.2.2.2.2.2.2.1, rfl⟩
theorem zd_14_41_14 : zz_D zy_firstIllegal_14_41 14 (.aload_n 0) 1 15 := ⟨zq_42 zg_14_41_0.2.2.2.2.2.2.2.2.2.2.2.2.2.2.2.2.1, rfl⟩
theorem zd_14_41_15 : zz_D zy_firstIllegal_14_41 15 (.getfield 29) 3 18 := ⟨zq_180 zg_14_41_0.2.2.2.2.2.2.2.2.2.2.2.2.2.2.2.2.2.1 zg_14_41_0.2.2.2.2.2.2.2.2.2.2.2.2.2.2.2.2.2.2.1 zg_14_41_0.2.2.2.2.2.2.2.2.2.2.2.2.2.2.2.2.2.2.2.1 rfl, rfl⟩
theorem zd_14_41_18 : zz_D zy_firstIllegal_14_41 18 (.iload_n 2) 1 19 := ⟨zq_28 zg_14_41_0.2.2.2.2.2.2.2.2.2.2.2.2.2.2.2.2.2.2.2.2.1, rfl⟩
theorem zd_14_41_19 : zz_D zy_firstIllegal_14_41 19 (.laload) 1 20 := ⟨zq_47 zg_14_41_0.2.2.2.2.2.2.2.2.2.2.2.2.2.2.2.2.2.2.2.2.2, rfl⟩
theorem zg_14_41_20 : zq_at zy_firstIllegal_14_41.2.1 20 182 ∧ zq_at zy_firstIllegal_14_41.2.1 21 0 ∧ zq_at zy_firstIllegal_14_41.2.1 22 250 ∧ zq_at zy_firstIllegal_14_41.2.1 23 153 ∧ zq_at zy_firstIllegal_14_41.2.1 24 0 ∧ zq_at zy_firstIllegal_14_41.2.1 25 7 ∧ zq_at zy_firstIllegal_14_41.2.1 30 27 ∧ zq_at zy_firstIllegal_14_41.2.1 31 60 ∧ zq_at zy_firstIllegal_14_41.2.1 32 132 ∧ zq_at zy_firstIllegal_14_41.2.1 33 2 ∧ zq_at zy_firstIllegal_14_41.2.1 34 255 ∧ zq_at zy_firstIllegal_14_41.2.1 35 167 ∧ zq_at zy_firstIllegal_14_41.2.1 36 255 ∧ zq_at zy_firstIllegal_14_41.2.1 37 230 ∧ zq_at zy_firstIllegal_14_41.2.1 26 28 ∧ zq_at zy_firstIllegal_14_41.2.1 27 167 ∧ zq_at zy_firstIllegal_14_41.2.1 28 0 ∧ zq_at zy_firstIllegal_14_41.2.1 29 4 := by decide +kernel
theorem zd_14_41_20 : zz_D zy_firstIllegal_14_41 20 (.invokevirtual 250) 3 23 := ⟨zq_182 zg_14_41_20.1 zg_14_41_20.2.1 zg_14_41_20.2.2.1 rfl, rfl⟩
theorem zd_14_41_23 : zz_B zy_firstIllegal_14_41 23 (Instr.ifCond .eq) 30 26 := ⟨7, zq_153 zg_14_41_20.2.2.2.1 zg_14_41_20.2.2.2.2.1 zg_14_41_20.2.2.2.2.2.1 (by decide), rfl, rfl⟩
theorem zd_14_41_30 : zz_D zy_firstIllegal_14_41 30 (.iload_n 1) 1 31 := ⟨zq_27 zg_14_41_20.2.2.2.2.2.2.1, rfl⟩
theorem zd_14_41_31 : zz_D zy_firstIllegal_14_41 31 (.istore_n 1) 1 32 := ⟨zq_60 zg_14_41_20.2.2.2.2.2.2.2.1, rfl⟩
theorem zd_14_41_32 : zz_D zy_firstIllegal_14_41 32 (.iinc 2 (-1)) 3 35 := ⟨zq_132 zg_14_41_20.2.2.2.2.2.2.2.2.1 zg_14_41_20.2.2.2.2.2.2.2.2.2.1 zg_14_41_20.2.2.2.2.2.2.2.2.2.2.1 (by decide), rfl⟩
theorem zd_14_41_35 : zz_B zy_firstIllegal_14_41 35 Instr.goto 9 38 := ⟨(-26), zq_167 zg_14_41_20.2.2.2.2.2.2.2.2.2.2.2.1 zg_14_41_20.2.2.2.2.2.2.2.2.2.2.2.2.1 zg_14_41_20.2.2.2.2.2.2.2.2.2.2.2.2.2.1 (by decide), rfl, rfl⟩
theorem zd_14_41_26 : zz_D zy_firstIllegal_14_41 26 (.iload_n 2) 1 27 := ⟨zq_28 zg_14_41_20.2.2.2.2.2.2.2.2.2.2.2.2.2.2.1, rfl⟩
theorem zd_14_41_27 : zz_B zy_firstIllegal_14_41 27 Instr.goto 31 30 := ⟨4, zq_167 zg_14_41_20.2.2.2.2.2.2.2.2.2.2.2.2.2.2.2.1 zg_14_41_20.2.2.2.2.2.2.2.2.2.2.2.2.2.2.2.2.1 zg_14_41_20.2.2.2.2.2.2.2.2.2.2.2.2.2.2.2.2.2 (by decide), rfl, rfl⟩
-- TensorForgeModel firstIllegal ()I
abbrev zr_firstIllegal_14_41 : Room := { frames := 4, cells := 0, slots := 0, locals := 67 }
def zp_firstIllegal_14_41  (S0 : zz_S) : Int → zz_S → Prop := fun r S => zz_G S ∧ zz_fr [(1087, 0), (1087, 1), (1087, 2), (1087, 3), (1087, 4), (1087, 5), (1087, 6), (1087, 7), (1087, 8), (1087, 9), (1087, 10), (1087, 11), (1088, 0), (1088, 1), (1088, 2), (1088, 3), (1088, 4), (1088, 5), (1088, 6), (1088, 7), (1088, 8), (1088, 9), (1089, 0), (1089, 1), (1089, 2), (1089, 3), (1089, 4), (1089, 5), (1089, 6), (1089, 7), (1089, 8), (1089, 9)] [] (fun _ _ => False) S0 S ∧ ((-1) ≤ r ∧ r ≤ 599) ∧ (r = -1 → ∀ u : Nat, (u : Int) < S0 1079 7 → zz_lgl (S0 1085 u) (S0 1079 1))
theorem zb_firstIllegal_14_41_9 {g : mm_G} {l : Launch}  (S0 : zz_S) (n : Nat) (hn : zz_end ≤ n) (G_S0 : zz_G S0)  (x1 : Int) (x2 : Int) (S : zz_S) (G_S : zz_G S) (F_S : zz_fr [(1087, 0), (1087, 1), (1087, 2), (1087, 3), (1087, 4), (1087, 5), (1087, 6), (1087, 7), (1087, 8), (1087, 9), (1087, 10), (1087, 11), (1088, 0), (1088, 1), (1088, 2), (1088, 3), (1088, 4), (1088, 5), (1088, 6), (1088, 7), (1088, 8), (1088, 9), (1089, 0), (1089, 1), (1089, 2), (1089, 3), (1089, 4), (1089, 5), (1089, 6), (1089, 7), (1089, 8), (1089, 9)] [] (fun _ _ => False) S0 S) (i9_0 : (-1) ≤ x1 ∧ x1 ≤ 599) (i9_1 : (-1) ≤ x2 ∧ x2 ≤ 599) (i9_2 : x1 = -1 → ∀ u : Nat, x2 < (u : Int) → (u : Int) < S0 1079 7 → zz_lgl (S0 1085 u) (S0 1079 1)) (R : Nat) (hR : (x2 + 1).toNat = R) (k9 : ∀ (x1 : Int) (x2 : Int) (S : zz_S), zz_G S → zz_fr [(1087, 0), (1087, 1), (1087, 2), (1087, 3), (1087, 4), (1087, 5), (1087, 6), (1087, 7), (1087, 8), (1087, 9), (1087, 10), (1087, 11), (1088, 0), (1088, 1), (1088, 2), (1088, 3), (1088, 4), (1088, 5), (1088, 6), (1088, 7), (1088, 8), (1088, 9), (1089, 0), (1089, 1), (1089, 2), (1089, 3), (1089, 4), (1089, 5), (1089, 6), (1089, 7), (1089, 8), (1089, 9)] [] (fun _ _ => False) S0 S → ((-1) ≤ x1 ∧ x1 ≤ 599) → ((-1) ≤ x2 ∧ x2 ≤ 599) → (x1 = -1 → ∀ u : Nat, x2 < (u : Int) → (u : Int) < S0 1079 7 → zz_lgl (S0 1085 u) (S0 1079 1)) → (x2 + 1).toNat < R → zz_E g l zy_firstIllegal_14_41 zr_firstIllegal_14_41 (zz_QI n (zp_firstIllegal_14_41  S0)) S n 9 [some (.ref 1079), some (zi x1), some (zi x2)] [] 0 0) : zz_E g l zy_firstIllegal_14_41 zr_firstIllegal_14_41 (zz_QI n (zp_firstIllegal_14_41  S0)) S n 9 [some (.ref 1079), some (zi x1), some (zi x2)] [] 0 0 := by
  refine zz_iload_n (x := x2) rfl zd_14_41_9 ?_
  refine zz_if_lt (by omega) zd_14_41_10 (fun c3 => ?_) (fun c3 => ?_)
  · refine zz_iload_n (x := x1) rfl zd_14_41_38 ?_
    exact zz_iret zd_14_41_39 rfl (Nat.zero_le _) (Nat.zero_le _) ⟨_, _, rfl, G_S, F_S, by omega, fun hr u hu => i9_2 (by omega) u (by omega) hu⟩
  · refine zz_aload_n (x := 1079) rfl zd_14_41_13 ?_
    refine zz_aload_n (x := 1079) rfl zd_14_41_14 ?_
    refine zz_getr (kd := 0) (z := 1085) zd_14_41_15 zf_Md_29 zT_1079 rfl (zz_ltn hn rfl) (zz_G.eq G_S 1079 8 1085 rfl rfl) (by decide) 1085 rfl ?_
    refine zz_iload_n (x := x2) rfl zd_14_41_18 ?_
    have g4 := zz_G.r G_S0 1085 x2.toNat (-9223372036854775808) 9223372036854775807 rfl rfl
    refine zz_lald (z := S0 1085 x2.toNat) zd_14_41_19 zT_1085 rfl (zz_ltn hn rfl) (by decide) (by omega) (zz_rc F_S (zz_nc1 rfl) rfl (fun h => h) rfl) ?_
    have g5 := zz_G.r G_S0 1079 1 2 8 rfl rfl
    have e6 : S 1079 1 = S0 1079 1 := (zz_rc F_S rfl rfl (fun h => h) rfl)
    refine zz_callVI [zl (S0 1085 x2.toNat)] zd_14_41_20 zk_Md_250 zT_1079 (zz_ltn hn rfl) rfl rfl ⟨Nat.le_of_ble_eq_true rfl, Nat.le_of_ble_eq_true rfl⟩ ⟨rfl, rfl⟩ (Nat.zero_le _) (Nat.zero_le _) (zc_isIllegal_14_24 (S0 1085 x2.toNat) S n hn G_S (by omega)) (fun v8 S7 hP => ?_)
    obtain ⟨G_S7, fS7, o9, o10, o11⟩ := hP
    have F_S7 := zz_fr.trans F_S fS7 rfl zz_nv
    rcases (by omega : v8 = 0 ∨ v8 = 1) with rfl | rfl
    · refine zz_if_eq (by omega) zd_14_41_23 (fun c12 => ?_) (fun c12 => ?_)
      · refine zz_iload_n (x := x1) rfl zd_14_41_30 ?_
        refine zz_istore_n [some (.ref 1079), some (zi x1), some (zi x2)] zd_14_41_31 (by decide) rfl ?_
        refine zz_iinc [some (.ref 1079), some (zi x1), some (zi (x2 + (-1)))] zd_14_41_32 rfl rfl ?_
        refine zz_goto zd_14_41_35 ?_
        refine zz_less (ls1 := [some (.ref 1079), some (zi x1), some (zi (x2 + (-1)))]) ⟨rfl, ⟨rfl, ⟨rfl, trivial⟩⟩⟩ ?_
        exact k9 x1 (x2 + (-1)) S7 G_S7 F_S7 (by omega) (by omega) (fun hx u h1 h2 => (Decidable.em ((u : Int) = x2)).elim (fun hu => by have e9 : u = x2.toNat := (by omega); subst e9; first | (exfalso; omega) | (have h9 := o10 rfl; rw [show S 1079 1 = S0 1079 1 by omega] at h9; exact h9)) (fun hu => i9_2 (by omega) u (by omega) h2)) (by omega)
      · exfalso; omega
    · refine zz_if_eq (by omega) zd_14_41_23 (fun c13 => ?_) (fun c13 => ?_)
      · exfalso; omega
      · refine zz_iload_n (x := x2) rfl zd_14_41_26 ?_
        refine zz_goto zd_14_41_27 ?_
        refine zz_istore_n [some (.ref 1079), some (zi x2), some (zi x2)] zd_14_41_31 (by decide) rfl ?_
        refine zz_iinc [some (.ref 1079), some (zi x2), some (zi (x2 + (-1)))] zd_14_41_32 rfl rfl ?_
        refine zz_goto zd_14_41_35 ?_
        refine zz_less (ls1 := [some (.ref 1079), some (zi x2), some (zi (x2 + (-1)))]) ⟨rfl, ⟨rfl, ⟨rfl, trivial⟩⟩⟩ ?_
        exact k9 x2 (x2 + (-1)) S7 G_S7 F_S7 (by omega) (by omega) (fun hx u h1 h2 => (Decidable.em ((u : Int) = x2)).elim (fun hu => by have e9 : u = x2.toNat := (by omega); subst e9; first | (exfalso; omega) | (have h9 := o10 rfl; rw [show S 1079 1 = S0 1079 1 by omega] at h9; exact h9)) (fun hu => i9_2 (by omega) u (by omega) h2)) (by omega)
theorem zi_firstIllegal_14_41 {g : mm_G} {l : Launch}  (S0 : zz_S) (n : Nat) (hn : zz_end ≤ n) (G_S0 : zz_G S0)  : ∀ N : Nat, (∀ (x1 : Int) (x2 : Int) (S : zz_S), zz_G S → zz_fr [(1087, 0), (1087, 1), (1087, 2), (1087, 3), (1087, 4), (1087, 5), (1087, 6), (1087, 7), (1087, 8), (1087, 9), (1087, 10), (1087, 11), (1088, 0), (1088, 1), (1088, 2), (1088, 3), (1088, 4), (1088, 5), (1088, 6), (1088, 7), (1088, 8), (1088, 9), (1089, 0), (1089, 1), (1089, 2), (1089, 3), (1089, 4), (1089, 5), (1089, 6), (1089, 7), (1089, 8), (1089, 9)] [] (fun _ _ => False) S0 S → ((-1) ≤ x1 ∧ x1 ≤ 599) → ((-1) ≤ x2 ∧ x2 ≤ 599) → (x1 = -1 → ∀ u : Nat, x2 < (u : Int) → (u : Int) < S0 1079 7 → zz_lgl (S0 1085 u) (S0 1079 1)) → (x2 + 1).toNat < N → zz_E g l zy_firstIllegal_14_41 zr_firstIllegal_14_41 (zz_QI n (zp_firstIllegal_14_41  S0)) S n 9 [some (.ref 1079), some (zi x1), some (zi x2)] [] 0 0) := by
  intro N
  induction N with
  | zero => exact fun x1 x2 S _ _ _ _ _ h => absurd h (Nat.not_lt_zero _)
  | succ N ih =>
    exact fun x1 x2 S a b j0 j1 j2 hR => zb_firstIllegal_14_41_9  S0 n hn G_S0  x1 x2 S a b j0 j1 j2 _ rfl (fun x1 x2 S a b j0 j1 j2 h => ih x1 x2 S a b j0 j1 j2 (Nat.lt_of_lt_of_le h (Nat.le_of_lt_succ hR)))
theorem zc_firstIllegal_14_41 {g : mm_G} {l : Launch}  (S0 : zz_S) (n : Nat) (hn : zz_end ≤ n) (G_S0 : zz_G S0)  : mm_Met g l zy_firstIllegal_14_41 zr_firstIllegal_14_41 [.ref 1079] (zz_M S0 n) n (zz_QI n (zp_firstIllegal_14_41  S0)) := by
  refine zz_enter (by decide) (Nat.le_of_ble_eq_true rfl) (zz_less (ls1 := [some (.ref 1079)]) ⟨rfl, trivial⟩ ?_)
  have F_S0 : zz_fr [(1087, 0), (1087, 1), (1087, 2), (1087, 3), (1087, 4), (1087, 5), (1087, 6), (1087, 7), (1087, 8), (1087, 9), (1087, 10), (1087, 11), (1088, 0), (1088, 1), (1088, 2), (1088, 3), (1088, 4), (1088, 5), (1088, 6), (1088, 7), (1088, 8), (1088, 9), (1089, 0), (1089, 1), (1089, 2), (1089, 3), (1089, 4), (1089, 5), (1089, 6), (1089, 7), (1089, 8), (1089, 9)] [] (fun _ _ => False) S0 S0 := zz_fr.refl
  have k9 : ∀ (x1 : Int) (x2 : Int) (S : zz_S), zz_G S → zz_fr [(1087, 0), (1087, 1), (1087, 2), (1087, 3), (1087, 4), (1087, 5), (1087, 6), (1087, 7), (1087, 8), (1087, 9), (1087, 10), (1087, 11), (1088, 0), (1088, 1), (1088, 2), (1088, 3), (1088, 4), (1088, 5), (1088, 6), (1088, 7), (1088, 8), (1088, 9), (1089, 0), (1089, 1), (1089, 2), (1089, 3), (1089, 4), (1089, 5), (1089, 6), (1089, 7), (1089, 8), (1089, 9)] [] (fun _ _ => False) S0 S → ((-1) ≤ x1 ∧ x1 ≤ 599) → ((-1) ≤ x2 ∧ x2 ≤ 599) → (x1 = -1 → ∀ u : Nat, x2 < (u : Int) → (u : Int) < S0 1079 7 → zz_lgl (S0 1085 u) (S0 1079 1)) → zz_E g l zy_firstIllegal_14_41 zr_firstIllegal_14_41 (zz_QI n (zp_firstIllegal_14_41  S0)) S n 9 [some (.ref 1079), some (zi x1), some (zi x2)] [] 0 0 := fun x1 x2 S a b j0 j1 j2 => (zi_firstIllegal_14_41 (g := g) (l := l)  S0 n hn G_S0  _) x1 x2 S a b j0 j1 j2 (Nat.lt_succ_self _)
  refine zz_iconst zd_14_41_0 ?_
  refine zz_istore_n [some (.ref 1079), some (zi (-1))] zd_14_41_1 (by decide) rfl ?_
  refine zz_aload_n (x := 1079) rfl zd_14_41_2 ?_
  have g1 := zz_G.r G_S0 1079 7 0 600 rfl rfl
  refine zz_geti (z := S0 1079 7) zd_14_41_3 zf_Md_224 zT_1079 rfl (zz_ltn hn rfl) rfl ?_
  refine zz_iconst zd_14_41_6 ?_
  refine zz_isub zd_14_41_7 ?_
  refine zz_istore_n [some (.ref 1079), some (zi (-1)), some (zi ((S0 1079 7) - 1))] zd_14_41_8 (by decide) rfl ?_
  have g2 := zz_G.r G_S0 1079 1 2 8 rfl rfl
  refine zz_less (ls1 := [some (.ref 1079), some (zi (-1)), some (zi ((S0 1079 7) - 1))]) ⟨rfl, ⟨rfl, ⟨rfl, trivial⟩⟩⟩ ?_
  exact k9 (-1) ((S0 1079 7) - 1) S0 G_S0 F_S0 (by omega) (by omega) (fun _ u h1 h2 => absurd h2 (by omega))
abbrev zy_stop_14_42 : mm_Y := (⟨"TensorForgeModel", "stop", "(III)I"⟩, prog_14_method_42_code, 4, (some .int))
theorem zyw_stop_14_42 : mm_Yw zy_stop_14_42 3 := ⟨mm_tb_1 1934 (by decide +kernel) rfl, mm_tb_1 12 (by decide +kernel) rfl, ⟨by decide, by decide⟩, by decide +kernel⟩
theorem zf_Md_295 : mm_Fl "TensorForgeModel" 295 11 14 .int false := ⟨R_Md, F_Md, 69, t_Md, rfl, i_Md, by decide, mm_tb_1 1625 (by decide +kernel) rfl, rfl, t_Md_ok, n_Md, rfl, by decide +kernel⟩
theorem zg_14_42_0 : zq_at zy_stop_14_42.2.1 0 42 ∧ zq_at zy_stop_14_42.2.1 1 27 ∧ zq_at zy_stop_14_42.2.1 2 181 ∧ zq_at zy_stop_14_42.2.1 3 1 ∧ zq_at zy_stop_14_42.2.1 4 39 ∧ zq_at zy_stop_14_42.2.1 5 42 ∧ zq_at zy_stop_14_42.2.1 6 28 ∧ zq_at zy_stop_14_42.2.1 7 181 ∧ zq_at zy_stop_14_42.2.1 8 0 ∧ zq_at zy_stop_14_42.2.1 9 45 ∧ zq_at zy_stop_14_42.2.1 10 42 ∧ zq_at zy_stop_14_42.2.1 11 29 ∧ zq_at zy_stop_14_42.2.1 12 181 ∧ zq_at zy_stop_14_42.2.1 13 1 ∧ zq_at zy_stop_14_42.2.1 14 36 ∧ zq_at zy_stop_14_42.2.1 15 27 ∧ zq_at zy_stop_14_42.2.1 16 172 := by decide +kernel
theorem zd_14_42_0 : zz_D zy_stop_14_42 0 (.aload_n 0) 1 1 := ⟨zq_42 zg_14_42_0.1, rfl⟩
theorem zd_14_42_1 : zz_D zy_stop_14_42 1 (.iload_n 1) 1 2 := ⟨zq_27 zg_14_42_0.2.1, rfl⟩
theorem zd_14_42_2 : zz_D zy_stop_14_42 2 (.putfield 295) 3 5 := ⟨zq_181 zg_14_42_0.2.2.1 zg_14_42_0.2.2.2.1 zg_14_42_0.2.2.2.2.1 rfl, rfl⟩
theorem zd_14_42_5 : zz_D zy_stop_14_42 5 (.aload_n 0) 1 6 := ⟨zq_42 zg_14_42_0.2.2.2.2.2.1, rfl⟩
theorem zd_14_42_6 : zz_D zy_stop_14_42 6 (.iload_n 2) 1 7 := ⟨zq_28 zg_14_42_0.2.2.2.2.2.2.1, rfl⟩
theorem zd_14_42_7 : zz_D zy_stop_14_42 7 (.putfield 45) 3 10 := ⟨zq_181 zg_14_42_0.2.2.2.2.2.2.2.1 zg_14_42_0.2.2.2.2.2.2.2.2.1 zg_14_42_0.2.2.2.2.2.2.2.2.2.1 rfl, rfl⟩
theorem zd_14_42_10 : zz_D zy_stop_14_42 10 (.aload_n 0) 1 11 := ⟨zq_42 zg_14_42_0.2.2.2.2.2.2.2.2.2.2.1, rfl⟩
theorem zd_14_42_11 : zz_D zy_stop_14_42 11 (.iload_n 3) 1 12 := ⟨zq_29 zg_14_42_0.2.2.2.2.2.2.2.2.2.2.2.1, rfl⟩
theorem zd_14_42_12 : zz_D zy_stop_14_42 12 (.putfield 292) 3 15 := ⟨zq_181 zg_14_42_0.2.2.2.2.2.2.2.2.2.2.2.2.1 zg_14_42_0.2.2.2.2.2.2.2.2.2.2.2.2.2.1 zg_14_42_0.2.2.2.2.2.2.2.2.2.2.2.2.2.2.1 rfl, rfl⟩
theorem zd_14_42_15 : zz_D zy_stop_14_42 15 (.iload_n 1) 1 16 := ⟨zq_27 zg_14_42_0.2.2.2.2.2.2.2.2.2.2.2.2.2.2.2.1, rfl⟩
theorem zd_14_42_16 : zz_D zy_stop_14_42 16 (.ireturn) 1 17 := ⟨zq_172 zg_14_42_0.2.2.2.2.2.2.2.2.2.2.2.2.2.2.2.2, rfl⟩
-- TensorForgeModel stop (III)I
abbrev zr_stop_14_42 : Room := { frames := 0, cells := 0, slots := 0, locals := 0 }
def zp_stop_14_42 (p0 : Int) (p1 : Int) (p2 : Int) (S0 : zz_S) : Int → zz_S → Prop := fun r S => zz_G S ∧ zz_fr [(1079, 14), (1079, 15), (1079, 16)] [] (fun _ _ => False) S0 S ∧ (0 ≤ r ∧ r ≤ 4) ∧ (r = p0)
theorem zc_stop_14_42 {g : mm_G} {l : Launch} (p0 : Int) (p1 : Int) (p2 : Int) (S0 : zz_S) (n : Nat) (hn : zz_end ≤ n) (G_S0 : zz_G S0) (hp0 : 0 ≤ p0 ∧ p0 ≤ 4) (hp1 : (-1) ≤ p1 ∧ p1 ≤ 600) (hp2 : (-2147483648) ≤ p2 ∧ p2 ≤ 2147483647) : mm_Met g l zy_stop_14_42 zr_stop_14_42 [.ref 1079, zi p0, zi p1, zi p2] (zz_M S0 n) n (zz_QI n (zp_stop_14_42 p0 p1 p2 S0)) := by
  refine zz_enter (by decide) (Nat.le_of_ble_eq_true rfl) (zz_less (ls1 := [some (.ref 1079), some (zi p0), some (zi p1), some (zi p2)]) ⟨rfl, ⟨rfl, ⟨rfl, ⟨rfl, trivial⟩⟩⟩⟩ ?_)
  have F_S0 : zz_fr [(1079, 14), (1079, 15), (1079, 16)] [] (fun _ _ => False) S0 S0 := zz_fr.refl
  refine zz_aload_n (x := 1079) rfl zd_14_42_0 ?_
  refine zz_iload_n (x := p0) rfl zd_14_42_1 ?_
  refine zz_puti zd_14_42_2 zf_Md_295 zT_1079 rfl (zz_ltn hn rfl) (fun S1 qS1 => ?_)
  have G_S1 := zz_G.put G_S0 qS1 0 4 rfl (by omega)
  have F_S1 := zz_fr.puts F_S0 qS1 rfl
  refine zz_aload_n (x := 1079) rfl zd_14_42_5 ?_
  refine zz_iload_n (x := p1) rfl zd_14_42_6 ?_
  refine zz_puti zd_14_42_7 zf_Md_45 zT_1079 rfl (zz_ltn hn rfl) (fun S2 qS2 => ?_)
  have G_S2 := zz_G.put G_S1 qS2 (-1) 600 rfl (by omega)
  have F_S2 := zz_fr.puts F_S1 qS2 rfl
  refine zz_aload_n (x := 1079) rfl zd_14_42_10 ?_
  refine zz_iload_n (x := p2) rfl zd_14_42_11 ?_
  refine zz_puti zd_14_42_12 zf_Md_292 zT_1079 rfl (zz_ltn hn rfl) (fun S3 qS3 => ?_)
  have G_S3 := zz_G.put G_S2 qS3 (-2147483648) 2147483647 rfl (by omega)
  have F_S3 := zz_fr.puts F_S2 qS3 rfl
  refine zz_iload_n (x := p0) rfl zd_14_42_15 ?_
  exact zz_iret zd_14_42_16 rfl (Nat.zero_le _) (Nat.zero_le _) ⟨_, _, rfl, G_S3, F_S3, by omega, by omega⟩
abbrev zy_cycle_14_43 : mm_Y := (⟨"TensorForgeModel", "cycle", "(I)I"⟩, prog_14_method_43_code, 5, (some .int))
theorem zyw_cycle_14_43 : mm_Yw zy_cycle_14_43 1 := ⟨mm_tb_1 1938 (by decide +kernel) rfl, mm_tb_1 12 (by decide +kernel) rfl, ⟨by decide, by decide⟩, by decide +kernel⟩
theorem zk_Md_298 : mm_Vl "TensorForgeModel" 298 11 1 zy_pushAll_14_33 := ⟨zyw_pushAll_14_33, (R_Md, F_Md, 69), rfl, mm_tb_1 1939 (by decide +kernel) rfl, mm_tb_1 1941 (by decide +kernel) rfl, mm_tb_s 99 (by decide +kernel) rfl⟩
theorem zk_Md_301 : mm_Vl "TensorForgeModel" 301 11 2 zy_isBusy_14_39 := ⟨zyw_isBusy_14_39, (R_Md, F_Md, 69), rfl, mm_tb_1 1946 (by decide +kernel) rfl, mm_tb_1 1948 (by decide +kernel) rfl, mm_tb_s 100 (by decide +kernel) rfl⟩
theorem zk_Md_311 : mm_Vl "TensorForgeModel" 311 11 3 zy_stop_14_42 := ⟨zyw_stop_14_42, (R_Md, F_Md, 69), rfl, mm_tb_1 1931 (by decide +kernel) rfl, mm_tb_1 1933 (by decide +kernel) rfl, mm_tb_s 97 (by decide +kernel) rfl⟩
theorem zk_Md_304 : mm_Vl "TensorForgeModel" 304 11 1 zy_hasTokens_14_35 := ⟨zyw_hasTokens_14_35, (R_Md, F_Md, 69), rfl, mm_tb_1 1950 (by decide +kernel) rfl, mm_tb_1 1952 (by decide +kernel) rfl, mm_tb_s 101 (by decide +kernel) rfl⟩
theorem zk_Md_308 : mm_Vl "TensorForgeModel" 308 11 2 zy_races_14_37 := ⟨zyw_races_14_37, (R_Md, F_Md, 69), rfl, mm_tb_1 1957 (by decide +kernel) rfl, mm_tb_1 1959 (by decide +kernel) rfl, mm_tb_s 102 (by decide +kernel) rfl⟩
theorem zk_Md_315 : mm_Vl "TensorForgeModel" 315 11 2 zy_beginNext_14_38 := ⟨zyw_beginNext_14_38, (R_Md, F_Md, 69), rfl, mm_tb_1 1964 (by decide +kernel) rfl, mm_tb_1 1966 (by decide +kernel) rfl, mm_tb_s 103 (by decide +kernel) rfl⟩
theorem zg_14_43_0 : zq_at zy_cycle_14_43.2.1 0 42 ∧ zq_at zy_cycle_14_43.2.1 1 27 ∧ zq_at zy_cycle_14_43.2.1 2 182 ∧ zq_at zy_cycle_14_43.2.1 3 1 ∧ zq_at zy_cycle_14_43.2.1 4 42 ∧ zq_at zy_cycle_14_43.2.1 5 3 ∧ zq_at zy_cycle_14_43.2.1 6 61 ∧ zq_at zy_cycle_14_43.2.1 7 3 ∧ zq_at zy_cycle_14_43.2.1 8 62 ∧ zq_at zy_cycle_14_43.2.1 9 29 ∧ zq_at zy_cycle_14_43.2.1 10 6 ∧ zq_at zy_cycle_14_43.2.1 11 162 ∧ zq_at zy_cycle_14_43.2.1 12 0 ∧ zq_at zy_cycle_14_43.2.1 13 74 ∧ zq_at zy_cycle_14_43.2.1 85 42 ∧ zq_at zy_cycle_14_43.2.1 86 3 ∧ zq_at zy_cycle_14_43.2.1 87 27 ∧ zq_at zy_cycle_14_43.2.1 88 182 ∧ zq_at zy_cycle_14_43.2.1 89 1 ∧ zq_at zy_cycle_14_43.2.1 90 45 ∧ zq_at zy_cycle_14_43.2.1 91 154 ∧ zq_at zy_cycle_14_43.2.1 92 0 ∧ zq_at zy_cycle_14_43.2.1 93 21 ∧ zq_at zy_cycle_14_43.2.1 94 42 := by decide +kernel
theorem zd_14_43_0 : zz_D zy_cycle_14_43 0 (.aload_n 0) 1 1 := ⟨zq_42 zg_14_43_0.1, rfl⟩
theorem zd_14_43_1 : zz_D zy_cycle_14_43 1 (.iload_n 1) 1 2 := ⟨zq_27 zg_14_43_0.2.1, rfl⟩
theorem zd_14_43_2 : zz_D zy_cycle_14_43 2 (.invokevirtual 298) 3 5 := ⟨zq_182 zg_14_43_0.2.2.1 zg_14_43_0.2.2.2.1 zg_14_43_0.2.2.2.2.1 rfl, rfl⟩
theorem zd_14_43_5 : zz_D zy_cycle_14_43 5 (.iconst 0) 1 6 := ⟨zq_3 zg_14_43_0.2.2.2.2.2.1, rfl⟩
theorem zd_14_43_6 : zz_D zy_cycle_14_43 6 (.istore_n 2) 1 7 := ⟨zq_61 zg_14_43_0.2.2.2.2.2.2.1, rfl⟩
theorem zd_14_43_7 : zz_D zy_cycle_14_43 7 (.iconst 0) 1 8 := ⟨zq_3 zg_14_43_0.2.2.2.2.2.2.2.1, rfl⟩
theorem zd_14_43_8 : zz_D zy_cycle_14_43 8 (.istore_n 3) 1 9 := ⟨zq_62 zg_14_43_0.2.2.2.2.2.2.2.2.1, rfl⟩
theorem zd_14_43_9 : zz_D zy_cycle_14_43 9 (.iload_n 3) 1 10 := ⟨zq_29 zg_14_43_0.2.2.2.2.2.2.2.2.2.1, rfl⟩
theorem zd_14_43_10 : zz_D zy_cycle_14_43 10 (.iconst 3) 1 11 := ⟨zq_6 zg_14_43_0.2.2.2.2.2.2.2.2.2.2.1, rfl⟩
theorem zd_14_43_11 : zz_B zy_cycle_14_43 11 (Instr.if_icmp .ge) 85 14 := ⟨74, zq_162 zg_14_43_0.2.2.2.2.2.2.2.2.2.2.2.1 zg_14_43_0.2.2.2.2.2.2.2.2.2.2.2.2.1 zg_14_43_0.2.2.2.2.2.2.2.2.2.2.2.2.2.1 (by decide), rfl, rfl⟩
theorem zd_14_43_85 : zz_D zy_cycle_14_43 85 (.aload_n 0) 1 86 := ⟨zq_42 zg_14_43_0.2.2.2.2.2.2.2.2.2.2.2.2.2.2.1, rfl⟩
theorem zd_14_43_86 : zz_D zy_cycle_14_43 86 (.iconst 0) 1 87 := ⟨zq_3 zg_14_43_0.2.2.2.2.2.2.2.2.2.2.2.2.2.2.2.1, rfl⟩
theorem zd_14_43_87 : zz_D zy_cycle_14_43 87 (.iload_n 1) 1 88 := ⟨zq_27 zg_14_43_0.2.2.2.2.2.2.2.2.2.2.2.2.2.2.2.2.1, rfl⟩
theorem zd_14_43_88 : zz_D zy_cycle_14_43 88 (.invokevirtual 301) 3 91 := ⟨zq_182 zg_14_43_0.2.2.2.2.2.2.2.2.2.2.2.2.2.2.2.2.2.1 zg_14_43_0.2.2.2.2.2.2.2.2.2.2.2.2.2.2.2.2.2.2.1 zg_14_43_0.2.2.2.2.2.2.2.2.2.2.2.2.2.2.2.2.2.2.2.1 rfl, rfl⟩
theorem zd_14_43_91 : zz_B zy_cycle_14_43 91 (Instr.ifCond .ne) 112 94 := ⟨21, zq_154 zg_14_43_0.2.2.2.2.2.2.2.2.2.2.2.2.2.2.2.2.2.2.2.2.1 zg_14_43_0.2.2.2.2.2.2.2.2.2.2.2.2.2.2.2.2.2.2.2.2.2.1 zg_14_43_0.2.2.2.2.2.2.2.2.2.2.2.2.2.2.2.2.2.2.2.2.2.2.1 (by decide), rfl, rfl⟩
theorem zd_14_43_94 : zz_D zy_cycle_14_43 94 (.aload_n 0) 1 95 := ⟨zq_42 zg_14_43_0.2.2.2.2.2.2.2.2.2.2.2.2.2.2.2.2.2.2.2.2.2.2.2, rfl⟩
theorem zg_14_43_95 : zq_at zy_cycle_14_43.2.1 95 4 ∧ zq_at zy_cycle_14_43.2.1 96 27 ∧ zq_at zy_cycle_14_43.2.1 97 182 ∧ zq_at zy_cycle_14_43.2.1 98 1 ∧ zq_at zy_cycle_14_43.2.1 99 45 ∧ zq_at zy_cycle_14_43.2.1 100 154 ∧ zq_at zy_cycle_14_43.2.1 101 0 ∧ zq_at zy_cycle_14_43.2.1 102 12 ∧ zq_at zy_cycle_14_43.2.1 103 42 ∧ zq_at zy_cycle_14_43.2.1 104 5 ∧ zq_at zy_cycle_14_43.2.1 105 27 ∧ zq_at zy_cycle_14_43.2.1 106 182 ∧ zq_at zy_cycle_14_43.2.1 107 1 ∧ zq_at zy_cycle_14_43.2.1 108 45 ∧ zq_at zy_cycle_14_43.2.1 109 153 ∧ zq_at zy_cycle_14_43.2.1 110 0 ∧ zq_at zy_cycle_14_43.2.1 111 7 ∧ zq_at zy_cycle_14_43.2.1 116 3 ∧ zq_at zy_cycle_14_43.2.1 117 62 ∧ zq_at zy_cycle_14_43.2.1 118 28 ∧ zq_at zy_cycle_14_43.2.1 119 154 ∧ zq_at zy_cycle_14_43.2.1 120 0 ∧ zq_at zy_cycle_14_43.2.1 121 7 ∧ zq_at zy_cycle_14_43.2.1 126 3 := by decide +kernel
theorem zd_14_43_95 : zz_D zy_cycle_14_43 95 (.iconst 1) 1 96 := ⟨zq_4 zg_14_43_95.1, rfl⟩
theorem zd_14_43_96 : zz_D zy_cycle_14_43 96 (.iload_n 1) 1 97 := ⟨zq_27 zg_14_43_95.2.1, rfl⟩
theorem zd_14_43_97 : zz_D zy_cycle_14_43 97 (.invokevirtual 301) 3 100 := ⟨zq_182 zg_14_43_95.2.2.1 zg_14_43_95.2.2.2.1 zg_14_43_95.2.2.2.2.1 rfl, rfl⟩
theorem zd_14_43_100 : zz_B zy_cycle_14_43 100 (Instr.ifCond .ne) 112 103 := ⟨12, zq_154 zg_14_43_95.2.2.2.2.2.1 zg_14_43_95.2.2.2.2.2.2.1 zg_14_43_95.2.2.2.2.2.2.2.1 (by decide), rfl, rfl⟩
theorem zd_14_43_103 : zz_D zy_cycle_14_43 103 (.aload_n 0) 1 104 := ⟨zq_42 zg_14_43_95.2.2.2.2.2.2.2.2.1, rfl⟩
theorem zd_14_43_104 : zz_D zy_cycle_14_43 104 (.iconst 2) 1 105 := ⟨zq_5 zg_14_43_95.2.2.2.2.2.2.2.2.2.1, rfl⟩
theorem zd_14_43_105 : zz_D zy_cycle_14_43 105 (.iload_n 1) 1 106 := ⟨zq_27 zg_14_43_95.2.2.2.2.2.2.2.2.2.2.1, rfl⟩
theorem zd_14_43_106 : zz_D zy_cycle_14_43 106 (.invokevirtual 301) 3 109 := ⟨zq_182 zg_14_43_95.2.2.2.2.2.2.2.2.2.2.2.1 zg_14_43_95.2.2.2.2.2.2.2.2.2.2.2.2.1 zg_14_43_95.2.2.2.2.2.2.2.2.2.2.2.2.2.1 rfl, rfl⟩
theorem zd_14_43_109 : zz_B zy_cycle_14_43 109 (Instr.ifCond .eq) 116 112 := ⟨7, zq_153 zg_14_43_95.2.2.2.2.2.2.2.2.2.2.2.2.2.2.1 zg_14_43_95.2.2.2.2.2.2.2.2.2.2.2.2.2.2.2.1 zg_14_43_95.2.2.2.2.2.2.2.2.2.2.2.2.2.2.2.2.1 (by decide), rfl, rfl⟩
theorem zd_14_43_116 : zz_D zy_cycle_14_43 116 (.iconst 0) 1 117 := ⟨zq_3 zg_14_43_95.2.2.2.2.2.2.2.2.2.2.2.2.2.2.2.2.2.1, rfl⟩
theorem zd_14_43_117 : zz_D zy_cycle_14_43 117 (.istore_n 3) 1 118 := ⟨zq_62 zg_14_43_95.2.2.2.2.2.2.2.2.2.2.2.2.2.2.2.2.2.2.1, rfl⟩
theorem zd_14_43_118 : zz_D zy_cycle_14_43 118 (.iload_n 2) 1 119 := ⟨zq_28 zg_14_43_95.2.2.2.2.2.2.2.2.2.2.2.2.2.2.2.2.2.2.2.1, rfl⟩
theorem zd_14_43_119 : zz_B zy_cycle_14_43 119 (Instr.ifCond .ne) 126 122 := ⟨7, zq_154 zg_14_43_95.2.2.2.2.2.2.2.2.2.2.2.2.2.2.2.2.2.2.2.2.1 zg_14_43_95.2.2.2.2.2.2.2.2.2.2.2.2.2.2.2.2.2.2.2.2.2.1 zg_14_43_95.2.2.2.2.2.2.2.2.2.2.2.2.2.2.2.2.2.2.2.2.2.2.1 (by decide), rfl, rfl⟩
theorem zd_14_43_126 : zz_D zy_cycle_14_43 126 (.iconst 0) 1 127 := ⟨zq_3 zg_14_43_95.2.2.2.2.2.2.2.2.2.2.2.2.2.2.2.2.2.2.2.2.2.2.2, rfl⟩
theorem zg_14_43_127 : zq_at zy_cycle_14_43.2.1 127 172 ∧ zq_at zy_cycle_14_43.2.1 122 29 ∧ zq_at zy_cycle_14_43.2.1 123 153 ∧ zq_at zy_cycle_14_43.2.1 124 0 ∧ zq_at zy_cycle_14_43.2.1 125 5 ∧ zq_at zy_cycle_14_43.2.1 128 42 ∧ zq_at zy_cycle_14_43.2.1 129 180 ∧ zq_at zy_cycle_14_43.2.1 130 0 ∧ zq_at zy_cycle_14_43.2.1 131 73 ∧ zq_at zy_cycle_14_43.2.1 132 3 ∧ zq_at zy_cycle_14_43.2.1 133 46 ∧ zq_at zy_cycle_14_43.2.1 134 42 ∧ zq_at zy_cycle_14_43.2.1 135 180 ∧ zq_at zy_cycle_14_43.2.1 136 0 ∧ zq_at zy_cycle_14_43.2.1 137 73 ∧ zq_at zy_cycle_14_43.2.1 138 4 ∧ zq_at zy_cycle_14_43.2.1 139 46 ∧ zq_at zy_cycle_14_43.2.1 140 162 ∧ zq_at zy_cycle_14_43.2.1 141 0 ∧ zq_at zy_cycle_14_43.2.1 142 12 ∧ zq_at zy_cycle_14_43.2.1 152 42 ∧ zq_at zy_cycle_14_43.2.1 153 180 ∧ zq_at zy_cycle_14_43.2.1 154 0 ∧ zq_at zy_cycle_14_43.2.1 155 73 := by decide +kernel
theorem zd_14_43_127 : zz_D zy_cycle_14_43 127 (.ireturn) 1 128 := ⟨zq_172 zg_14_43_127.1, rfl⟩
theorem zd_14_43_122 : zz_D zy_cycle_14_43 122 (.iload_n 3) 1 123 := ⟨zq_29 zg_14_43_127.2.1, rfl⟩
theorem zd_14_43_123 : zz_B zy_cycle_14_43 123 (Instr.ifCond .eq) 128 126 := ⟨5, zq_153 zg_14_43_127.2.2.1 zg_14_43_127.2.2.2.1 zg_14_43_127.2.2.2.2.1 (by decide), rfl, rfl⟩
theorem zd_14_43_128 : zz_D zy_cycle_14_43 128 (.aload_n 0) 1 129 := ⟨zq_42 zg_14_43_127.2.2.2.2.2.1, rfl⟩
theorem zd_14_43_129 : zz_D zy_cycle_14_43 129 (.getfield 73) 3 132 := ⟨zq_180 zg_14_43_127.2.2.2.2.2.2.1 zg_14_43_127.2.2.2.2.2.2.2.1 zg_14_43_127.2.2.2.2.2.2.2.2.1 rfl, rfl⟩
theorem zd_14_43_132 : zz_D zy_cycle_14_43 132 (.iconst 0) 1 133 := ⟨zq_3 zg_14_43_127.2.2.2.2.2.2.2.2.2.1, rfl⟩
theorem zd_14_43_133 : zz_D zy_cycle_14_43 133 (.iaload) 1 134 := ⟨zq_46 zg_14_43_127.2.2.2.2.2.2.2.2.2.2.1, rfl⟩
theorem zd_14_43_134 : zz_D zy_cycle_14_43 134 (.aload_n 0) 1 135 := ⟨zq_42 zg_14_43_127.2.2.2.2.2.2.2.2.2.2.2.1, rfl⟩
theorem zd_14_43_135 : zz_D zy_cycle_14_43 135 (.getfield 73) 3 138 := ⟨zq_180 zg_14_43_127.2.2.2.2.2.2.2.2.2.2.2.2.1 zg_14_43_127.2.2.2.2.2.2.2.2.2.2.2.2.2.1 zg_14_43_127.2.2.2.2.2.2.2.2.2.2.2.2.2.2.1 rfl, rfl⟩
theorem zd_14_43_138 : zz_D zy_cycle_14_43 138 (.iconst 1) 1 139 := ⟨zq_4 zg_14_43_127.2.2.2.2.2.2.2.2.2.2.2.2.2.2.2.1, rfl⟩
theorem zd_14_43_139 : zz_D zy_cycle_14_43 139 (.iaload) 1 140 := ⟨zq_46 zg_14_43_127.2.2.2.2.2.2.2.2.2.2.2.2.2.2.2.2.1, rfl⟩
theorem zd_14_43_140 : zz_B zy_cycle_14_43 140 (Instr.if_icmp .ge) 152 143 := ⟨12, zq_162 zg_14_43_127.2.2.2.2.2.2.2.2.2.2.2.2.2.2.2.2.2.1 zg_14_43_127.2.2.2.2.2.2.2.2.2.2.2.2.2.2.2.2.2.2.1 zg_14_43_127.2.2.2.2.2.2.2.2.2.2.2.2.2.2.2.2.2.2.2.1 (by decide), rfl, rfl⟩
theorem zd_14_43_152 : zz_D zy_cycle_14_43 152 (.aload_n 0) 1 153 := ⟨zq_42 zg_14_43_127.2.2.2.2.2.2.2.2.2.2.2.2.2.2.2.2.2.2.2.2.1, rfl⟩
theorem zd_14_43_153 : zz_D zy_cycle_14_43 153 (.getfield 73) 3 156 := ⟨zq_180 zg_14_43_127.2.2.2.2.2.2.2.2.2.2.2.2.2.2.2.2.2.2.2.2.2.1 zg_14_43_127.2.2.2.2.2.2.2.2.2.2.2.2.2.2.2.2.2.2.2.2.2.2.1 zg_14_43_127.2.2.2.2.2.2.2.2.2.2.2.2.2.2.2.2.2.2.2.2.2.2.2 rfl, rfl⟩
theorem zg_14_43_156 : zq_at zy_cycle_14_43.2.1 156 4 ∧ zq_at zy_cycle_14_43.2.1 157 46 ∧ zq_at zy_cycle_14_43.2.1 158 54 ∧ zq_at zy_cycle_14_43.2.1 159 4 ∧ zq_at zy_cycle_14_43.2.1 160 42 ∧ zq_at zy_cycle_14_43.2.1 161 180 ∧ zq_at zy_cycle_14_43.2.1 162 0 ∧ zq_at zy_cycle_14_43.2.1 163 73 ∧ zq_at zy_cycle_14_43.2.1 164 5 ∧ zq_at zy_cycle_14_43.2.1 165 46 ∧ zq_at zy_cycle_14_43.2.1 166 21 ∧ zq_at zy_cycle_14_43.2.1 167 4 ∧ zq_at zy_cycle_14_43.2.1 168 162 ∧ zq_at zy_cycle_14_43.2.1 169 0 ∧ zq_at zy_cycle_14_43.2.1 170 12 ∧ zq_at zy_cycle_14_43.2.1 180 21 ∧ zq_at zy_cycle_14_43.2.1 181 4 ∧ zq_at zy_cycle_14_43.2.1 182 54 ∧ zq_at zy_cycle_14_43.2.1 183 4 ∧ zq_at zy_cycle_14_43.2.1 184 21 ∧ zq_at zy_cycle_14_43.2.1 185 4 ∧ zq_at zy_cycle_14_43.2.1 186 42 := by decide +kernel
theorem zd_14_43_156 : zz_D zy_cycle_14_43 156 (.iconst 1) 1 157 := ⟨zq_4 zg_14_43_156.1, rfl⟩
theorem zd_14_43_157 : zz_D zy_cycle_14_43 157 (.iaload) 1 158 := ⟨zq_46 zg_14_43_156.2.1, rfl⟩
theorem zd_14_43_158 : zz_D zy_cycle_14_43 158 (.istore 4) 2 160 := ⟨zq_54 zg_14_43_156.2.2.1 zg_14_43_156.2.2.2.1, rfl⟩
theorem zd_14_43_160 : zz_D zy_cycle_14_43 160 (.aload_n 0) 1 161 := ⟨zq_42 zg_14_43_156.2.2.2.2.1, rfl⟩
theorem zd_14_43_161 : zz_D zy_cycle_14_43 161 (.getfield 73) 3 164 := ⟨zq_180 zg_14_43_156.2.2.2.2.2.1 zg_14_43_156.2.2.2.2.2.2.1 zg_14_43_156.2.2.2.2.2.2.2.1 rfl, rfl⟩
theorem zd_14_43_164 : zz_D zy_cycle_14_43 164 (.iconst 2) 1 165 := ⟨zq_5 zg_14_43_156.2.2.2.2.2.2.2.2.1, rfl⟩
theorem zd_14_43_165 : zz_D zy_cycle_14_43 165 (.iaload) 1 166 := ⟨zq_46 zg_14_43_156.2.2.2.2.2.2.2.2.2.1, rfl⟩
theorem zd_14_43_166 : zz_D zy_cycle_14_43 166 (.iload 4) 2 168 := ⟨zq_21 zg_14_43_156.2.2.2.2.2.2.2.2.2.2.1 zg_14_43_156.2.2.2.2.2.2.2.2.2.2.2.1, rfl⟩
theorem zd_14_43_168 : zz_B zy_cycle_14_43 168 (Instr.if_icmp .ge) 180 171 := ⟨12, zq_162 zg_14_43_156.2.2.2.2.2.2.2.2.2.2.2.2.1 zg_14_43_156.2.2.2.2.2.2.2.2.2.2.2.2.2.1 zg_14_43_156.2.2.2.2.2.2.2.2.2.2.2.2.2.2.1 (by decide), rfl, rfl⟩
theorem zd_14_43_180 : zz_D zy_cycle_14_43 180 (.iload 4) 2 182 := ⟨zq_21 zg_14_43_156.2.2.2.2.2.2.2.2.2.2.2.2.2.2.2.1 zg_14_43_156.2.2.2.2.2.2.2.2.2.2.2.2.2.2.2.2.1, rfl⟩
theorem zd_14_43_182 : zz_D zy_cycle_14_43 182 (.istore 4) 2 184 := ⟨zq_54 zg_14_43_156.2.2.2.2.2.2.2.2.2.2.2.2.2.2.2.2.2.1 zg_14_43_156.2.2.2.2.2.2.2.2.2.2.2.2.2.2.2.2.2.2.1, rfl⟩
theorem zd_14_43_184 : zz_D zy_cycle_14_43 184 (.iload 4) 2 186 := ⟨zq_21 zg_14_43_156.2.2.2.2.2.2.2.2.2.2.2.2.2.2.2.2.2.2.2.1 zg_14_43_156.2.2.2.2.2.2.2.2.2.2.2.2.2.2.2.2.2.2.2.2.1, rfl⟩
theorem zd_14_43_186 : zz_D zy_cycle_14_43 186 (.aload_n 0) 1 187 := ⟨zq_42 zg_14_43_156.2.2.2.2.2.2.2.2.2.2.2.2.2.2.2.2.2.2.2.2.2, rfl⟩
theorem zg_14_43_187 : zq_at zy_cycle_14_43.2.1 187 180 ∧ zq_at zy_cycle_14_43.2.1 188 1 ∧ zq_at zy_cycle_14_43.2.1 189 16 ∧ zq_at zy_cycle_14_43.2.1 190 161 ∧ zq_at zy_cycle_14_43.2.1 191 0 ∧ zq_at zy_cycle_14_43.2.1 192 13 ∧ zq_at zy_cycle_14_43.2.1 203 42 ∧ zq_at zy_cycle_14_43.2.1 204 7 ∧ zq_at zy_cycle_14_43.2.1 205 21 ∧ zq_at zy_cycle_14_43.2.1 206 4 ∧ zq_at zy_cycle_14_43.2.1 207 27 ∧ zq_at zy_cycle_14_43.2.1 208 182 ∧ zq_at zy_cycle_14_43.2.1 209 1 ∧ zq_at zy_cycle_14_43.2.1 210 55 ∧ zq_at zy_cycle_14_43.2.1 211 172 ∧ zq_at zy_cycle_14_43.2.1 193 42 ∧ zq_at zy_cycle_14_43.2.1 194 4 ∧ zq_at zy_cycle_14_43.2.1 195 2 ∧ zq_at zy_cycle_14_43.2.1 196 27 ∧ zq_at zy_cycle_14_43.2.1 197 182 ∧ zq_at zy_cycle_14_43.2.1 198 1 ∧ zq_at zy_cycle_14_43.2.1 199 55 := by decide +kernel
theorem zd_14_43_187 : zz_D zy_cycle_14_43 187 (.getfield 272) 3 190 := ⟨zq_180 zg_14_43_187.1 zg_14_43_187.2.1 zg_14_43_187.2.2.1 rfl, rfl⟩
theorem zd_14_43_190 : zz_B zy_cycle_14_43 190 (Instr.if_icmp .lt) 203 193 := ⟨13, zq_161 zg_14_43_187.2.2.2.1 zg_14_43_187.2.2.2.2.1 zg_14_43_187.2.2.2.2.2.1 (by decide), rfl, rfl⟩
theorem zd_14_43_203 : zz_D zy_cycle_14_43 203 (.aload_n 0) 1 204 := ⟨zq_42 zg_14_43_187.2.2.2.2.2.2.1, rfl⟩
theorem zd_14_43_204 : zz_D zy_cycle_14_43 204 (.iconst 4) 1 205 := ⟨zq_7 zg_14_43_187.2.2.2.2.2.2.2.1, rfl⟩
theorem zd_14_43_205 : zz_D zy_cycle_14_43 205 (.iload 4) 2 207 := ⟨zq_21 zg_14_43_187.2.2.2.2.2.2.2.2.1 zg_14_43_187.2.2.2.2.2.2.2.2.2.1, rfl⟩
theorem zd_14_43_207 : zz_D zy_cycle_14_43 207 (.iload_n 1) 1 208 := ⟨zq_27 zg_14_43_187.2.2.2.2.2.2.2.2.2.2.1, rfl⟩
theorem zd_14_43_208 : zz_D zy_cycle_14_43 208 (.invokevirtual 311) 3 211 := ⟨zq_182 zg_14_43_187.2.2.2.2.2.2.2.2.2.2.2.1 zg_14_43_187.2.2.2.2.2.2.2.2.2.2.2.2.1 zg_14_43_187.2.2.2.2.2.2.2.2.2.2.2.2.2.1 rfl, rfl⟩
theorem zd_14_43_211 : zz_D zy_cycle_14_43 211 (.ireturn) 1 212 := ⟨zq_172 zg_14_43_187.2.2.2.2.2.2.2.2.2.2.2.2.2.2.1, rfl⟩
theorem zd_14_43_193 : zz_D zy_cycle_14_43 193 (.aload_n 0) 1 194 := ⟨zq_42 zg_14_43_187.2.2.2.2.2.2.2.2.2.2.2.2.2.2.2.1, rfl⟩
theorem zd_14_43_194 : zz_D zy_cycle_14_43 194 (.iconst 1) 1 195 := ⟨zq_4 zg_14_43_187.2.2.2.2.2.2.2.2.2.2.2.2.2.2.2.2.1, rfl⟩
theorem zd_14_43_195 : zz_D zy_cycle_14_43 195 (.iconst (-1)) 1 196 := ⟨zq_2 zg_14_43_187.2.2.2.2.2.2.2.2.2.2.2.2.2.2.2.2.2.1, rfl⟩
theorem zd_14_43_196 : zz_D zy_cycle_14_43 196 (.iload_n 1) 1 197 := ⟨zq_27 zg_14_43_187.2.2.2.2.2.2.2.2.2.2.2.2.2.2.2.2.2.2.1, rfl⟩
theorem zd_14_43_197 : zz_D zy_cycle_14_43 197 (.invokevirtual 311) 3 200 := ⟨zq_182 zg_14_43_187.2.2.2.2.2.2.2.2.2.2.2.2.2.2.2.2.2.2.2.1 zg_14_43_187.2.2.2.2.2.2.2.2.2.2.2.2.2.2.2.2.2.2.2.2.1 zg_14_43_187.2.2.2.2.2.2.2.2.2.2.2.2.2.2.2.2.2.2.2.2.2 rfl, rfl⟩
theorem zg_14_43_200 : zq_at zy_cycle_14_43.2.1 200 167 ∧ zq_at zy_cycle_14_43.2.1 201 0 ∧ zq_at zy_cycle_14_43.2.1 202 11 ∧ zq_at zy_cycle_14_43.2.1 171 42 ∧ zq_at zy_cycle_14_43.2.1 172 180 ∧ zq_at zy_cycle_14_43.2.1 173 0 ∧ zq_at zy_cycle_14_43.2.1 174 73 ∧ zq_at zy_cycle_14_43.2.1 175 5 ∧ zq_at zy_cycle_14_43.2.1 176 46 ∧ zq_at zy_cycle_14_43.2.1 177 167 ∧ zq_at zy_cycle_14_43.2.1 178 0 ∧ zq_at zy_cycle_14_43.2.1 179 5 ∧ zq_at zy_cycle_14_43.2.1 143 42 ∧ zq_at zy_cycle_14_43.2.1 144 180 ∧ zq_at zy_cycle_14_43.2.1 145 0 ∧ zq_at zy_cycle_14_43.2.1 146 73 ∧ zq_at zy_cycle_14_43.2.1 147 3 ∧ zq_at zy_cycle_14_43.2.1 148 46 ∧ zq_at zy_cycle_14_43.2.1 149 167 ∧ zq_at zy_cycle_14_43.2.1 150 0 ∧ zq_at zy_cycle_14_43.2.1 151 9 ∧ zq_at zy_cycle_14_43.2.1 112 4 := by decide +kernel
theorem zd_14_43_200 : zz_B zy_cycle_14_43 200 Instr.goto 211 203 := ⟨11, zq_167 zg_14_43_200.1 zg_14_43_200.2.1 zg_14_43_200.2.2.1 (by decide), rfl, rfl⟩
theorem zd_14_43_171 : zz_D zy_cycle_14_43 171 (.aload_n 0) 1 172 := ⟨zq_42 zg_14_43_200.2.2.2.1, rfl⟩
theorem zd_14_43_172 : zz_D zy_cycle_14_43 172 (.getfield 73) 3 175 := ⟨zq_180 zg_14_43_200.2.2.2.2.1 zg_14_43_200.2.2.2.2.2.1 zg_14_43_200.2.2.2.2.2.2.1 rfl, rfl⟩
theorem zd_14_43_175 : zz_D zy_cycle_14_43 175 (.iconst 2) 1 176 := ⟨zq_5 zg_14_43_200.2.2.2.2.2.2.2.1, rfl⟩
theorem zd_14_43_176 : zz_D zy_cycle_14_43 176 (.iaload) 1 177 := ⟨zq_46 zg_14_43_200.2.2.2.2.2.2.2.2.1, rfl⟩
theorem zd_14_43_177 : zz_B zy_cycle_14_43 177 Instr.goto 182 180 := ⟨5, zq_167 zg_14_43_200.2.2.2.2.2.2.2.2.2.1 zg_14_43_200.2.2.2.2.2.2.2.2.2.2.1 zg_14_43_200.2.2.2.2.2.2.2.2.2.2.2.1 (by decide), rfl, rfl⟩
theorem zd_14_43_143 : zz_D zy_cycle_14_43 143 (.aload_n 0) 1 144 := ⟨zq_42 zg_14_43_200.2.2.2.2.2.2.2.2.2.2.2.2.1, rfl⟩
theorem zd_14_43_144 : zz_D zy_cycle_14_43 144 (.getfield 73) 3 147 := ⟨zq_180 zg_14_43_200.2.2.2.2.2.2.2.2.2.2.2.2.2.1 zg_14_43_200.2.2.2.2.2.2.2.2.2.2.2.2.2.2.1 zg_14_43_200.2.2.2.2.2.2.2.2.2.2.2.2.2.2.2.1 rfl, rfl⟩
theorem zd_14_43_147 : zz_D zy_cycle_14_43 147 (.iconst 0) 1 148 := ⟨zq_3 zg_14_43_200.2.2.2.2.2.2.2.2.2.2.2.2.2.2.2.2.1, rfl⟩
theorem zd_14_43_148 : zz_D zy_cycle_14_43 148 (.iaload) 1 149 := ⟨zq_46 zg_14_43_200.2.2.2.2.2.2.2.2.2.2.2.2.2.2.2.2.2.1, rfl⟩
theorem zd_14_43_149 : zz_B zy_cycle_14_43 149 Instr.goto 158 152 := ⟨9, zq_167 zg_14_43_200.2.2.2.2.2.2.2.2.2.2.2.2.2.2.2.2.2.2.1 zg_14_43_200.2.2.2.2.2.2.2.2.2.2.2.2.2.2.2.2.2.2.2.1 zg_14_43_200.2.2.2.2.2.2.2.2.2.2.2.2.2.2.2.2.2.2.2.2.1 (by decide), rfl, rfl⟩
theorem zd_14_43_112 : zz_D zy_cycle_14_43 112 (.iconst 1) 1 113 := ⟨zq_4 zg_14_43_200.2.2.2.2.2.2.2.2.2.2.2.2.2.2.2.2.2.2.2.2.2, rfl⟩
theorem zg_14_43_113 : zq_at zy_cycle_14_43.2.1 113 167 ∧ zq_at zy_cycle_14_43.2.1 114 0 ∧ zq_at zy_cycle_14_43.2.1 115 4 ∧ zq_at zy_cycle_14_43.2.1 14 42 ∧ zq_at zy_cycle_14_43.2.1 15 180 ∧ zq_at zy_cycle_14_43.2.1 16 0 ∧ zq_at zy_cycle_14_43.2.1 17 73 ∧ zq_at zy_cycle_14_43.2.1 18 29 ∧ zq_at zy_cycle_14_43.2.1 19 46 ∧ zq_at zy_cycle_14_43.2.1 20 42 ∧ zq_at zy_cycle_14_43.2.1 21 180 ∧ zq_at zy_cycle_14_43.2.1 22 1 ∧ zq_at zy_cycle_14_43.2.1 23 16 ∧ zq_at zy_cycle_14_43.2.1 24 162 ∧ zq_at zy_cycle_14_43.2.1 25 0 ∧ zq_at zy_cycle_14_43.2.1 26 55 ∧ zq_at zy_cycle_14_43.2.1 79 132 ∧ zq_at zy_cycle_14_43.2.1 80 3 ∧ zq_at zy_cycle_14_43.2.1 81 1 ∧ zq_at zy_cycle_14_43.2.1 82 167 ∧ zq_at zy_cycle_14_43.2.1 83 255 ∧ zq_at zy_cycle_14_43.2.1 84 183 ∧ zq_at zy_cycle_14_43.2.1 27 42 ∧ zq_at zy_cycle_14_43.2.1 28 29 := by decide +kernel
theorem zd_14_43_113 : zz_B zy_cycle_14_43 113 Instr.goto 117 116 := ⟨4, zq_167 zg_14_43_113.1 zg_14_43_113.2.1 zg_14_43_113.2.2.1 (by decide), rfl, rfl⟩
theorem zd_14_43_14 : zz_D zy_cycle_14_43 14 (.aload_n 0) 1 15 := ⟨zq_42 zg_14_43_113.2.2.2.1, rfl⟩
theorem zd_14_43_15 : zz_D zy_cycle_14_43 15 (.getfield 73) 3 18 := ⟨zq_180 zg_14_43_113.2.2.2.2.1 zg_14_43_113.2.2.2.2.2.1 zg_14_43_113.2.2.2.2.2.2.1 rfl, rfl⟩
theorem zd_14_43_18 : zz_D zy_cycle_14_43 18 (.iload_n 3) 1 19 := ⟨zq_29 zg_14_43_113.2.2.2.2.2.2.2.1, rfl⟩
theorem zd_14_43_19 : zz_D zy_cycle_14_43 19 (.iaload) 1 20 := ⟨zq_46 zg_14_43_113.2.2.2.2.2.2.2.2.1, rfl⟩
theorem zd_14_43_20 : zz_D zy_cycle_14_43 20 (.aload_n 0) 1 21 := ⟨zq_42 zg_14_43_113.2.2.2.2.2.2.2.2.2.1, rfl⟩
theorem zd_14_43_21 : zz_D zy_cycle_14_43 21 (.getfield 272) 3 24 := ⟨zq_180 zg_14_43_113.2.2.2.2.2.2.2.2.2.2.1 zg_14_43_113.2.2.2.2.2.2.2.2.2.2.2.1 zg_14_43_113.2.2.2.2.2.2.2.2.2.2.2.2.1 rfl, rfl⟩
theorem zd_14_43_24 : zz_B zy_cycle_14_43 24 (Instr.if_icmp .ge) 79 27 := ⟨55, zq_162 zg_14_43_113.2.2.2.2.2.2.2.2.2.2.2.2.2.1 zg_14_43_113.2.2.2.2.2.2.2.2.2.2.2.2.2.2.1 zg_14_43_113.2.2.2.2.2.2.2.2.2.2.2.2.2.2.2.1 (by decide), rfl, rfl⟩
theorem zd_14_43_79 : zz_D zy_cycle_14_43 79 (.iinc 3 1) 3 82 := ⟨zq_132 zg_14_43_113.2.2.2.2.2.2.2.2.2.2.2.2.2.2.2.2.1 zg_14_43_113.2.2.2.2.2.2.2.2.2.2.2.2.2.2.2.2.2.1 zg_14_43_113.2.2.2.2.2.2.2.2.2.2.2.2.2.2.2.2.2.2.1 (by decide), rfl⟩
theorem zd_14_43_82 : zz_B zy_cycle_14_43 82 Instr.goto 9 85 := ⟨(-73), zq_167 zg_14_43_113.2.2.2.2.2.2.2.2.2.2.2.2.2.2.2.2.2.2.2.1 zg_14_43_113.2.2.2.2.2.2.2.2.2.2.2.2.2.2.2.2.2.2.2.2.1 zg_14_43_113.2.2.2.2.2.2.2.2.2.2.2.2.2.2.2.2.2.2.2.2.2.1 (by decide), rfl, rfl⟩
theorem zd_14_43_27 : zz_D zy_cycle_14_43 27 (.aload_n 0) 1 28 := ⟨zq_42 zg_14_43_113.2.2.2.2.2.2.2.2.2.2.2.2.2.2.2.2.2.2.2.2.2.2.1, rfl⟩
theorem zd_14_43_28 : zz_D zy_cycle_14_43 28 (.iload_n 3) 1 29 := ⟨zq_29 zg_14_43_113.2.2.2.2.2.2.2.2.2.2.2.2.2.2.2.2.2.2.2.2.2.2.2, rfl⟩
theorem zg_14_43_29 : zq_at zy_cycle_14_43.2.1 29 27 ∧ zq_at zy_cycle_14_43.2.1 30 182 ∧ zq_at zy_cycle_14_43.2.1 31 1 ∧ zq_at zy_cycle_14_43.2.1 32 45 ∧ zq_at zy_cycle_14_43.2.1 33 154 ∧ zq_at zy_cycle_14_43.2.1 34 0 ∧ zq_at zy_cycle_14_43.2.1 35 46 ∧ zq_at zy_cycle_14_43.2.1 36 42 ∧ zq_at zy_cycle_14_43.2.1 37 29 ∧ zq_at zy_cycle_14_43.2.1 38 182 ∧ zq_at zy_cycle_14_43.2.1 39 1 ∧ zq_at zy_cycle_14_43.2.1 40 48 ∧ zq_at zy_cycle_14_43.2.1 41 153 ∧ zq_at zy_cycle_14_43.2.1 42 0 ∧ zq_at zy_cycle_14_43.2.1 43 38 ∧ zq_at zy_cycle_14_43.2.1 44 42 ∧ zq_at zy_cycle_14_43.2.1 45 42 ∧ zq_at zy_cycle_14_43.2.1 46 180 ∧ zq_at zy_cycle_14_43.2.1 47 0 ∧ zq_at zy_cycle_14_43.2.1 48 73 ∧ zq_at zy_cycle_14_43.2.1 49 29 ∧ zq_at zy_cycle_14_43.2.1 50 46 ∧ zq_at zy_cycle_14_43.2.1 51 27 := by decide +kernel
theorem zd_14_43_29 : zz_D zy_cycle_14_43 29 (.iload_n 1) 1 30 := ⟨zq_27 zg_14_43_29.1, rfl⟩
theorem zd_14_43_30 : zz_D zy_cycle_14_43 30 (.invokevirtual 301) 3 33 := ⟨zq_182 zg_14_43_29.2.1 zg_14_43_29.2.2.1 zg_14_43_29.2.2.2.1 rfl, rfl⟩
theorem zd_14_43_33 : zz_B zy_cycle_14_43 33 (Instr.ifCond .ne) 79 36 := ⟨46, zq_154 zg_14_43_29.2.2.2.2.1 zg_14_43_29.2.2.2.2.2.1 zg_14_43_29.2.2.2.2.2.2.1 (by decide), rfl, rfl⟩
theorem zd_14_43_36 : zz_D zy_cycle_14_43 36 (.aload_n 0) 1 37 := ⟨zq_42 zg_14_43_29.2.2.2.2.2.2.2.1, rfl⟩
theorem zd_14_43_37 : zz_D zy_cycle_14_43 37 (.iload_n 3) 1 38 := ⟨zq_29 zg_14_43_29.2.2.2.2.2.2.2.2.1, rfl⟩
theorem zd_14_43_38 : zz_D zy_cycle_14_43 38 (.invokevirtual 304) 3 41 := ⟨zq_182 zg_14_43_29.2.2.2.2.2.2.2.2.2.1 zg_14_43_29.2.2.2.2.2.2.2.2.2.2.1 zg_14_43_29.2.2.2.2.2.2.2.2.2.2.2.1 rfl, rfl⟩
theorem zd_14_43_41 : zz_B zy_cycle_14_43 41 (Instr.ifCond .eq) 79 44 := ⟨38, zq_153 zg_14_43_29.2.2.2.2.2.2.2.2.2.2.2.2.1 zg_14_43_29.2.2.2.2.2.2.2.2.2.2.2.2.2.1 zg_14_43_29.2.2.2.2.2.2.2.2.2.2.2.2.2.2.1 (by decide), rfl, rfl⟩
theorem zd_14_43_44 : zz_D zy_cycle_14_43 44 (.aload_n 0) 1 45 := ⟨zq_42 zg_14_43_29.2.2.2.2.2.2.2.2.2.2.2.2.2.2.2.1, rfl⟩
theorem zd_14_43_45 : zz_D zy_cycle_14_43 45 (.aload_n 0) 1 46 := ⟨zq_42 zg_14_43_29.2.2.2.2.2.2.2.2.2.2.2.2.2.2.2.2.1, rfl⟩
theorem zd_14_43_46 : zz_D zy_cycle_14_43 46 (.getfield 73) 3 49 := ⟨zq_180 zg_14_43_29.2.2.2.2.2.2.2.2.2.2.2.2.2.2.2.2.2.1 zg_14_43_29.2.2.2.2.2.2.2.2.2.2.2.2.2.2.2.2.2.2.1 zg_14_43_29.2.2.2.2.2.2.2.2.2.2.2.2.2.2.2.2.2.2.2.1 rfl, rfl⟩
theorem zd_14_43_49 : zz_D zy_cycle_14_43 49 (.iload_n 3) 1 50 := ⟨zq_29 zg_14_43_29.2.2.2.2.2.2.2.2.2.2.2.2.2.2.2.2.2.2.2.2.1, rfl⟩
theorem zd_14_43_50 : zz_D zy_cycle_14_43 50 (.iaload) 1 51 := ⟨zq_46 zg_14_43_29.2.2.2.2.2.2.2.2.2.2.2.2.2.2.2.2.2.2.2.2.2.1, rfl⟩
theorem zd_14_43_51 : zz_D zy_cycle_14_43 51 (.iload_n 1) 1 52 := ⟨zq_27 zg_14_43_29.2.2.2.2.2.2.2.2.2.2.2.2.2.2.2.2.2.2.2.2.2.2, rfl⟩
theorem zg_14_43_52 : zq_at zy_cycle_14_43.2.1 52 182 ∧ zq_at zy_cycle_14_43.2.1 53 1 ∧ zq_at zy_cycle_14_43.2.1 54 52 ∧ zq_at zy_cycle_14_43.2.1 55 153 ∧ zq_at zy_cycle_14_43.2.1 56 0 ∧ zq_at zy_cycle_14_43.2.1 57 16 ∧ zq_at zy_cycle_14_43.2.1 71 42 ∧ zq_at zy_cycle_14_43.2.1 72 29 ∧ zq_at zy_cycle_14_43.2.1 73 27 ∧ zq_at zy_cycle_14_43.2.1 74 182 ∧ zq_at zy_cycle_14_43.2.1 75 1 ∧ zq_at zy_cycle_14_43.2.1 76 59 ∧ zq_at zy_cycle_14_43.2.1 77 4 ∧ zq_at zy_cycle_14_43.2.1 78 61 ∧ zq_at zy_cycle_14_43.2.1 58 42 ∧ zq_at zy_cycle_14_43.2.1 59 6 ∧ zq_at zy_cycle_14_43.2.1 60 42 ∧ zq_at zy_cycle_14_43.2.1 61 180 ∧ zq_at zy_cycle_14_43.2.1 62 0 ∧ zq_at zy_cycle_14_43.2.1 63 73 ∧ zq_at zy_cycle_14_43.2.1 64 29 ∧ zq_at zy_cycle_14_43.2.1 65 46 ∧ zq_at zy_cycle_14_43.2.1 66 27 := by decide +kernel
theorem zd_14_43_52 : zz_D zy_cycle_14_43 52 (.invokevirtual 308) 3 55 := ⟨zq_182 zg_14_43_52.1 zg_14_43_52.2.1 zg_14_43_52.2.2.1 rfl, rfl⟩
theorem zd_14_43_55 : zz_B zy_cycle_14_43 55 (Instr.ifCond .eq) 71 58 := ⟨16, zq_153 zg_14_43_52.2.2.2.1 zg_14_43_52.2.2.2.2.1 zg_14_43_52.2.2.2.2.2.1 (by decide), rfl, rfl⟩
theorem zd_14_43_71 : zz_D zy_cycle_14_43 71 (.aload_n 0) 1 72 := ⟨zq_42 zg_14_43_52.2.2.2.2.2.2.1, rfl⟩
theorem zd_14_43_72 : zz_D zy_cycle_14_43 72 (.iload_n 3) 1 73 := ⟨zq_29 zg_14_43_52.2.2.2.2.2.2.2.1, rfl⟩
theorem zd_14_43_73 : zz_D zy_cycle_14_43 73 (.iload_n 1) 1 74 := ⟨zq_27 zg_14_43_52.2.2.2.2.2.2.2.2.1, rfl⟩
theorem zd_14_43_74 : zz_D zy_cycle_14_43 74 (.invokevirtual 315) 3 77 := ⟨zq_182 zg_14_43_52.2.2.2.2.2.2.2.2.2.1 zg_14_43_52.2.2.2.2.2.2.2.2.2.2.1 zg_14_43_52.2.2.2.2.2.2.2.2.2.2.2.1 rfl, rfl⟩
theorem zd_14_43_77 : zz_D zy_cycle_14_43 77 (.iconst 1) 1 78 := ⟨zq_4 zg_14_43_52.2.2.2.2.2.2.2.2.2.2.2.2.1, rfl⟩
theorem zd_14_43_78 : zz_D zy_cycle_14_43 78 (.istore_n 2) 1 79 := ⟨zq_61 zg_14_43_52.2.2.2.2.2.2.2.2.2.2.2.2.2.1, rfl⟩
theorem zd_14_43_58 : zz_D zy_cycle_14_43 58 (.aload_n 0) 1 59 := ⟨zq_42 zg_14_43_52.2.2.2.2.2.2.2.2.2.2.2.2.2.2.1, rfl⟩
theorem zd_14_43_59 : zz_D zy_cycle_14_43 59 (.iconst 3) 1 60 := ⟨zq_6 zg_14_43_52.2.2.2.2.2.2.2.2.2.2.2.2.2.2.2.1, rfl⟩
theorem zd_14_43_60 : zz_D zy_cycle_14_43 60 (.aload_n 0) 1 61 := ⟨zq_42 zg_14_43_52.2.2.2.2.2.2.2.2.2.2.2.2.2.2.2.2.1, rfl⟩
theorem zd_14_43_61 : zz_D zy_cycle_14_43 61 (.getfield 73) 3 64 := ⟨zq_180 zg_14_43_52.2.2.2.2.2.2.2.2.2.2.2.2.2.2.2.2.2.1 zg_14_43_52.2.2.2.2.2.2.2.2.2.2.2.2.2.2.2.2.2.2.1 zg_14_43_52.2.2.2.2.2.2.2.2.2.2.2.2.2.2.2.2.2.2.2.1 rfl, rfl⟩
theorem zd_14_43_64 : zz_D zy_cycle_14_43 64 (.iload_n 3) 1 65 := ⟨zq_29 zg_14_43_52.2.2.2.2.2.2.2.2.2.2.2.2.2.2.2.2.2.2.2.2.1, rfl⟩
theorem zd_14_43_65 : zz_D zy_cycle_14_43 65 (.iaload) 1 66 := ⟨zq_46 zg_14_43_52.2.2.2.2.2.2.2.2.2.2.2.2.2.2.2.2.2.2.2.2.2.1, rfl⟩
theorem zd_14_43_66 : zz_D zy_cycle_14_43 66 (.iload_n 1) 1 67 := ⟨zq_27 zg_14_43_52.2.2.2.2.2.2.2.2.2.2.2.2.2.2.2.2.2.2.2.2.2.2, rfl⟩
theorem zg_14_43_67 : zq_at zy_cycle_14_43.2.1 67 182 ∧ zq_at zy_cycle_14_43.2.1 68 1 ∧ zq_at zy_cycle_14_43.2.1 69 55 ∧ zq_at zy_cycle_14_43.2.1 70 172 := by decide +kernel
theorem zd_14_43_67 : zz_D zy_cycle_14_43 67 (.invokevirtual 311) 3 70 := ⟨zq_182 zg_14_43_67.1 zg_14_43_67.2.1 zg_14_43_67.2.2.1 rfl, rfl⟩
theorem zd_14_43_70 : zz_D zy_cycle_14_43 70 (.ireturn) 1 71 := ⟨zq_172 zg_14_43_67.2.2.2, rfl⟩
-- TensorForgeModel cycle (I)I
abbrev zr_cycle_14_43 : Room := { frames := 4, cells := 0, slots := 0, locals := 67 }
def zp_cycle_14_43 (p0 : Int) (S0 : zz_S) : Int → zz_S → Prop := fun r S => zz_G S ∧ zz_fr [(1079, 14), (1079, 15), (1079, 16), (1087, 0), (1087, 1), (1087, 2), (1087, 3), (1087, 4), (1087, 5), (1087, 6), (1087, 7), (1087, 8), (1087, 9), (1087, 10), (1087, 11), (1088, 0), (1088, 1), (1088, 2), (1088, 3), (1088, 4), (1088, 5), (1088, 6), (1088, 7), (1088, 8), (1088, 9), (1089, 0), (1089, 1), (1089, 2), (1089, 3), (1089, 4), (1089, 5), (1089, 6), (1089, 7), (1089, 8), (1089, 9), (1090, 0), (1090, 1), (1090, 2), (1097, 0), (1097, 1), (1097, 2), (1098, 0), (1098, 1), (1098, 2)] [1080, 1081, 1082, 1083, 1084, 1091, 1093, 1094, 1095, 1115, 1116] (fun _ _ => False) S0 S ∧ (0 ≤ r ∧ r ≤ 4) ∧ (r = 0 → (S 1098 0 + S 1098 1 + S 1098 2) ≥ (S0 1098 0 + S0 1098 1 + S0 1098 2) + 1 ∨ ((S 1098 0 + S 1098 1 + S 1098 2) = (S0 1098 0 + S0 1098 1 + S0 1098 2) ∧ p0 < 2147483647)) ∧ (0 ≤ S 1098 0 ∧ 0 ≤ S 1098 1 ∧ 0 ≤ S 1098 2)
theorem zb_cycle_14_43_9 {g : mm_G} {l : Launch} (p0 : Int) (S0 : zz_S) (n : Nat) (hn : zz_end ≤ n) (G_S0 : zz_G S0) (hp0 : (-2147483648) ≤ p0 ∧ p0 ≤ 2147483647) (hL : ∀ u : Nat, (u : Int) < S0 1079 19 → zz_lgl (S0 1085 u) (S0 1079 1)) (hN : 0 ≤ S0 1098 0 ∧ 0 ≤ S0 1098 1 ∧ 0 ≤ S0 1098 2) (x2 : Int) (x3 : Int) (S : zz_S) (G_S : zz_G S) (F_S : zz_fr [(1079, 14), (1079, 15), (1079, 16), (1087, 0), (1087, 1), (1087, 2), (1087, 3), (1087, 4), (1087, 5), (1087, 6), (1087, 7), (1087, 8), (1087, 9), (1087, 10), (1087, 11), (1088, 0), (1088, 1), (1088, 2), (1088, 3), (1088, 4), (1088, 5), (1088, 6), (1088, 7), (1088, 8), (1088, 9), (1089, 0), (1089, 1), (1089, 2), (1089, 3), (1089, 4), (1089, 5), (1089, 6), (1089, 7), (1089, 8), (1089, 9), (1090, 0), (1090, 1), (1090, 2), (1097, 0), (1097, 1), (1097, 2), (1098, 0), (1098, 1), (1098, 2)] [1080, 1081, 1082, 1083, 1084, 1091, 1093, 1094, 1095, 1115, 1116] (fun _ _ => False) S0 S) (i9_0 : 0 ≤ x2 ∧ x2 ≤ 1) (i9_1 : 0 ≤ x3 ∧ x3 ≤ 3) (i9_2 : 0 ≤ S 1098 0 ∧ 0 ≤ S 1098 1 ∧ 0 ≤ S 1098 2) (i9_3 : (x2 = 0 ∧ (S 1098 0 + S 1098 1 + S 1098 2) = (S0 1098 0 + S0 1098 1 + S0 1098 2)) ∨ (x2 = 1 ∧ (S 1098 0 + S 1098 1 + S 1098 2) ≥ (S0 1098 0 + S0 1098 1 + S0 1098 2) + 1)) (R : Nat) (hR : (3 - x3).toNat = R) (k9 : ∀ (x2 : Int) (x3 : Int) (S : zz_S), zz_G S → zz_fr [(1079, 14), (1079, 15), (1079, 16), (1087, 0), (1087, 1), (1087, 2), (1087, 3), (1087, 4), (1087, 5), (1087, 6), (1087, 7), (1087, 8), (1087, 9), (1087, 10), (1087, 11), (1088, 0), (1088, 1), (1088, 2), (1088, 3), (1088, 4), (1088, 5), (1088, 6), (1088, 7), (1088, 8), (1088, 9), (1089, 0), (1089, 1), (1089, 2), (1089, 3), (1089, 4), (1089, 5), (1089, 6), (1089, 7), (1089, 8), (1089, 9), (1090, 0), (1090, 1), (1090, 2), (1097, 0), (1097, 1), (1097, 2), (1098, 0), (1098, 1), (1098, 2)] [1080, 1081, 1082, 1083, 1084, 1091, 1093, 1094, 1095, 1115, 1116] (fun _ _ => False) S0 S → (0 ≤ x2 ∧ x2 ≤ 1) → (0 ≤ x3 ∧ x3 ≤ 3) → (0 ≤ S 1098 0 ∧ 0 ≤ S 1098 1 ∧ 0 ≤ S 1098 2) → ((x2 = 0 ∧ (S 1098 0 + S 1098 1 + S 1098 2) = (S0 1098 0 + S0 1098 1 + S0 1098 2)) ∨ (x2 = 1 ∧ (S 1098 0 + S 1098 1 + S 1098 2) ≥ (S0 1098 0 + S0 1098 1 + S0 1098 2) + 1)) → (3 - x3).toNat < R → zz_E g l zy_cycle_14_43 zr_cycle_14_43 (zz_QI n (zp_cycle_14_43 p0 S0)) S n 9 [some (.ref 1079), some (zi p0), some (zi x2), some (zi x3)] [] 0 0) : zz_E g l zy_cycle_14_43 zr_cycle_14_43 (zz_QI n (zp_cycle_14_43 p0 S0)) S n 9 [some (.ref 1079), some (zi p0), some (zi x2), some (zi x3)] [] 0 0 := by
  refine zz_iload_n (x := x3) rfl zd_14_43_9 ?_
  refine zz_iconst zd_14_43_10 ?_
  refine zz_icmp_ge (by omega) (by omega) zd_14_43_11 (fun c9 => ?_) (fun c9 => ?_)
  · refine zz_aload_n (x := 1079) rfl zd_14_43_85 ?_
    refine zz_iconst zd_14_43_86 ?_
    refine zz_iload_n (x := p0) rfl zd_14_43_87 ?_
    refine zz_callVI [zi 0, zi p0] zd_14_43_88 zk_Md_301 zT_1079 (zz_ltn hn rfl) rfl rfl ⟨Nat.le_of_ble_eq_true rfl, Nat.le_of_ble_eq_true rfl⟩ ⟨rfl, rfl⟩ (Nat.zero_le _) (Nat.zero_le _) (zc_isBusy_14_39 0 p0 S n hn G_S (by omega) (by omega)) (fun v11 S10 hP => ?_)
    obtain ⟨rfl, o12, o13⟩ := hP
    rcases (by omega : v11 = 0 ∨ v11 = 1) with rfl | rfl
    · refine zz_if_ne (by omega) zd_14_43_91 (fun c14 => ?_) (fun c14 => ?_)
      · exfalso; omega
      · refine zz_aload_n (x := 1079) rfl zd_14_43_94 ?_
        refine zz_iconst zd_14_43_95 ?_
        refine zz_iload_n (x := p0) rfl zd_14_43_96 ?_
        refine zz_callVI [zi 1, zi p0] zd_14_43_97 zk_Md_301 zT_1079 (zz_ltn hn rfl) rfl rfl ⟨Nat.le_of_ble_eq_true rfl, Nat.le_of_ble_eq_true rfl⟩ ⟨rfl, rfl⟩ (Nat.zero_le _) (Nat.zero_le _) (zc_isBusy_14_39 1 p0 S n hn G_S (by omega) (by omega)) (fun v16 S15 hP => ?_)
        obtain ⟨rfl, o17, o18⟩ := hP
        rcases (by omega : v16 = 0 ∨ v16 = 1) with rfl | rfl
        · refine zz_if_ne (by omega) zd_14_43_100 (fun c19 => ?_) (fun c19 => ?_)
          · exfalso; omega
          · refine zz_aload_n (x := 1079) rfl zd_14_43_103 ?_
            refine zz_iconst zd_14_43_104 ?_
            refine zz_iload_n (x := p0) rfl zd_14_43_105 ?_
            refine zz_callVI [zi 2, zi p0] zd_14_43_106 zk_Md_301 zT_1079 (zz_ltn hn rfl) rfl rfl ⟨Nat.le_of_ble_eq_true rfl, Nat.le_of_ble_eq_true rfl⟩ ⟨rfl, rfl⟩ (Nat.zero_le _) (Nat.zero_le _) (zc_isBusy_14_39 2 p0 S n hn G_S (by omega) (by omega)) (fun v21 S20 hP => ?_)
            obtain ⟨rfl, o22, o23⟩ := hP
            rcases (by omega : v21 = 0 ∨ v21 = 1) with rfl | rfl
            · refine zz_if_eq (by omega) zd_14_43_109 (fun c24 => ?_) (fun c24 => ?_)
              · refine zz_iconst zd_14_43_116 ?_
                refine zz_istore_n [some (.ref 1079), some (zi p0), some (zi x2), some (zi 0)] zd_14_43_117 (by decide) rfl ?_
                refine zz_iload_n (x := x2) rfl zd_14_43_118 ?_
                refine zz_if_ne (by omega) zd_14_43_119 (fun c25 => ?_) (fun c25 => ?_)
                · refine zz_iconst zd_14_43_126 ?_
                  have g26 := zz_G.r G_S 1098 0 (-1) 601 rfl rfl
                  have g27 := zz_G.r G_S 1098 1 (-1) 601 rfl rfl
                  have g28 := zz_G.r G_S 1098 2 (-1) 601 rfl rfl
                  exact zz_iret zd_14_43_127 rfl (Nat.zero_le _) (Nat.zero_le _) ⟨_, _, rfl, G_S, F_S, by omega, by omega, by omega⟩
                · refine zz_iload_n (x := 0) rfl zd_14_43_122 ?_
                  refine zz_if_eq (by omega) zd_14_43_123 (fun c29 => ?_) (fun c29 => ?_)
                  · refine zz_aload_n (x := 1079) rfl zd_14_43_128 ?_
                    refine zz_getr (kd := 0) (z := 1098) zd_14_43_129 zf_Md_73 zT_1079 rfl (zz_ltn hn rfl) (zz_G.eq G_S 1079 26 1098 rfl rfl) (by decide) 1098 rfl ?_
                    refine zz_iconst zd_14_43_132 ?_
                    have g30 := zz_G.r G_S 1098 0 (-1) 601 rfl rfl
                    refine zz_iald (z := S 1098 0) zd_14_43_133 zT_1098 rfl (zz_ltn hn rfl) (by decide) (by decide) rfl ?_
                    refine zz_aload_n (x := 1079) rfl zd_14_43_134 ?_
                    refine zz_getr (kd := 0) (z := 1098) zd_14_43_135 zf_Md_73 zT_1079 rfl (zz_ltn hn rfl) (zz_G.eq G_S 1079 26 1098 rfl rfl) (by decide) 1098 rfl ?_
                    refine zz_iconst zd_14_43_138 ?_
                    have g31 := zz_G.r G_S 1098 1 (-1) 601 rfl rfl
                    refine zz_iald (z := S 1098 1) zd_14_43_139 zT_1098 rfl (zz_ltn hn rfl) (by decide) (by decide) rfl ?_
                    refine zz_icmp_ge (by omega) (by omega) zd_14_43_140 (fun c32 => ?_) (fun c32 => ?_)
                    · refine zz_aload_n (x := 1079) rfl zd_14_43_152 ?_
                      refine zz_getr (kd := 0) (z := 1098) zd_14_43_153 zf_Md_73 zT_1079 rfl (zz_ltn hn rfl) (zz_G.eq G_S 1079 26 1098 rfl rfl) (by decide) 1098 rfl ?_
                      refine zz_iconst zd_14_43_156 ?_
                      refine zz_iald (z := S 1098 1) zd_14_43_157 zT_1098 rfl (zz_ltn hn rfl) (by decide) (by decide) rfl ?_
                      refine zz_istore [some (.ref 1079), some (zi p0), some (zi x2), some (zi 0), some (zi (S 1098 1))] zd_14_43_158 (by decide) rfl ?_
                      refine zz_aload_n (x := 1079) rfl zd_14_43_160 ?_
                      refine zz_getr (kd := 0) (z := 1098) zd_14_43_161 zf_Md_73 zT_1079 rfl (zz_ltn hn rfl) (zz_G.eq G_S 1079 26 1098 rfl rfl) (by decide) 1098 rfl ?_
                      refine zz_iconst zd_14_43_164 ?_
                      have g33 := zz_G.r G_S 1098 2 (-1) 601 rfl rfl
                      refine zz_iald (z := S 1098 2) zd_14_43_165 zT_1098 rfl (zz_ltn hn rfl) (by decide) (by decide) rfl ?_
                      refine zz_iload (x := S 1098 1) rfl zd_14_43_166 ?_
                      refine zz_icmp_ge (by omega) (by omega) zd_14_43_168 (fun c34 => ?_) (fun c34 => ?_)
                      · refine zz_iload (x := S 1098 1) rfl zd_14_43_180 ?_
                        refine zz_istore [some (.ref 1079), some (zi p0), some (zi x2), some (zi 0), some (zi (S 1098 1))] zd_14_43_182 (by decide) rfl ?_
                        refine zz_iload (x := S 1098 1) rfl zd_14_43_184 ?_
                        refine zz_aload_n (x := 1079) rfl zd_14_43_186 ?_
                        have g35 := zz_G.r G_S0 1079 19 (-1) 600 rfl rfl
                        refine zz_geti (z := S0 1079 19) zd_14_43_187 zf_Md_272 zT_1079 rfl (zz_ltn hn rfl) (zz_rc F_S rfl rfl (fun h => h) rfl) ?_
                        refine zz_icmp_lt (by omega) (by omega) zd_14_43_190 (fun c36 => ?_) (fun c36 => ?_)
                        · refine zz_aload_n (x := 1079) rfl zd_14_43_203 ?_
                          refine zz_iconst zd_14_43_204 ?_
                          refine zz_iload (x := S 1098 1) rfl zd_14_43_205 ?_
                          refine zz_iload_n (x := p0) rfl zd_14_43_207 ?_
                          refine zz_callVI [zi 4, zi (S 1098 1), zi p0] zd_14_43_208 zk_Md_311 zT_1079 (zz_ltn hn rfl) rfl rfl ⟨Nat.le_of_ble_eq_true rfl, Nat.le_of_ble_eq_true rfl⟩ ⟨rfl, rfl⟩ (Nat.zero_le _) (Nat.zero_le _) (zc_stop_14_42 4 (S 1098 1) p0 S n hn G_S (by omega) (by omega) (by omega)) (fun v38 S37 hP => ?_)
                          obtain ⟨G_S37, fS37, o39, o40⟩ := hP
                          have F_S37 := zz_fr.trans F_S fS37 rfl zz_nv
                          have e41 : S37 1098 0 = S 1098 0 := (zz_rc fS37 rfl rfl (fun h => h) rfl)
                          have e42 : S37 1098 1 = S 1098 1 := (zz_rc fS37 rfl rfl (fun h => h) rfl)
                          have e43 : S37 1098 2 = S 1098 2 := (zz_rc fS37 rfl rfl (fun h => h) rfl)
                          exact zz_iret zd_14_43_211 rfl (Nat.zero_le _) (Nat.zero_le _) ⟨_, _, rfl, G_S37, F_S37, by omega, by omega, by omega⟩
                        · refine zz_aload_n (x := 1079) rfl zd_14_43_193 ?_
                          refine zz_iconst zd_14_43_194 ?_
                          refine zz_iconst zd_14_43_195 ?_
                          refine zz_iload_n (x := p0) rfl zd_14_43_196 ?_
                          refine zz_callVI [zi 1, zi (-1), zi p0] zd_14_43_197 zk_Md_311 zT_1079 (zz_ltn hn rfl) rfl rfl ⟨Nat.le_of_ble_eq_true rfl, Nat.le_of_ble_eq_true rfl⟩ ⟨rfl, rfl⟩ (Nat.zero_le _) (Nat.zero_le _) (zc_stop_14_42 1 (-1) p0 S n hn G_S (by omega) (by omega) (by omega)) (fun v45 S44 hP => ?_)
                          obtain ⟨G_S44, fS44, o46, o47⟩ := hP
                          have F_S44 := zz_fr.trans F_S fS44 rfl zz_nv
                          refine zz_goto zd_14_43_200 ?_
                          have e48 : S44 1098 0 = S 1098 0 := (zz_rc fS44 rfl rfl (fun h => h) rfl)
                          have e49 : S44 1098 1 = S 1098 1 := (zz_rc fS44 rfl rfl (fun h => h) rfl)
                          have e50 : S44 1098 2 = S 1098 2 := (zz_rc fS44 rfl rfl (fun h => h) rfl)
                          exact zz_iret zd_14_43_211 rfl (Nat.zero_le _) (Nat.zero_le _) ⟨_, _, rfl, G_S44, F_S44, by omega, by omega, by omega⟩
                      · refine zz_aload_n (x := 1079) rfl zd_14_43_171 ?_
                        refine zz_getr (kd := 0) (z := 1098) zd_14_43_172 zf_Md_73 zT_1079 rfl (zz_ltn hn rfl) (zz_G.eq G_S 1079 26 1098 rfl rfl) (by decide) 1098 rfl ?_
                        refine zz_iconst zd_14_43_175 ?_
                        refine zz_iald (z := S 1098 2) zd_14_43_176 zT_1098 rfl (zz_ltn hn rfl) (by decide) (by decide) rfl ?_
                        refine zz_goto zd_14_43_177 ?_
                        refine zz_istore [some (.ref 1079), some (zi p0), some (zi x2), some (zi 0), some (zi (S 1098 2))] zd_14_43_182 (by decide) rfl ?_
                        refine zz_iload (x := S 1098 2) rfl zd_14_43_184 ?_
                        refine zz_aload_n (x := 1079) rfl zd_14_43_186 ?_
                        have g51 := zz_G.r G_S0 1079 19 (-1) 600 rfl rfl
                        refine zz_geti (z := S0 1079 19) zd_14_43_187 zf_Md_272 zT_1079 rfl (zz_ltn hn rfl) (zz_rc F_S rfl rfl (fun h => h) rfl) ?_
                        refine zz_icmp_lt (by omega) (by omega) zd_14_43_190 (fun c52 => ?_) (fun c52 => ?_)
                        · refine zz_aload_n (x := 1079) rfl zd_14_43_203 ?_
                          refine zz_iconst zd_14_43_204 ?_
                          refine zz_iload (x := S 1098 2) rfl zd_14_43_205 ?_
                          refine zz_iload_n (x := p0) rfl zd_14_43_207 ?_
                          refine zz_callVI [zi 4, zi (S 1098 2), zi p0] zd_14_43_208 zk_Md_311 zT_1079 (zz_ltn hn rfl) rfl rfl ⟨Nat.le_of_ble_eq_true rfl, Nat.le_of_ble_eq_true rfl⟩ ⟨rfl, rfl⟩ (Nat.zero_le _) (Nat.zero_le _) (zc_stop_14_42 4 (S 1098 2) p0 S n hn G_S (by omega) (by omega) (by omega)) (fun v54 S53 hP => ?_)
                          obtain ⟨G_S53, fS53, o55, o56⟩ := hP
                          have F_S53 := zz_fr.trans F_S fS53 rfl zz_nv
                          have e57 : S53 1098 0 = S 1098 0 := (zz_rc fS53 rfl rfl (fun h => h) rfl)
                          have e58 : S53 1098 1 = S 1098 1 := (zz_rc fS53 rfl rfl (fun h => h) rfl)
                          have e59 : S53 1098 2 = S 1098 2 := (zz_rc fS53 rfl rfl (fun h => h) rfl)
                          exact zz_iret zd_14_43_211 rfl (Nat.zero_le _) (Nat.zero_le _) ⟨_, _, rfl, G_S53, F_S53, by omega, by omega, by omega⟩
                        · refine zz_aload_n (x := 1079) rfl zd_14_43_193 ?_
                          refine zz_iconst zd_14_43_194 ?_
                          refine zz_iconst zd_14_43_195 ?_
                          refine zz_iload_n (x := p0) rfl zd_14_43_196 ?_
                          refine zz_callVI [zi 1, zi (-1), zi p0] zd_14_43_197 zk_Md_311 zT_1079 (zz_ltn hn rfl) rfl rfl ⟨Nat.le_of_ble_eq_true rfl, Nat.le_of_ble_eq_true rfl⟩ ⟨rfl, rfl⟩ (Nat.zero_le _) (Nat.zero_le _) (zc_stop_14_42 1 (-1) p0 S n hn G_S (by omega) (by omega) (by omega)) (fun v61 S60 hP => ?_)
                          obtain ⟨G_S60, fS60, o62, o63⟩ := hP
                          have F_S60 := zz_fr.trans F_S fS60 rfl zz_nv
                          refine zz_goto zd_14_43_200 ?_
                          have e64 : S60 1098 0 = S 1098 0 := (zz_rc fS60 rfl rfl (fun h => h) rfl)
                          have e65 : S60 1098 1 = S 1098 1 := (zz_rc fS60 rfl rfl (fun h => h) rfl)
                          have e66 : S60 1098 2 = S 1098 2 := (zz_rc fS60 rfl rfl (fun h => h) rfl)
                          exact zz_iret zd_14_43_211 rfl (Nat.zero_le _) (Nat.zero_le _) ⟨_, _, rfl, G_S60, F_S60, by omega, by omega, by omega⟩
                    · refine zz_aload_n (x := 1079) rfl zd_14_43_143 ?_
                      refine zz_getr (kd := 0) (z := 1098) zd_14_43_144 zf_Md_73 zT_1079 rfl (zz_ltn hn rfl) (zz_G.eq G_S 1079 26 1098 rfl rfl) (by decide) 1098 rfl ?_
                      refine zz_iconst zd_14_43_147 ?_
                      refine zz_iald (z := S 1098 0) zd_14_43_148 zT_1098 rfl (zz_ltn hn rfl) (by decide) (by decide) rfl ?_
                      refine zz_goto zd_14_43_149 ?_
                      refine zz_istore [some (.ref 1079), some (zi p0), some (zi x2), some (zi 0), some (zi (S 1098 0))] zd_14_43_158 (by decide) rfl ?_
                      refine zz_aload_n (x := 1079) rfl zd_14_43_160 ?_
                      refine zz_getr (kd := 0) (z := 1098) zd_14_43_161 zf_Md_73 zT_1079 rfl (zz_ltn hn rfl) (zz_G.eq G_S 1079 26 1098 rfl rfl) (by decide) 1098 rfl ?_
                      refine zz_iconst zd_14_43_164 ?_
                      have g67 := zz_G.r G_S 1098 2 (-1) 601 rfl rfl
                      refine zz_iald (z := S 1098 2) zd_14_43_165 zT_1098 rfl (zz_ltn hn rfl) (by decide) (by decide) rfl ?_
                      refine zz_iload (x := S 1098 0) rfl zd_14_43_166 ?_
                      refine zz_icmp_ge (by omega) (by omega) zd_14_43_168 (fun c68 => ?_) (fun c68 => ?_)
                      · refine zz_iload (x := S 1098 0) rfl zd_14_43_180 ?_
                        refine zz_istore [some (.ref 1079), some (zi p0), some (zi x2), some (zi 0), some (zi (S 1098 0))] zd_14_43_182 (by decide) rfl ?_
                        refine zz_iload (x := S 1098 0) rfl zd_14_43_184 ?_
                        refine zz_aload_n (x := 1079) rfl zd_14_43_186 ?_
                        have g69 := zz_G.r G_S0 1079 19 (-1) 600 rfl rfl
                        refine zz_geti (z := S0 1079 19) zd_14_43_187 zf_Md_272 zT_1079 rfl (zz_ltn hn rfl) (zz_rc F_S rfl rfl (fun h => h) rfl) ?_
                        refine zz_icmp_lt (by omega) (by omega) zd_14_43_190 (fun c70 => ?_) (fun c70 => ?_)
                        · refine zz_aload_n (x := 1079) rfl zd_14_43_203 ?_
                          refine zz_iconst zd_14_43_204 ?_
                          refine zz_iload (x := S 1098 0) rfl zd_14_43_205 ?_
                          refine zz_iload_n (x := p0) rfl zd_14_43_207 ?_
                          refine zz_callVI [zi 4, zi (S 1098 0), zi p0] zd_14_43_208 zk_Md_311 zT_1079 (zz_ltn hn rfl) rfl rfl ⟨Nat.le_of_ble_eq_true rfl, Nat.le_of_ble_eq_true rfl⟩ ⟨rfl, rfl⟩ (Nat.zero_le _) (Nat.zero_le _) (zc_stop_14_42 4 (S 1098 0) p0 S n hn G_S (by omega) (by omega) (by omega)) (fun v72 S71 hP => ?_)
                          obtain ⟨G_S71, fS71, o73, o74⟩ := hP
                          have F_S71 := zz_fr.trans F_S fS71 rfl zz_nv
                          have e75 : S71 1098 0 = S 1098 0 := (zz_rc fS71 rfl rfl (fun h => h) rfl)
                          have e76 : S71 1098 1 = S 1098 1 := (zz_rc fS71 rfl rfl (fun h => h) rfl)
                          have e77 : S71 1098 2 = S 1098 2 := (zz_rc fS71 rfl rfl (fun h => h) rfl)
                          exact zz_iret zd_14_43_211 rfl (Nat.zero_le _) (Nat.zero_le _) ⟨_, _, rfl, G_S71, F_S71, by omega, by omega, by omega⟩
                        · refine zz_aload_n (x := 1079) rfl zd_14_43_193 ?_
                          refine zz_iconst zd_14_43_194 ?_
                          refine zz_iconst zd_14_43_195 ?_
                          refine zz_iload_n (x := p0) rfl zd_14_43_196 ?_
                          refine zz_callVI [zi 1, zi (-1), zi p0] zd_14_43_197 zk_Md_311 zT_1079 (zz_ltn hn rfl) rfl rfl ⟨Nat.le_of_ble_eq_true rfl, Nat.le_of_ble_eq_true rfl⟩ ⟨rfl, rfl⟩ (Nat.zero_le _) (Nat.zero_le _) (zc_stop_14_42 1 (-1) p0 S n hn G_S (by omega) (by omega) (by omega)) (fun v79 S78 hP => ?_)
                          obtain ⟨G_S78, fS78, o80, o81⟩ := hP
                          have F_S78 := zz_fr.trans F_S fS78 rfl zz_nv
                          refine zz_goto zd_14_43_200 ?_
                          have e82 : S78 1098 0 = S 1098 0 := (zz_rc fS78 rfl rfl (fun h => h) rfl)
                          have e83 : S78 1098 1 = S 1098 1 := (zz_rc fS78 rfl rfl (fun h => h) rfl)
                          have e84 : S78 1098 2 = S 1098 2 := (zz_rc fS78 rfl rfl (fun h => h) rfl)
                          exact zz_iret zd_14_43_211 rfl (Nat.zero_le _) (Nat.zero_le _) ⟨_, _, rfl, G_S78, F_S78, by omega, by omega, by omega⟩
                      · refine zz_aload_n (x := 1079) rfl zd_14_43_171 ?_
                        refine zz_getr (kd := 0) (z := 1098) zd_14_43_172 zf_Md_73 zT_1079 rfl (zz_ltn hn rfl) (zz_G.eq G_S 1079 26 1098 rfl rfl) (by decide) 1098 rfl ?_
                        refine zz_iconst zd_14_43_175 ?_
                        refine zz_iald (z := S 1098 2) zd_14_43_176 zT_1098 rfl (zz_ltn hn rfl) (by decide) (by decide) rfl ?_
                        refine zz_goto zd_14_43_177 ?_
                        refine zz_istore [some (.ref 1079), some (zi p0), some (zi x2), some (zi 0), some (zi (S 1098 2))] zd_14_43_182 (by decide) rfl ?_
                        refine zz_iload (x := S 1098 2) rfl zd_14_43_184 ?_
                        refine zz_aload_n (x := 1079) rfl zd_14_43_186 ?_
                        have g85 := zz_G.r G_S0 1079 19 (-1) 600 rfl rfl
                        refine zz_geti (z := S0 1079 19) zd_14_43_187 zf_Md_272 zT_1079 rfl (zz_ltn hn rfl) (zz_rc F_S rfl rfl (fun h => h) rfl) ?_
                        refine zz_icmp_lt (by omega) (by omega) zd_14_43_190 (fun c86 => ?_) (fun c86 => ?_)
                        · refine zz_aload_n (x := 1079) rfl zd_14_43_203 ?_
                          refine zz_iconst zd_14_43_204 ?_
                          refine zz_iload (x := S 1098 2) rfl zd_14_43_205 ?_
                          refine zz_iload_n (x := p0) rfl zd_14_43_207 ?_
                          refine zz_callVI [zi 4, zi (S 1098 2), zi p0] zd_14_43_208 zk_Md_311 zT_1079 (zz_ltn hn rfl) rfl rfl ⟨Nat.le_of_ble_eq_true rfl, Nat.le_of_ble_eq_true rfl⟩ ⟨rfl, rfl⟩ (Nat.zero_le _) (Nat.zero_le _) (zc_stop_14_42 4 (S 1098 2) p0 S n hn G_S (by omega) (by omega) (by omega)) (fun v88 S87 hP => ?_)
                          obtain ⟨G_S87, fS87, o89, o90⟩ := hP
                          have F_S87 := zz_fr.trans F_S fS87 rfl zz_nv
                          have e91 : S87 1098 0 = S 1098 0 := (zz_rc fS87 rfl rfl (fun h => h) rfl)
                          have e92 : S87 1098 1 = S 1098 1 := (zz_rc fS87 rfl rfl (fun h => h) rfl)
                          have e93 : S87 1098 2 = S 1098 2 := (zz_rc fS87 rfl rfl (fun h => h) rfl)
                          exact zz_iret zd_14_43_211 rfl (Nat.zero_le _) (Nat.zero_le _) ⟨_, _, rfl, G_S87, F_S87, by omega, by omega, by omega⟩
                        · refine zz_aload_n (x := 1079) rfl zd_14_43_193 ?_
                          refine zz_iconst zd_14_43_194 ?_
                          refine zz_iconst zd_14_43_195 ?_
                          refine zz_iload_n (x := p0) rfl zd_14_43_196 ?_
                          refine zz_callVI [zi 1, zi (-1), zi p0] zd_14_43_197 zk_Md_311 zT_1079 (zz_ltn hn rfl) rfl rfl ⟨Nat.le_of_ble_eq_true rfl, Nat.le_of_ble_eq_true rfl⟩ ⟨rfl, rfl⟩ (Nat.zero_le _) (Nat.zero_le _) (zc_stop_14_42 1 (-1) p0 S n hn G_S (by omega) (by omega) (by omega)) (fun v95 S94 hP => ?_)
                          obtain ⟨G_S94, fS94, o96, o97⟩ := hP
                          have F_S94 := zz_fr.trans F_S fS94 rfl zz_nv
                          refine zz_goto zd_14_43_200 ?_
                          have e98 : S94 1098 0 = S 1098 0 := (zz_rc fS94 rfl rfl (fun h => h) rfl)
                          have e99 : S94 1098 1 = S 1098 1 := (zz_rc fS94 rfl rfl (fun h => h) rfl)
                          have e100 : S94 1098 2 = S 1098 2 := (zz_rc fS94 rfl rfl (fun h => h) rfl)
                          exact zz_iret zd_14_43_211 rfl (Nat.zero_le _) (Nat.zero_le _) ⟨_, _, rfl, G_S94, F_S94, by omega, by omega, by omega⟩
                  · exfalso; omega
              · exfalso; omega
            · refine zz_if_eq (by omega) zd_14_43_109 (fun c101 => ?_) (fun c101 => ?_)
              · exfalso; omega
              · refine zz_iconst zd_14_43_112 ?_
                refine zz_goto zd_14_43_113 ?_
                refine zz_istore_n [some (.ref 1079), some (zi p0), some (zi x2), some (zi 1)] zd_14_43_117 (by decide) rfl ?_
                refine zz_iload_n (x := x2) rfl zd_14_43_118 ?_
                refine zz_if_ne (by omega) zd_14_43_119 (fun c102 => ?_) (fun c102 => ?_)
                · refine zz_iconst zd_14_43_126 ?_
                  have g103 := zz_G.r G_S 1098 0 (-1) 601 rfl rfl
                  have g104 := zz_G.r G_S 1098 1 (-1) 601 rfl rfl
                  have g105 := zz_G.r G_S 1098 2 (-1) 601 rfl rfl
                  exact zz_iret zd_14_43_127 rfl (Nat.zero_le _) (Nat.zero_le _) ⟨_, _, rfl, G_S, F_S, by omega, by omega, by omega⟩
                · refine zz_iload_n (x := 1) rfl zd_14_43_122 ?_
                  refine zz_if_eq (by omega) zd_14_43_123 (fun c106 => ?_) (fun c106 => ?_)
                  · exfalso; omega
                  · refine zz_iconst zd_14_43_126 ?_
                    have g107 := zz_G.r G_S 1098 0 (-1) 601 rfl rfl
                    have g108 := zz_G.r G_S 1098 1 (-1) 601 rfl rfl
                    have g109 := zz_G.r G_S 1098 2 (-1) 601 rfl rfl
                    exact zz_iret zd_14_43_127 rfl (Nat.zero_le _) (Nat.zero_le _) ⟨_, _, rfl, G_S, F_S, by omega, by omega, by omega⟩
        · refine zz_if_ne (by omega) zd_14_43_100 (fun c110 => ?_) (fun c110 => ?_)
          · refine zz_iconst zd_14_43_112 ?_
            refine zz_goto zd_14_43_113 ?_
            refine zz_istore_n [some (.ref 1079), some (zi p0), some (zi x2), some (zi 1)] zd_14_43_117 (by decide) rfl ?_
            refine zz_iload_n (x := x2) rfl zd_14_43_118 ?_
            refine zz_if_ne (by omega) zd_14_43_119 (fun c111 => ?_) (fun c111 => ?_)
            · refine zz_iconst zd_14_43_126 ?_
              have g112 := zz_G.r G_S 1098 0 (-1) 601 rfl rfl
              have g113 := zz_G.r G_S 1098 1 (-1) 601 rfl rfl
              have g114 := zz_G.r G_S 1098 2 (-1) 601 rfl rfl
              exact zz_iret zd_14_43_127 rfl (Nat.zero_le _) (Nat.zero_le _) ⟨_, _, rfl, G_S, F_S, by omega, by omega, by omega⟩
            · refine zz_iload_n (x := 1) rfl zd_14_43_122 ?_
              refine zz_if_eq (by omega) zd_14_43_123 (fun c115 => ?_) (fun c115 => ?_)
              · exfalso; omega
              · refine zz_iconst zd_14_43_126 ?_
                have g116 := zz_G.r G_S 1098 0 (-1) 601 rfl rfl
                have g117 := zz_G.r G_S 1098 1 (-1) 601 rfl rfl
                have g118 := zz_G.r G_S 1098 2 (-1) 601 rfl rfl
                exact zz_iret zd_14_43_127 rfl (Nat.zero_le _) (Nat.zero_le _) ⟨_, _, rfl, G_S, F_S, by omega, by omega, by omega⟩
          · exfalso; omega
    · refine zz_if_ne (by omega) zd_14_43_91 (fun c119 => ?_) (fun c119 => ?_)
      · refine zz_iconst zd_14_43_112 ?_
        refine zz_goto zd_14_43_113 ?_
        refine zz_istore_n [some (.ref 1079), some (zi p0), some (zi x2), some (zi 1)] zd_14_43_117 (by decide) rfl ?_
        refine zz_iload_n (x := x2) rfl zd_14_43_118 ?_
        refine zz_if_ne (by omega) zd_14_43_119 (fun c120 => ?_) (fun c120 => ?_)
        · refine zz_iconst zd_14_43_126 ?_
          have g121 := zz_G.r G_S 1098 0 (-1) 601 rfl rfl
          have g122 := zz_G.r G_S 1098 1 (-1) 601 rfl rfl
          have g123 := zz_G.r G_S 1098 2 (-1) 601 rfl rfl
          exact zz_iret zd_14_43_127 rfl (Nat.zero_le _) (Nat.zero_le _) ⟨_, _, rfl, G_S, F_S, by omega, by omega, by omega⟩
        · refine zz_iload_n (x := 1) rfl zd_14_43_122 ?_
          refine zz_if_eq (by omega) zd_14_43_123 (fun c124 => ?_) (fun c124 => ?_)
          · exfalso; omega
          · refine zz_iconst zd_14_43_126 ?_
            have g125 := zz_G.r G_S 1098 0 (-1) 601 rfl rfl
            have g126 := zz_G.r G_S 1098 1 (-1) 601 rfl rfl
            have g127 := zz_G.r G_S 1098 2 (-1) 601 rfl rfl
            exact zz_iret zd_14_43_127 rfl (Nat.zero_le _) (Nat.zero_le _) ⟨_, _, rfl, G_S, F_S, by omega, by omega, by omega⟩
      · exfalso; omega
  · have hnx : 0 ≤ S 1098 x3.toNat := by rcases (by omega : x3 = 0 ∨ x3 = 1 ∨ x3 = 2) with h | h | h <;> rw [h] <;> first | exact i9_2.1 | exact i9_2.2.1 | exact i9_2.2.2
    have gr9 := zz_G.r G_S0 1079 19 (-1) 600 rfl rfl
    refine zz_aload_n (x := 1079) rfl zd_14_43_14 ?_
    refine zz_getr (kd := 0) (z := 1098) zd_14_43_15 zf_Md_73 zT_1079 rfl (zz_ltn hn rfl) (zz_G.eq G_S 1079 26 1098 rfl rfl) (by decide) 1098 rfl ?_
    refine zz_iload_n (x := x3) rfl zd_14_43_18 ?_
    have g128 := zz_G.r G_S 1098 x3.toNat (-1) 601 rfl rfl
    refine zz_iald (z := S 1098 x3.toNat) zd_14_43_19 zT_1098 rfl (zz_ltn hn rfl) (by decide) (by omega) rfl ?_
    refine zz_aload_n (x := 1079) rfl zd_14_43_20 ?_
    have g129 := zz_G.r G_S0 1079 19 (-1) 600 rfl rfl
    refine zz_geti (z := S0 1079 19) zd_14_43_21 zf_Md_272 zT_1079 rfl (zz_ltn hn rfl) (zz_rc F_S rfl rfl (fun h => h) rfl) ?_
    refine zz_icmp_ge (by omega) (by omega) zd_14_43_24 (fun c130 => ?_) (fun c130 => ?_)
    · refine zz_iinc [some (.ref 1079), some (zi p0), some (zi x2), some (zi (x3 + 1))] zd_14_43_79 rfl rfl ?_
      refine zz_goto zd_14_43_82 ?_
      have g131 := zz_G.r G_S 1098 0 (-1) 601 rfl rfl
      have g132 := zz_G.r G_S 1098 1 (-1) 601 rfl rfl
      have g133 := zz_G.r G_S 1098 2 (-1) 601 rfl rfl
      refine zz_less (ls1 := [some (.ref 1079), some (zi p0), some (zi x2), some (zi (x3 + 1))]) ⟨rfl, ⟨rfl, ⟨rfl, ⟨rfl, trivial⟩⟩⟩⟩ ?_
      exact k9 x2 (x3 + 1) S G_S F_S (by omega) (by omega) (by omega) (by omega) (by omega)
    · refine zz_aload_n (x := 1079) rfl zd_14_43_27 ?_
      refine zz_iload_n (x := x3) rfl zd_14_43_28 ?_
      refine zz_iload_n (x := p0) rfl zd_14_43_29 ?_
      refine zz_callVI [zi x3, zi p0] zd_14_43_30 zk_Md_301 zT_1079 (zz_ltn hn rfl) rfl rfl ⟨Nat.le_of_ble_eq_true rfl, Nat.le_of_ble_eq_true rfl⟩ ⟨rfl, rfl⟩ (Nat.zero_le _) (Nat.zero_le _) (zc_isBusy_14_39 x3 p0 S n hn G_S (by omega) (by omega)) (fun v135 S134 hP => ?_)
      obtain ⟨rfl, o136, o137⟩ := hP
      rcases (by omega : v135 = 0 ∨ v135 = 1) with rfl | rfl
      · refine zz_if_ne (by omega) zd_14_43_33 (fun c138 => ?_) (fun c138 => ?_)
        · exfalso; omega
        · refine zz_aload_n (x := 1079) rfl zd_14_43_36 ?_
          refine zz_iload_n (x := x3) rfl zd_14_43_37 ?_
          refine zz_callVI [zi x3] zd_14_43_38 zk_Md_304 zT_1079 (zz_ltn hn rfl) rfl rfl ⟨Nat.le_of_ble_eq_true rfl, Nat.le_of_ble_eq_true rfl⟩ ⟨rfl, rfl⟩ (Nat.zero_le _) (Nat.zero_le _) (zc_hasTokens_14_35 x3 S n hn G_S (by omega) (by omega)) (fun v140 S139 hP => ?_)
          obtain ⟨G_S139, fS139, o141⟩ := hP
          have F_S139 := zz_fr.trans F_S fS139 rfl zz_nv
          rcases (by omega : v140 = 0 ∨ v140 = 1) with rfl | rfl
          · refine zz_if_eq (by omega) zd_14_43_41 (fun c142 => ?_) (fun c142 => ?_)
            · refine zz_iinc [some (.ref 1079), some (zi p0), some (zi x2), some (zi (x3 + 1))] zd_14_43_79 rfl rfl ?_
              refine zz_goto zd_14_43_82 ?_
              have g143 := zz_G.r G_S 1098 0 (-1) 601 rfl rfl
              have e144 : S139 1098 0 = S 1098 0 := (zz_rc fS139 rfl rfl (fun h => h) rfl)
              have g145 := zz_G.r G_S 1098 1 (-1) 601 rfl rfl
              have e146 : S139 1098 1 = S 1098 1 := (zz_rc fS139 rfl rfl (fun h => h) rfl)
              have g147 := zz_G.r G_S 1098 2 (-1) 601 rfl rfl
              have e148 : S139 1098 2 = S 1098 2 := (zz_rc fS139 rfl rfl (fun h => h) rfl)
              refine zz_less (ls1 := [some (.ref 1079), some (zi p0), some (zi x2), some (zi (x3 + 1))]) ⟨rfl, ⟨rfl, ⟨rfl, ⟨rfl, trivial⟩⟩⟩⟩ ?_
              exact k9 x2 (x3 + 1) S139 G_S139 F_S139 (by omega) (by omega) (by omega) (by omega) (by omega)
            · exfalso; omega
          · refine zz_if_eq (by omega) zd_14_43_41 (fun c149 => ?_) (fun c149 => ?_)
            · exfalso; omega
            · refine zz_aload_n (x := 1079) rfl zd_14_43_44 ?_
              refine zz_aload_n (x := 1079) rfl zd_14_43_45 ?_
              refine zz_getr (kd := 0) (z := 1098) zd_14_43_46 zf_Md_73 zT_1079 rfl (zz_ltn hn rfl) (zz_G.eq G_S139 1079 26 1098 rfl rfl) (by decide) 1098 rfl ?_
              refine zz_iload_n (x := x3) rfl zd_14_43_49 ?_
              refine zz_iald (z := S 1098 x3.toNat) zd_14_43_50 zT_1098 rfl (zz_ltn hn rfl) (by decide) (by omega) (zz_rc fS139 (zz_nc1 rfl) rfl (fun h => h) rfl) ?_
              refine zz_iload_n (x := p0) rfl zd_14_43_51 ?_
              refine zz_callVI [zi (S 1098 x3.toNat), zi p0] zd_14_43_52 zk_Md_308 zT_1079 (zz_ltn hn rfl) rfl rfl ⟨Nat.le_of_ble_eq_true rfl, Nat.le_of_ble_eq_true rfl⟩ ⟨rfl, rfl⟩ (Nat.zero_le _) (Nat.zero_le _) (zc_races_14_37 (S 1098 x3.toNat) p0 S139 n hn G_S139 (by omega) (by omega)) (fun v151 S150 hP => ?_)
              obtain ⟨G_S150, fS150, o152⟩ := hP
              have F_S150 := zz_fr.trans F_S139 fS150 rfl zz_nv
              rcases (by omega : v151 = 0 ∨ v151 = 1) with rfl | rfl
              · refine zz_if_eq (by omega) zd_14_43_55 (fun c153 => ?_) (fun c153 => ?_)
                · refine zz_aload_n (x := 1079) rfl zd_14_43_71 ?_
                  refine zz_iload_n (x := x3) rfl zd_14_43_72 ?_
                  refine zz_iload_n (x := p0) rfl zd_14_43_73 ?_
                  have e154 : S150 1079 19 = S0 1079 19 := (zz_rc fS150 rfl rfl (fun h => h) (zz_rc fS139 rfl rfl (fun h => h) (zz_rc F_S rfl rfl (fun h => h) rfl)))
                  have e155 : S150 1098 x3.toNat = S 1098 x3.toNat := (zz_rc fS150 (zz_nc1 rfl) rfl (fun h => h) (zz_rc fS139 (zz_nc1 rfl) rfl (fun h => h) rfl))
                  have g156 := zz_G.r G_S0 1079 1 2 8 rfl rfl
                  have e157 : S150 1079 1 = S0 1079 1 := (zz_rc fS150 rfl rfl (fun h => h) (zz_rc fS139 rfl rfl (fun h => h) (zz_rc F_S rfl rfl (fun h => h) rfl)))
                  have g158 := zz_G.r G_S 1098 0 (-1) 601 rfl rfl
                  have e159 : S150 1098 0 = S 1098 0 := (zz_rc fS150 rfl rfl (fun h => h) (zz_rc fS139 rfl rfl (fun h => h) rfl))
                  have g160 := zz_G.r G_S 1098 1 (-1) 601 rfl rfl
                  have e161 : S150 1098 1 = S 1098 1 := (zz_rc fS150 rfl rfl (fun h => h) (zz_rc fS139 rfl rfl (fun h => h) rfl))
                  have g162 := zz_G.r G_S 1098 2 (-1) 601 rfl rfl
                  have e163 : S150 1098 2 = S 1098 2 := (zz_rc fS150 rfl rfl (fun h => h) (zz_rc fS139 rfl rfl (fun h => h) rfl))
                  refine zz_callVV [zi x3, zi p0] zd_14_43_74 zk_Md_315 zT_1079 (zz_ltn hn rfl) rfl rfl ⟨Nat.le_of_ble_eq_true rfl, Nat.le_of_ble_eq_true rfl⟩ ⟨rfl, rfl⟩ (Nat.zero_le _) (Nat.zero_le _) (zc_beginNext_14_38 x3 p0 S150 n hn G_S150 (by omega) (by omega) (by omega) (fun u hu => by have h9 : S150 1079 19 = S0 1079 19 := (zz_rc fS150 rfl rfl (fun h => h) (zz_rc fS139 rfl rfl (fun h => h) (zz_rc F_S rfl rfl (fun h => h) rfl))); rw [show S150 1085 u = S0 1085 u from (zz_rc fS150 (zz_nc1 rfl) rfl (fun h => h) (zz_rc fS139 (zz_nc1 rfl) rfl (fun h => h) (zz_rc F_S (zz_nc1 rfl) rfl (fun h => h) rfl))), show S150 1079 1 = S0 1079 1 from (zz_rc fS150 rfl rfl (fun h => h) (zz_rc fS139 rfl rfl (fun h => h) (zz_rc F_S rfl rfl (fun h => h) rfl)))]; exact hL u (by omega))) (fun S164 hP => ?_)
                  obtain ⟨G_S164, fS164, o166, o167, o168, o169⟩ := hP
                  have F_S164 := zz_fr.trans F_S150 fS164 rfl zz_nv
                  refine zz_iconst zd_14_43_77 ?_
                  refine zz_istore_n [some (.ref 1079), some (zi p0), some (zi 1), some (zi x3)] zd_14_43_78 (by decide) rfl ?_
                  refine zz_iinc [some (.ref 1079), some (zi p0), some (zi 1), some (zi (x3 + 1))] zd_14_43_79 rfl rfl ?_
                  refine zz_goto zd_14_43_82 ?_
                  have g170 := zz_G.r G_S164 1098 0 (-1) 601 rfl rfl
                  have g171 := zz_G.r G_S164 1098 1 (-1) 601 rfl rfl
                  have g172 := zz_G.r G_S164 1098 2 (-1) 601 rfl rfl
                  refine zz_less (ls1 := [some (.ref 1079), some (zi p0), some (zi 1), some (zi (x3 + 1))]) ⟨rfl, ⟨rfl, ⟨rfl, ⟨rfl, trivial⟩⟩⟩⟩ ?_
                  exact k9 1 (x3 + 1) S164 G_S164 F_S164 (by omega) (by omega) (by omega) (by omega) (by omega)
                · exfalso; omega
              · refine zz_if_eq (by omega) zd_14_43_55 (fun c173 => ?_) (fun c173 => ?_)
                · exfalso; omega
                · refine zz_aload_n (x := 1079) rfl zd_14_43_58 ?_
                  refine zz_iconst zd_14_43_59 ?_
                  refine zz_aload_n (x := 1079) rfl zd_14_43_60 ?_
                  refine zz_getr (kd := 0) (z := 1098) zd_14_43_61 zf_Md_73 zT_1079 rfl (zz_ltn hn rfl) (zz_G.eq G_S150 1079 26 1098 rfl rfl) (by decide) 1098 rfl ?_
                  refine zz_iload_n (x := x3) rfl zd_14_43_64 ?_
                  refine zz_iald (z := S 1098 x3.toNat) zd_14_43_65 zT_1098 rfl (zz_ltn hn rfl) (by decide) (by omega) (zz_rc fS150 (zz_nc1 rfl) rfl (fun h => h) (zz_rc fS139 (zz_nc1 rfl) rfl (fun h => h) rfl)) ?_
                  refine zz_iload_n (x := p0) rfl zd_14_43_66 ?_
                  refine zz_callVI [zi 3, zi (S 1098 x3.toNat), zi p0] zd_14_43_67 zk_Md_311 zT_1079 (zz_ltn hn rfl) rfl rfl ⟨Nat.le_of_ble_eq_true rfl, Nat.le_of_ble_eq_true rfl⟩ ⟨rfl, rfl⟩ (Nat.zero_le _) (Nat.zero_le _) (zc_stop_14_42 3 (S 1098 x3.toNat) p0 S150 n hn G_S150 (by omega) (by omega) (by omega)) (fun v175 S174 hP => ?_)
                  obtain ⟨G_S174, fS174, o176, o177⟩ := hP
                  have F_S174 := zz_fr.trans F_S150 fS174 rfl zz_nv
                  have g178 := zz_G.r G_S 1098 0 (-1) 601 rfl rfl
                  have e179 : S174 1098 0 = S 1098 0 := (zz_rc fS174 rfl rfl (fun h => h) (zz_rc fS150 rfl rfl (fun h => h) (zz_rc fS139 rfl rfl (fun h => h) rfl)))
                  have g180 := zz_G.r G_S 1098 1 (-1) 601 rfl rfl
                  have e181 : S174 1098 1 = S 1098 1 := (zz_rc fS174 rfl rfl (fun h => h) (zz_rc fS150 rfl rfl (fun h => h) (zz_rc fS139 rfl rfl (fun h => h) rfl)))
                  have g182 := zz_G.r G_S 1098 2 (-1) 601 rfl rfl
                  have e183 : S174 1098 2 = S 1098 2 := (zz_rc fS174 rfl rfl (fun h => h) (zz_rc fS150 rfl rfl (fun h => h) (zz_rc fS139 rfl rfl (fun h => h) rfl)))
                  exact zz_iret zd_14_43_70 rfl (Nat.zero_le _) (Nat.zero_le _) ⟨_, _, rfl, G_S174, F_S174, by omega, by omega, by omega⟩
      · refine zz_if_ne (by omega) zd_14_43_33 (fun c184 => ?_) (fun c184 => ?_)
        · refine zz_iinc [some (.ref 1079), some (zi p0), some (zi x2), some (zi (x3 + 1))] zd_14_43_79 rfl rfl ?_
          refine zz_goto zd_14_43_82 ?_
          have g185 := zz_G.r G_S 1098 0 (-1) 601 rfl rfl
          have g186 := zz_G.r G_S 1098 1 (-1) 601 rfl rfl
          have g187 := zz_G.r G_S 1098 2 (-1) 601 rfl rfl
          refine zz_less (ls1 := [some (.ref 1079), some (zi p0), some (zi x2), some (zi (x3 + 1))]) ⟨rfl, ⟨rfl, ⟨rfl, ⟨rfl, trivial⟩⟩⟩⟩ ?_
          exact k9 x2 (x3 + 1) S G_S F_S (by omega) (by omega) (by omega) (by omega) (by omega)
        · exfalso; omega

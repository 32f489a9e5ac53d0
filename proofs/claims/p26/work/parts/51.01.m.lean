-- TensorForgeModel field (JI)I
abbrev zr_field_14_13 : Room := { frames := 2, cells := 0, slots := 0, locals := 32 }
def zp_field_14_13 (p0 : Int) (p1 : Int) (S0 : zz_S) : Int → zz_S → Prop := fun r S => zz_G S ∧ zz_fr [(1079, 0)] [] (fun _ _ => False) S0 S ∧ ((-2147483648) ≤ r ∧ r ≤ 2147483647) ∧ ((0 ≤ p1 ∧ p1 ≤ 11 ∧ S 1079 0 = 0) ∨ ((p1 < 0 ∨ 11 < p1) ∧ S 1079 0 = 1)) ∧ (S 1079 0 = 0 → r = zz_fxk p0 p1)
theorem zc_field_14_13 {g : mm_G} {l : Launch} (p0 : Int) (p1 : Int) (S0 : zz_S) (n : Nat) (hn : zz_end ≤ n) (G_S0 : zz_G S0) (hp0 : (-9223372036854775808) ≤ p0 ∧ p0 ≤ 9223372036854775807) (hp1 : (-2147483648) ≤ p1 ∧ p1 ≤ 2147483647) : mm_Met g l zy_field_14_13 zr_field_14_13 [.ref 1079, zl p0, zi p1] (zz_M S0 n) n (zz_QI n (zp_field_14_13 p0 p1 S0)) := by
  refine zz_enter (by decide) (Nat.le_of_ble_eq_true rfl) (zz_less (ls1 := [some (.ref 1079), some (zl p0), none, some (zi p1)]) ⟨rfl, ⟨rfl, ⟨rfl, trivial⟩⟩⟩ ?_)
  have F_S0 : zz_fr [(1079, 0)] [] (fun _ _ => False) S0 S0 := zz_fr.refl
  refine zz_aload_n (x := 1079) rfl zd_14_13_0 ?_
  refine zz_iload_n (x := p1) rfl zd_14_13_1 ?_
  refine zz_i2l (by omega) zd_14_13_2 ?_
  refine zz_lconst (z := 0) (by decide) zd_14_13_3 ?_
  refine zz_ldc2 (z := 11) zq_Md_218 (by decide) zd_14_13_4 ?_
  refine zz_callSI [zl p1, zl 0, zl 11] zd_14_13_7 zk_Md_192 rfl rfl ⟨Nat.le_of_ble_eq_true rfl, Nat.le_of_ble_eq_true rfl⟩ ⟨rfl, rfl⟩ (Nat.zero_le _) (Nat.zero_le _) (zc_in_14_4 p1 0 11 S0 n hn G_S0 (by omega) (by omega) (by omega)) (fun v2 S1 hP => ?_)
  obtain ⟨rfl, o3, o4⟩ := hP
  rcases (by omega : v2 = 0 ∨ v2 = 1) with rfl | rfl
  · have n5 : p1 < 0 ∨ 11 < p1 := by omega
    clear o4
    refine zz_if_ne (by omega) zd_14_13_10 (fun c6 => ?_) (fun c6 => ?_)
    · exfalso; omega
    · refine zz_iconst zd_14_13_13 ?_
      refine zz_goto zd_14_13_14 ?_
      refine zz_iconst zd_14_13_18 ?_
      refine zz_iconst zd_14_13_19 ?_
      refine zz_callVI [zi 1, zi 0, zi 0] zd_14_13_20 zk_Md_196 zT_1079 (zz_ltn hn rfl) rfl rfl ⟨Nat.le_of_ble_eq_true rfl, Nat.le_of_ble_eq_true rfl⟩ ⟨rfl, rfl⟩ (Nat.zero_le _) (Nat.zero_le _) (zc_refuse_14_3 1 0 0 S0 n hn G_S0 (by omega) (by omega) (by omega)) (fun v8 S7 hP => ?_)
      obtain ⟨G_S7, fS7, o9, o10⟩ := hP
      have F_S7 := zz_fr.trans F_S0 fS7 rfl zz_nv
      rcases (by omega : v8 = 0 ∨ v8 = 1) with rfl | rfl
      · exfalso; omega
      · have e11 : S7 1079 0 = 1 := by omega
        clear o10
        refine zz_if_eq (by omega) zd_14_13_23 (fun c12 => ?_) (fun c12 => ?_)
        · exfalso; omega
        · refine zz_iconst zd_14_13_26 ?_
          refine zz_goto zd_14_13_27 ?_
          exact zz_iret zd_14_13_35 rfl (Nat.zero_le _) (Nat.zero_le _) ⟨_, _, rfl, G_S7, F_S7, by omega, by omega, by omega⟩
  · have n13 : 0 ≤ p1 ∧ p1 ≤ 11 := by omega
    clear o4
    refine zz_if_ne (by omega) zd_14_13_10 (fun c14 => ?_) (fun c14 => ?_)
    · refine zz_iconst zd_14_13_17 ?_
      refine zz_iconst zd_14_13_18 ?_
      refine zz_iconst zd_14_13_19 ?_
      refine zz_callVI [zi 0, zi 0, zi 0] zd_14_13_20 zk_Md_196 zT_1079 (zz_ltn hn rfl) rfl rfl ⟨Nat.le_of_ble_eq_true rfl, Nat.le_of_ble_eq_true rfl⟩ ⟨rfl, rfl⟩ (Nat.zero_le _) (Nat.zero_le _) (zc_refuse_14_3 0 0 0 S0 n hn G_S0 (by omega) (by omega) (by omega)) (fun v16 S15 hP => ?_)
      obtain ⟨G_S15, fS15, o17, o18⟩ := hP
      have F_S15 := zz_fr.trans F_S0 fS15 rfl zz_nv
      rcases (by omega : v16 = 0 ∨ v16 = 1) with rfl | rfl
      · have e19 : S15 1079 0 = 0 := by omega
        clear o18
        refine zz_if_eq (by omega) zd_14_13_23 (fun c20 => ?_) (fun c20 => ?_)
        · rcases (by omega : p1 = 0 ∨ p1 = 1 ∨ p1 = 2 ∨ p1 = 3 ∨ p1 = 4 ∨ p1 = 5 ∨ p1 = 6 ∨ p1 = 7 ∨ p1 = 8 ∨ p1 = 9 ∨ p1 = 10 ∨ p1 = 11) with rfl | rfl | rfl | rfl | rfl | rfl | rfl | rfl | rfl | rfl | rfl | rfl
          · refine zz_lload_n (x := p0) rfl zd_14_13_30 ?_
            refine zz_iload_n (x := 0) rfl zd_14_13_31 ?_
            refine zz_callSI [zl p0, zi 0] zd_14_13_32 zk_Md_220 rfl rfl ⟨Nat.le_of_ble_eq_true rfl, Nat.le_of_ble_eq_true rfl⟩ ⟨rfl, rfl⟩ (Nat.zero_le _) (Nat.zero_le _) (zc_fieldOf_14_12x_0 p0 S15 n hn G_S15 (by omega)) (fun v22 S21 hP => ?_)
            obtain ⟨rfl, o23, o24⟩ := hP
            exact zz_iret zd_14_13_35 rfl (Nat.zero_le _) (Nat.zero_le _) ⟨_, _, rfl, G_S15, F_S15, by omega, by omega, fun _ => o24⟩
          · refine zz_lload_n (x := p0) rfl zd_14_13_30 ?_
            refine zz_iload_n (x := 1) rfl zd_14_13_31 ?_
            refine zz_callSI [zl p0, zi 1] zd_14_13_32 zk_Md_220 rfl rfl ⟨Nat.le_of_ble_eq_true rfl, Nat.le_of_ble_eq_true rfl⟩ ⟨rfl, rfl⟩ (Nat.zero_le _) (Nat.zero_le _) (zc_fieldOf_14_12x_1 p0 S15 n hn G_S15 (by omega)) (fun v26 S25 hP => ?_)
            obtain ⟨rfl, o27, o28⟩ := hP
            exact zz_iret zd_14_13_35 rfl (Nat.zero_le _) (Nat.zero_le _) ⟨_, _, rfl, G_S15, F_S15, by omega, by omega, fun _ => o28⟩
          · refine zz_lload_n (x := p0) rfl zd_14_13_30 ?_
            refine zz_iload_n (x := 2) rfl zd_14_13_31 ?_
            refine zz_callSI [zl p0, zi 2] zd_14_13_32 zk_Md_220 rfl rfl ⟨Nat.le_of_ble_eq_true rfl, Nat.le_of_ble_eq_true rfl⟩ ⟨rfl, rfl⟩ (Nat.zero_le _) (Nat.zero_le _) (zc_fieldOf_14_12x_2 p0 S15 n hn G_S15 (by omega)) (fun v30 S29 hP => ?_)
            obtain ⟨rfl, o31, o32⟩ := hP
            exact zz_iret zd_14_13_35 rfl (Nat.zero_le _) (Nat.zero_le _) ⟨_, _, rfl, G_S15, F_S15, by omega, by omega, fun _ => o32⟩
          · refine zz_lload_n (x := p0) rfl zd_14_13_30 ?_
            refine zz_iload_n (x := 3) rfl zd_14_13_31 ?_
            refine zz_callSI [zl p0, zi 3] zd_14_13_32 zk_Md_220 rfl rfl ⟨Nat.le_of_ble_eq_true rfl, Nat.le_of_ble_eq_true rfl⟩ ⟨rfl, rfl⟩ (Nat.zero_le _) (Nat.zero_le _) (zc_fieldOf_14_12x_3 p0 S15 n hn G_S15 (by omega)) (fun v34 S33 hP => ?_)
            obtain ⟨rfl, o35, o36⟩ := hP
            exact zz_iret zd_14_13_35 rfl (Nat.zero_le _) (Nat.zero_le _) ⟨_, _, rfl, G_S15, F_S15, by omega, by omega, fun _ => o36⟩
          · refine zz_lload_n (x := p0) rfl zd_14_13_30 ?_
            refine zz_iload_n (x := 4) rfl zd_14_13_31 ?_
            refine zz_callSI [zl p0, zi 4] zd_14_13_32 zk_Md_220 rfl rfl ⟨Nat.le_of_ble_eq_true rfl, Nat.le_of_ble_eq_true rfl⟩ ⟨rfl, rfl⟩ (Nat.zero_le _) (Nat.zero_le _) (zc_fieldOf_14_12x_4 p0 S15 n hn G_S15 (by omega)) (fun v38 S37 hP => ?_)
            obtain ⟨rfl, o39, o40⟩ := hP
            exact zz_iret zd_14_13_35 rfl (Nat.zero_le _) (Nat.zero_le _) ⟨_, _, rfl, G_S15, F_S15, by omega, by omega, fun _ => o40⟩
          · refine zz_lload_n (x := p0) rfl zd_14_13_30 ?_
            refine zz_iload_n (x := 5) rfl zd_14_13_31 ?_
            refine zz_callSI [zl p0, zi 5] zd_14_13_32 zk_Md_220 rfl rfl ⟨Nat.le_of_ble_eq_true rfl, Nat.le_of_ble_eq_true rfl⟩ ⟨rfl, rfl⟩ (Nat.zero_le _) (Nat.zero_le _) (zc_fieldOf_14_12x_5 p0 S15 n hn G_S15 (by omega)) (fun v42 S41 hP => ?_)
            obtain ⟨rfl, o43, o44⟩ := hP
            exact zz_iret zd_14_13_35 rfl (Nat.zero_le _) (Nat.zero_le _) ⟨_, _, rfl, G_S15, F_S15, by omega, by omega, fun _ => o44⟩
          · refine zz_lload_n (x := p0) rfl zd_14_13_30 ?_
            refine zz_iload_n (x := 6) rfl zd_14_13_31 ?_
            refine zz_callSI [zl p0, zi 6] zd_14_13_32 zk_Md_220 rfl rfl ⟨Nat.le_of_ble_eq_true rfl, Nat.le_of_ble_eq_true rfl⟩ ⟨rfl, rfl⟩ (Nat.zero_le _) (Nat.zero_le _) (zc_fieldOf_14_12x_6 p0 S15 n hn G_S15 (by omega)) (fun v46 S45 hP => ?_)
            obtain ⟨rfl, o47, o48⟩ := hP
            exact zz_iret zd_14_13_35 rfl (Nat.zero_le _) (Nat.zero_le _) ⟨_, _, rfl, G_S15, F_S15, by omega, by omega, fun _ => o48⟩
          · refine zz_lload_n (x := p0) rfl zd_14_13_30 ?_
            refine zz_iload_n (x := 7) rfl zd_14_13_31 ?_
            refine zz_callSI [zl p0, zi 7] zd_14_13_32 zk_Md_220 rfl rfl ⟨Nat.le_of_ble_eq_true rfl, Nat.le_of_ble_eq_true rfl⟩ ⟨rfl, rfl⟩ (Nat.zero_le _) (Nat.zero_le _) (zc_fieldOf_14_12x_7 p0 S15 n hn G_S15 (by omega)) (fun v50 S49 hP => ?_)
            obtain ⟨rfl, o51, o52⟩ := hP
            exact zz_iret zd_14_13_35 rfl (Nat.zero_le _) (Nat.zero_le _) ⟨_, _, rfl, G_S15, F_S15, by omega, by omega, fun _ => o52⟩
          · refine zz_lload_n (x := p0) rfl zd_14_13_30 ?_
            refine zz_iload_n (x := 8) rfl zd_14_13_31 ?_
            refine zz_callSI [zl p0, zi 8] zd_14_13_32 zk_Md_220 rfl rfl ⟨Nat.le_of_ble_eq_true rfl, Nat.le_of_ble_eq_true rfl⟩ ⟨rfl, rfl⟩ (Nat.zero_le _) (Nat.zero_le _) (zc_fieldOf_14_12x_8 p0 S15 n hn G_S15 (by omega)) (fun v54 S53 hP => ?_)
            obtain ⟨rfl, o55, o56⟩ := hP
            exact zz_iret zd_14_13_35 rfl (Nat.zero_le _) (Nat.zero_le _) ⟨_, _, rfl, G_S15, F_S15, by omega, by omega, fun _ => o56⟩
          · refine zz_lload_n (x := p0) rfl zd_14_13_30 ?_
            refine zz_iload_n (x := 9) rfl zd_14_13_31 ?_
            refine zz_callSI [zl p0, zi 9] zd_14_13_32 zk_Md_220 rfl rfl ⟨Nat.le_of_ble_eq_true rfl, Nat.le_of_ble_eq_true rfl⟩ ⟨rfl, rfl⟩ (Nat.zero_le _) (Nat.zero_le _) (zc_fieldOf_14_12x_9 p0 S15 n hn G_S15 (by omega)) (fun v58 S57 hP => ?_)
            obtain ⟨rfl, o59, o60⟩ := hP
            exact zz_iret zd_14_13_35 rfl (Nat.zero_le _) (Nat.zero_le _) ⟨_, _, rfl, G_S15, F_S15, by omega, by omega, fun _ => o60⟩
          · refine zz_lload_n (x := p0) rfl zd_14_13_30 ?_
            refine zz_iload_n (x := 10) rfl zd_14_13_31 ?_
            refine zz_callSI [zl p0, zi 10] zd_14_13_32 zk_Md_220 rfl rfl ⟨Nat.le_of_ble_eq_true rfl, Nat.le_of_ble_eq_true rfl⟩ ⟨rfl, rfl⟩ (Nat.zero_le _) (Nat.zero_le _) (zc_fieldOf_14_12x_10 p0 S15 n hn G_S15 (by omega)) (fun v62 S61 hP => ?_)
            obtain ⟨rfl, o63, o64⟩ := hP
            exact zz_iret zd_14_13_35 rfl (Nat.zero_le _) (Nat.zero_le _) ⟨_, _, rfl, G_S15, F_S15, by omega, by omega, fun _ => o64⟩
          · refine zz_lload_n (x := p0) rfl zd_14_13_30 ?_
            refine zz_iload_n (x := 11) rfl zd_14_13_31 ?_
            refine zz_callSI [zl p0, zi 11] zd_14_13_32 zk_Md_220 rfl rfl ⟨Nat.le_of_ble_eq_true rfl, Nat.le_of_ble_eq_true rfl⟩ ⟨rfl, rfl⟩ (Nat.zero_le _) (Nat.zero_le _) (zc_fieldOf_14_12x_11 p0 S15 n hn G_S15 (by omega)) (fun v66 S65 hP => ?_)
            obtain ⟨rfl, o67, o68⟩ := hP
            exact zz_iret zd_14_13_35 rfl (Nat.zero_le _) (Nat.zero_le _) ⟨_, _, rfl, G_S15, F_S15, by omega, by omega, fun _ => o68⟩
        · exfalso; omega
      · exfalso; omega
    · exfalso; omega
abbrev zy_word_14_14 : mm_Y := (⟨"TensorForgeModel", "word", "(IJ)V"⟩, prog_14_method_14_code, 4, none)
theorem zyw_word_14_14 : mm_Yw zy_word_14_14 2 := ⟨mm_tb_1 1870 (by decide +kernel) rfl, mm_tb_1 12 (by decide +kernel) rfl, ⟨by decide, by decide⟩, by decide +kernel⟩
theorem zf_Md_224 : mm_Fl "TensorForgeModel" 224 11 7 .int false := ⟨R_Md, F_Md, 69, t_Md, rfl, i_Md, by decide, mm_tb_1 1618 (by decide +kernel) rfl, rfl, t_Md_ok, n_Md, rfl, by decide +kernel⟩
theorem zf_Md_29 : mm_Fl "TensorForgeModel" 29 11 8 (.array .long) true := ⟨R_Md, F_Md, 69, t_Md, rfl, i_Md, by decide, mm_tb_1 1619 (by decide +kernel) rfl, rfl, t_Md_ok, n_Md, rfl, by decide +kernel⟩
theorem zg_14_14_0 : zq_at zy_word_14_14.2.1 0 42 ∧ zq_at zy_word_14_14.2.1 1 27 ∧ zq_at zy_word_14_14.2.1 2 133 ∧ zq_at zy_word_14_14.2.1 3 9 ∧ zq_at zy_word_14_14.2.1 4 42 ∧ zq_at zy_word_14_14.2.1 5 180 ∧ zq_at zy_word_14_14.2.1 6 0 ∧ zq_at zy_word_14_14.2.1 7 224 ∧ zq_at zy_word_14_14.2.1 8 133 ∧ zq_at zy_word_14_14.2.1 9 184 ∧ zq_at zy_word_14_14.2.1 10 0 ∧ zq_at zy_word_14_14.2.1 11 192 ∧ zq_at zy_word_14_14.2.1 12 154 ∧ zq_at zy_word_14_14.2.1 13 0 ∧ zq_at zy_word_14_14.2.1 14 7 ∧ zq_at zy_word_14_14.2.1 15 4 ∧ zq_at zy_word_14_14.2.1 16 167 ∧ zq_at zy_word_14_14.2.1 17 0 ∧ zq_at zy_word_14_14.2.1 18 4 ∧ zq_at zy_word_14_14.2.1 20 27 ∧ zq_at zy_word_14_14.2.1 21 42 ∧ zq_at zy_word_14_14.2.1 22 180 ∧ zq_at zy_word_14_14.2.1 23 0 ∧ zq_at zy_word_14_14.2.1 24 224 := by decide +kernel
theorem zd_14_14_0 : zz_D zy_word_14_14 0 (.aload_n 0) 1 1 := ⟨zq_42 zg_14_14_0.1, rfl⟩
theorem zd_14_14_1 : zz_D zy_word_14_14 1 (.iload_n 1) 1 2 := ⟨zq_27 zg_14_14_0.2.1, rfl⟩
theorem zd_14_14_2 : zz_D zy_word_14_14 2 (.i2l) 1 3 := ⟨zq_133 zg_14_14_0.2.2.1, rfl⟩
theorem zd_14_14_3 : zz_D zy_word_14_14 3 (.lconst 0) 1 4 := ⟨zq_9 zg_14_14_0.2.2.2.1, rfl⟩
theorem zd_14_14_4 : zz_D zy_word_14_14 4 (.aload_n 0) 1 5 := ⟨zq_42 zg_14_14_0.2.2.2.2.1, rfl⟩
theorem zd_14_14_5 : zz_D zy_word_14_14 5 (.getfield 224) 3 8 := ⟨zq_180 zg_14_14_0.2.2.2.2.2.1 zg_14_14_0.2.2.2.2.2.2.1 zg_14_14_0.2.2.2.2.2.2.2.1 rfl, rfl⟩
theorem zd_14_14_8 : zz_D zy_word_14_14 8 (.i2l) 1 9 := ⟨zq_133 zg_14_14_0.2.2.2.2.2.2.2.2.1, rfl⟩
theorem zd_14_14_9 : zz_D zy_word_14_14 9 (.invokestatic 192) 3 12 := ⟨zq_184 zg_14_14_0.2.2.2.2.2.2.2.2.2.1 zg_14_14_0.2.2.2.2.2.2.2.2.2.2.1 zg_14_14_0.2.2.2.2.2.2.2.2.2.2.2.1 rfl, rfl⟩
theorem zd_14_14_12 : zz_B zy_word_14_14 12 (Instr.ifCond .ne) 19 15 := ⟨7, zq_154 zg_14_14_0.2.2.2.2.2.2.2.2.2.2.2.2.1 zg_14_14_0.2.2.2.2.2.2.2.2.2.2.2.2.2.1 zg_14_14_0.2.2.2.2.2.2.2.2.2.2.2.2.2.2.1 (by decide), rfl, rfl⟩
theorem zd_14_14_15 : zz_D zy_word_14_14 15 (.iconst 1) 1 16 := ⟨zq_4 zg_14_14_0.2.2.2.2.2.2.2.2.2.2.2.2.2.2.2.1, rfl⟩
theorem zd_14_14_16 : zz_B zy_word_14_14 16 Instr.goto 20 19 := ⟨4, zq_167 zg_14_14_0.2.2.2.2.2.2.2.2.2.2.2.2.2.2.2.2.1 zg_14_14_0.2.2.2.2.2.2.2.2.2.2.2.2.2.2.2.2.2.1 zg_14_14_0.2.2.2.2.2.2.2.2.2.2.2.2.2.2.2.2.2.2.1 (by decide), rfl, rfl⟩
theorem zd_14_14_20 : zz_D zy_word_14_14 20 (.iload_n 1) 1 21 := ⟨zq_27 zg_14_14_0.2.2.2.2.2.2.2.2.2.2.2.2.2.2.2.2.2.2.2.1, rfl⟩
theorem zd_14_14_21 : zz_D zy_word_14_14 21 (.aload_n 0) 1 22 := ⟨zq_42 zg_14_14_0.2.2.2.2.2.2.2.2.2.2.2.2.2.2.2.2.2.2.2.2.1, rfl⟩
theorem zd_14_14_22 : zz_D zy_word_14_14 22 (.getfield 224) 3 25 := ⟨zq_180 zg_14_14_0.2.2.2.2.2.2.2.2.2.2.2.2.2.2.2.2.2.2.2.2.2.1 zg_14_14_0.2.2.2.2.2.2.2.2.2.2.2.2.2.2.2.2.2.2.2.2.2.2.1 zg_14_14_0.2.2.2.2.2.2.2.2.2.2.2.2.2.2.2.2.2.2.2.2.2.2.2 rfl, rfl⟩
theorem zg_14_14_25 : zq_at zy_word_14_14.2.1 25 160 ∧ zq_at zy_word_14_14.2.1 26 0 ∧ zq_at zy_word_14_14.2.1 27 17 ∧ zq_at zy_word_14_14.2.1 42 3 ∧ zq_at zy_word_14_14.2.1 43 3 ∧ zq_at zy_word_14_14.2.1 44 182 ∧ zq_at zy_word_14_14.2.1 45 0 ∧ zq_at zy_word_14_14.2.1 46 196 ∧ zq_at zy_word_14_14.2.1 47 153 ∧ zq_at zy_word_14_14.2.1 48 0 ∧ zq_at zy_word_14_14.2.1 49 4 ∧ zq_at zy_word_14_14.2.1 50 177 ∧ zq_at zy_word_14_14.2.1 28 42 ∧ zq_at zy_word_14_14.2.1 29 180 ∧ zq_at zy_word_14_14.2.1 30 0 ∧ zq_at zy_word_14_14.2.1 31 224 ∧ zq_at zy_word_14_14.2.1 32 17 ∧ zq_at zy_word_14_14.2.1 33 2 ∧ zq_at zy_word_14_14.2.1 34 88 ∧ zq_at zy_word_14_14.2.1 35 160 ∧ zq_at zy_word_14_14.2.1 36 0 ∧ zq_at zy_word_14_14.2.1 37 7 ∧ zq_at zy_word_14_14.2.1 38 4 := by decide +kernel
theorem zd_14_14_25 : zz_B zy_word_14_14 25 (Instr.if_icmp .ne) 42 28 := ⟨17, zq_160 zg_14_14_25.1 zg_14_14_25.2.1 zg_14_14_25.2.2.1 (by decide), rfl, rfl⟩
theorem zd_14_14_42 : zz_D zy_word_14_14 42 (.iconst 0) 1 43 := ⟨zq_3 zg_14_14_25.2.2.2.1, rfl⟩
theorem zd_14_14_43 : zz_D zy_word_14_14 43 (.iconst 0) 1 44 := ⟨zq_3 zg_14_14_25.2.2.2.2.1, rfl⟩
theorem zd_14_14_44 : zz_D zy_word_14_14 44 (.invokevirtual 196) 3 47 := ⟨zq_182 zg_14_14_25.2.2.2.2.2.1 zg_14_14_25.2.2.2.2.2.2.1 zg_14_14_25.2.2.2.2.2.2.2.1 rfl, rfl⟩
theorem zd_14_14_47 : zz_B zy_word_14_14 47 (Instr.ifCond .eq) 51 50 := ⟨4, zq_153 zg_14_14_25.2.2.2.2.2.2.2.2.1 zg_14_14_25.2.2.2.2.2.2.2.2.2.1 zg_14_14_25.2.2.2.2.2.2.2.2.2.2.1 (by decide), rfl, rfl⟩
theorem zd_14_14_50 : zz_D zy_word_14_14 50 (.return_) 1 51 := ⟨zq_177 zg_14_14_25.2.2.2.2.2.2.2.2.2.2.2.1, rfl⟩
theorem zd_14_14_28 : zz_D zy_word_14_14 28 (.aload_n 0) 1 29 := ⟨zq_42 zg_14_14_25.2.2.2.2.2.2.2.2.2.2.2.2.1, rfl⟩
theorem zd_14_14_29 : zz_D zy_word_14_14 29 (.getfield 224) 3 32 := ⟨zq_180 zg_14_14_25.2.2.2.2.2.2.2.2.2.2.2.2.2.1 zg_14_14_25.2.2.2.2.2.2.2.2.2.2.2.2.2.2.1 zg_14_14_25.2.2.2.2.2.2.2.2.2.2.2.2.2.2.2.1 rfl, rfl⟩
theorem zd_14_14_32 : zz_D zy_word_14_14 32 (.sipush 600) 3 35 := ⟨zq_17 zg_14_14_25.2.2.2.2.2.2.2.2.2.2.2.2.2.2.2.2.1 zg_14_14_25.2.2.2.2.2.2.2.2.2.2.2.2.2.2.2.2.2.1 zg_14_14_25.2.2.2.2.2.2.2.2.2.2.2.2.2.2.2.2.2.2.1 (by decide), rfl⟩
theorem zd_14_14_35 : zz_B zy_word_14_14 35 (Instr.if_icmp .ne) 42 38 := ⟨7, zq_160 zg_14_14_25.2.2.2.2.2.2.2.2.2.2.2.2.2.2.2.2.2.2.2.1 zg_14_14_25.2.2.2.2.2.2.2.2.2.2.2.2.2.2.2.2.2.2.2.2.1 zg_14_14_25.2.2.2.2.2.2.2.2.2.2.2.2.2.2.2.2.2.2.2.2.2.1 (by decide), rfl, rfl⟩
theorem zd_14_14_38 : zz_D zy_word_14_14 38 (.iconst 1) 1 39 := ⟨zq_4 zg_14_14_25.2.2.2.2.2.2.2.2.2.2.2.2.2.2.2.2.2.2.2.2.2.2, rfl⟩
theorem zg_14_14_39 : zq_at zy_word_14_14.2.1 39 167 ∧ zq_at zy_word_14_14.2.1 40 0 ∧ zq_at zy_word_14_14.2.1 41 4 ∧ zq_at zy_word_14_14.2.1 19 3 ∧ zq_at zy_word_14_14.2.1 51 42 ∧ zq_at zy_word_14_14.2.1 52 180 ∧ zq_at zy_word_14_14.2.1 53 0 ∧ zq_at zy_word_14_14.2.1 54 29 ∧ zq_at zy_word_14_14.2.1 55 27 ∧ zq_at zy_word_14_14.2.1 56 32 ∧ zq_at zy_word_14_14.2.1 57 80 ∧ zq_at zy_word_14_14.2.1 58 42 ∧ zq_at zy_word_14_14.2.1 59 27 ∧ zq_at zy_word_14_14.2.1 60 42 ∧ zq_at zy_word_14_14.2.1 61 180 ∧ zq_at zy_word_14_14.2.1 62 0 ∧ zq_at zy_word_14_14.2.1 63 224 ∧ zq_at zy_word_14_14.2.1 64 160 ∧ zq_at zy_word_14_14.2.1 65 0 ∧ zq_at zy_word_14_14.2.1 66 12 ∧ zq_at zy_word_14_14.2.1 76 42 ∧ zq_at zy_word_14_14.2.1 77 180 ∧ zq_at zy_word_14_14.2.1 78 0 ∧ zq_at zy_word_14_14.2.1 79 224 := by decide +kernel
theorem zd_14_14_39 : zz_B zy_word_14_14 39 Instr.goto 43 42 := ⟨4, zq_167 zg_14_14_39.1 zg_14_14_39.2.1 zg_14_14_39.2.2.1 (by decide), rfl, rfl⟩
theorem zd_14_14_19 : zz_D zy_word_14_14 19 (.iconst 0) 1 20 := ⟨zq_3 zg_14_14_39.2.2.2.1, rfl⟩
theorem zd_14_14_51 : zz_D zy_word_14_14 51 (.aload_n 0) 1 52 := ⟨zq_42 zg_14_14_39.2.2.2.2.1, rfl⟩
theorem zd_14_14_52 : zz_D zy_word_14_14 52 (.getfield 29) 3 55 := ⟨zq_180 zg_14_14_39.2.2.2.2.2.1 zg_14_14_39.2.2.2.2.2.2.1 zg_14_14_39.2.2.2.2.2.2.2.1 rfl, rfl⟩
theorem zd_14_14_55 : zz_D zy_word_14_14 55 (.iload_n 1) 1 56 := ⟨zq_27 zg_14_14_39.2.2.2.2.2.2.2.2.1, rfl⟩
theorem zd_14_14_56 : zz_D zy_word_14_14 56 (.lload_n 2) 1 57 := ⟨zq_32 zg_14_14_39.2.2.2.2.2.2.2.2.2.1, rfl⟩
theorem zd_14_14_57 : zz_D zy_word_14_14 57 (.lastore) 1 58 := ⟨zq_80 zg_14_14_39.2.2.2.2.2.2.2.2.2.2.1, rfl⟩
theorem zd_14_14_58 : zz_D zy_word_14_14 58 (.aload_n 0) 1 59 := ⟨zq_42 zg_14_14_39.2.2.2.2.2.2.2.2.2.2.2.1, rfl⟩
theorem zd_14_14_59 : zz_D zy_word_14_14 59 (.iload_n 1) 1 60 := ⟨zq_27 zg_14_14_39.2.2.2.2.2.2.2.2.2.2.2.2.1, rfl⟩
theorem zd_14_14_60 : zz_D zy_word_14_14 60 (.aload_n 0) 1 61 := ⟨zq_42 zg_14_14_39.2.2.2.2.2.2.2.2.2.2.2.2.2.1, rfl⟩
theorem zd_14_14_61 : zz_D zy_word_14_14 61 (.getfield 224) 3 64 := ⟨zq_180 zg_14_14_39.2.2.2.2.2.2.2.2.2.2.2.2.2.2.1 zg_14_14_39.2.2.2.2.2.2.2.2.2.2.2.2.2.2.2.1 zg_14_14_39.2.2.2.2.2.2.2.2.2.2.2.2.2.2.2.2.1 rfl, rfl⟩
theorem zd_14_14_64 : zz_B zy_word_14_14 64 (Instr.if_icmp .ne) 76 67 := ⟨12, zq_160 zg_14_14_39.2.2.2.2.2.2.2.2.2.2.2.2.2.2.2.2.2.1 zg_14_14_39.2.2.2.2.2.2.2.2.2.2.2.2.2.2.2.2.2.2.1 zg_14_14_39.2.2.2.2.2.2.2.2.2.2.2.2.2.2.2.2.2.2.2.1 (by decide), rfl, rfl⟩
theorem zd_14_14_76 : zz_D zy_word_14_14 76 (.aload_n 0) 1 77 := ⟨zq_42 zg_14_14_39.2.2.2.2.2.2.2.2.2.2.2.2.2.2.2.2.2.2.2.2.1, rfl⟩
theorem zd_14_14_77 : zz_D zy_word_14_14 77 (.getfield 224) 3 80 := ⟨zq_180 zg_14_14_39.2.2.2.2.2.2.2.2.2.2.2.2.2.2.2.2.2.2.2.2.2.1 zg_14_14_39.2.2.2.2.2.2.2.2.2.2.2.2.2.2.2.2.2.2.2.2.2.2.1 zg_14_14_39.2.2.2.2.2.2.2.2.2.2.2.2.2.2.2.2.2.2.2.2.2.2.2 rfl, rfl⟩
theorem zg_14_14_80 : zq_at zy_word_14_14.2.1 80 181 ∧ zq_at zy_word_14_14.2.1 81 0 ∧ zq_at zy_word_14_14.2.1 82 224 ∧ zq_at zy_word_14_14.2.1 83 177 ∧ zq_at zy_word_14_14.2.1 67 42 ∧ zq_at zy_word_14_14.2.1 68 180 ∧ zq_at zy_word_14_14.2.1 69 0 ∧ zq_at zy_word_14_14.2.1 70 224 ∧ zq_at zy_word_14_14.2.1 71 4 ∧ zq_at zy_word_14_14.2.1 72 96 ∧ zq_at zy_word_14_14.2.1 73 167 ∧ zq_at zy_word_14_14.2.1 74 0 ∧ zq_at zy_word_14_14.2.1 75 7 := by decide +kernel
theorem zd_14_14_80 : zz_D zy_word_14_14 80 (.putfield 224) 3 83 := ⟨zq_181 zg_14_14_80.1 zg_14_14_80.2.1 zg_14_14_80.2.2.1 rfl, rfl⟩
theorem zd_14_14_83 : zz_D zy_word_14_14 83 (.return_) 1 84 := ⟨zq_177 zg_14_14_80.2.2.2.1, rfl⟩
theorem zd_14_14_67 : zz_D zy_word_14_14 67 (.aload_n 0) 1 68 := ⟨zq_42 zg_14_14_80.2.2.2.2.1, rfl⟩
theorem zd_14_14_68 : zz_D zy_word_14_14 68 (.getfield 224) 3 71 := ⟨zq_180 zg_14_14_80.2.2.2.2.2.1 zg_14_14_80.2.2.2.2.2.2.1 zg_14_14_80.2.2.2.2.2.2.2.1 rfl, rfl⟩
theorem zd_14_14_71 : zz_D zy_word_14_14 71 (.iconst 1) 1 72 := ⟨zq_4 zg_14_14_80.2.2.2.2.2.2.2.2.1, rfl⟩
theorem zd_14_14_72 : zz_D zy_word_14_14 72 (.iadd) 1 73 := ⟨zq_96 zg_14_14_80.2.2.2.2.2.2.2.2.2.1, rfl⟩
theorem zd_14_14_73 : zz_B zy_word_14_14 73 Instr.goto 80 76 := ⟨7, zq_167 zg_14_14_80.2.2.2.2.2.2.2.2.2.2.1 zg_14_14_80.2.2.2.2.2.2.2.2.2.2.2.1 zg_14_14_80.2.2.2.2.2.2.2.2.2.2.2.2 (by decide), rfl, rfl⟩
-- TensorForgeModel word (IJ)V
abbrev zr_word_14_14 : Room := { frames := 1, cells := 0, slots := 0, locals := 18 }
def zp_word_14_14 (p0 : Int) (p1 : Int) (S0 : zz_S) : zz_S → Prop := fun S => zz_G S ∧ zz_fr [(1079, 0), (1079, 7)] [1085] (fun _ _ => False) S0 S
theorem zc_word_14_14 {g : mm_G} {l : Launch} (p0 : Int) (p1 : Int) (S0 : zz_S) (n : Nat) (hn : zz_end ≤ n) (G_S0 : zz_G S0) (hp0 : (-2147483648) ≤ p0 ∧ p0 ≤ 2147483647) (hp1 : (-9223372036854775808) ≤ p1 ∧ p1 ≤ 9223372036854775807) : mm_Met g l zy_word_14_14 zr_word_14_14 [.ref 1079, zi p0, zl p1] (zz_M S0 n) n (zz_QV n (zp_word_14_14 p0 p1 S0)) := by
  refine zz_enter (by decide) (Nat.le_of_ble_eq_true rfl) (zz_less (ls1 := [some (.ref 1079), some (zi p0), some (zl p1), none]) ⟨rfl, ⟨rfl, ⟨rfl, trivial⟩⟩⟩ ?_)
  have F_S0 : zz_fr [(1079, 0), (1079, 7)] [1085] (fun _ _ => False) S0 S0 := zz_fr.refl
  refine zz_aload_n (x := 1079) rfl zd_14_14_0 ?_
  refine zz_iload_n (x := p0) rfl zd_14_14_1 ?_
  refine zz_i2l (by omega) zd_14_14_2 ?_
  refine zz_lconst (z := 0) (by decide) zd_14_14_3 ?_
  refine zz_aload_n (x := 1079) rfl zd_14_14_4 ?_
  have g1 := zz_G.r G_S0 1079 7 0 600 rfl rfl
  refine zz_geti (z := S0 1079 7) zd_14_14_5 zf_Md_224 zT_1079 rfl (zz_ltn hn rfl) rfl ?_
  refine zz_i2l (by omega) zd_14_14_8 ?_
  refine zz_callSI [zl p0, zl 0, zl (S0 1079 7)] zd_14_14_9 zk_Md_192 rfl rfl ⟨Nat.le_of_ble_eq_true rfl, Nat.le_of_ble_eq_true rfl⟩ ⟨rfl, rfl⟩ (Nat.zero_le _) (Nat.zero_le _) (zc_in_14_4 p0 0 (S0 1079 7) S0 n hn G_S0 (by omega) (by omega) (by omega)) (fun v3 S2 hP => ?_)
  obtain ⟨rfl, o4, o5⟩ := hP
  rcases (by omega : v3 = 0 ∨ v3 = 1) with rfl | rfl
  · have n6 : p0 < 0 ∨ S0 1079 7 < p0 := by omega
    clear o5
    refine zz_if_ne (by omega) zd_14_14_12 (fun c7 => ?_) (fun c7 => ?_)
    · exfalso; omega
    · refine zz_iconst zd_14_14_15 ?_
      refine zz_goto zd_14_14_16 ?_
      refine zz_iload_n (x := p0) rfl zd_14_14_20 ?_
      refine zz_aload_n (x := 1079) rfl zd_14_14_21 ?_
      refine zz_geti (z := S0 1079 7) zd_14_14_22 zf_Md_224 zT_1079 rfl (zz_ltn hn rfl) rfl ?_
      refine zz_icmp_ne (by omega) (by omega) zd_14_14_25 (fun c8 => ?_) (fun c8 => ?_)
      · refine zz_iconst zd_14_14_42 ?_
        refine zz_iconst zd_14_14_43 ?_
        refine zz_callVI [zi 1, zi 0, zi 0] zd_14_14_44 zk_Md_196 zT_1079 (zz_ltn hn rfl) rfl rfl ⟨Nat.le_of_ble_eq_true rfl, Nat.le_of_ble_eq_true rfl⟩ ⟨rfl, rfl⟩ (Nat.zero_le _) (Nat.zero_le _) (zc_refuse_14_3 1 0 0 S0 n hn G_S0 (by omega) (by omega) (by omega)) (fun v10 S9 hP => ?_)
        obtain ⟨G_S9, fS9, o11, o12⟩ := hP
        have F_S9 := zz_fr.trans F_S0 fS9 rfl zz_nv
        rcases (by omega : v10 = 0 ∨ v10 = 1) with rfl | rfl
        · exfalso; omega
        · have e13 : S9 1079 0 = 1 := by omega
          clear o12
          refine zz_if_eq (by omega) zd_14_14_47 (fun c14 => ?_) (fun c14 => ?_)
          · exfalso; omega
          · exact zz_vret zd_14_14_50 rfl (Nat.zero_le _) (Nat.zero_le _) ⟨_, rfl, G_S9, F_S9⟩
      · refine zz_aload_n (x := 1079) rfl zd_14_14_28 ?_
        refine zz_geti (z := S0 1079 7) zd_14_14_29 zf_Md_224 zT_1079 rfl (zz_ltn hn rfl) rfl ?_
        refine zz_sipush (by decide) zd_14_14_32 ?_
        refine zz_icmp_ne (by omega) (by omega) zd_14_14_35 (fun c15 => ?_) (fun c15 => ?_)
        · refine zz_iconst zd_14_14_42 ?_
          refine zz_iconst zd_14_14_43 ?_
          refine zz_callVI [zi 1, zi 0, zi 0] zd_14_14_44 zk_Md_196 zT_1079 (zz_ltn hn rfl) rfl rfl ⟨Nat.le_of_ble_eq_true rfl, Nat.le_of_ble_eq_true rfl⟩ ⟨rfl, rfl⟩ (Nat.zero_le _) (Nat.zero_le _) (zc_refuse_14_3 1 0 0 S0 n hn G_S0 (by omega) (by omega) (by omega)) (fun v17 S16 hP => ?_)
          obtain ⟨G_S16, fS16, o18, o19⟩ := hP
          have F_S16 := zz_fr.trans F_S0 fS16 rfl zz_nv
          rcases (by omega : v17 = 0 ∨ v17 = 1) with rfl | rfl
          · exfalso; omega
          · have e20 : S16 1079 0 = 1 := by omega
            clear o19
            refine zz_if_eq (by omega) zd_14_14_47 (fun c21 => ?_) (fun c21 => ?_)
            · exfalso; omega
            · exact zz_vret zd_14_14_50 rfl (Nat.zero_le _) (Nat.zero_le _) ⟨_, rfl, G_S16, F_S16⟩
        · refine zz_iconst zd_14_14_38 ?_
          refine zz_goto zd_14_14_39 ?_
          refine zz_iconst zd_14_14_43 ?_
          refine zz_callVI [zi 1, zi 1, zi 0] zd_14_14_44 zk_Md_196 zT_1079 (zz_ltn hn rfl) rfl rfl ⟨Nat.le_of_ble_eq_true rfl, Nat.le_of_ble_eq_true rfl⟩ ⟨rfl, rfl⟩ (Nat.zero_le _) (Nat.zero_le _) (zc_refuse_14_3 1 1 0 S0 n hn G_S0 (by omega) (by omega) (by omega)) (fun v23 S22 hP => ?_)
          obtain ⟨G_S22, fS22, o24, o25⟩ := hP
          have F_S22 := zz_fr.trans F_S0 fS22 rfl zz_nv
          rcases (by omega : v23 = 0 ∨ v23 = 1) with rfl | rfl
          · exfalso; omega
          · have e26 : S22 1079 0 = 1 := by omega
            clear o25
            refine zz_if_eq (by omega) zd_14_14_47 (fun c27 => ?_) (fun c27 => ?_)
            · exfalso; omega
            · exact zz_vret zd_14_14_50 rfl (Nat.zero_le _) (Nat.zero_le _) ⟨_, rfl, G_S22, F_S22⟩
  · have n28 : 0 ≤ p0 ∧ p0 ≤ S0 1079 7 := by omega
    clear o5
    refine zz_if_ne (by omega) zd_14_14_12 (fun c29 => ?_) (fun c29 => ?_)
    · refine zz_iconst zd_14_14_19 ?_
      refine zz_iload_n (x := p0) rfl zd_14_14_20 ?_
      refine zz_aload_n (x := 1079) rfl zd_14_14_21 ?_
      refine zz_geti (z := S0 1079 7) zd_14_14_22 zf_Md_224 zT_1079 rfl (zz_ltn hn rfl) rfl ?_
      refine zz_icmp_ne (by omega) (by omega) zd_14_14_25 (fun c30 => ?_) (fun c30 => ?_)
      · refine zz_iconst zd_14_14_42 ?_
        refine zz_iconst zd_14_14_43 ?_
        refine zz_callVI [zi 0, zi 0, zi 0] zd_14_14_44 zk_Md_196 zT_1079 (zz_ltn hn rfl) rfl rfl ⟨Nat.le_of_ble_eq_true rfl, Nat.le_of_ble_eq_true rfl⟩ ⟨rfl, rfl⟩ (Nat.zero_le _) (Nat.zero_le _) (zc_refuse_14_3 0 0 0 S0 n hn G_S0 (by omega) (by omega) (by omega)) (fun v32 S31 hP => ?_)
        obtain ⟨G_S31, fS31, o33, o34⟩ := hP
        have F_S31 := zz_fr.trans F_S0 fS31 rfl zz_nv
        rcases (by omega : v32 = 0 ∨ v32 = 1) with rfl | rfl
        · have e35 : S31 1079 0 = 0 := by omega
          clear o34
          refine zz_if_eq (by omega) zd_14_14_47 (fun c36 => ?_) (fun c36 => ?_)
          · refine zz_aload_n (x := 1079) rfl zd_14_14_51 ?_
            refine zz_getr (kd := 0) (z := 1085) zd_14_14_52 zf_Md_29 zT_1079 rfl (zz_ltn hn rfl) (zz_G.eq G_S31 1079 8 1085 rfl rfl) (by decide) 1085 rfl ?_
            refine zz_iload_n (x := p0) rfl zd_14_14_55 ?_
            refine zz_lload_n (x := p1) rfl zd_14_14_56 ?_
            refine zz_last zd_14_14_57 zT_1085 rfl (zz_ltn hn rfl) (by decide) (by omega) (fun S37 qS37 => ?_)
            have G_S37 := zz_G.put G_S31 qS37 (-9223372036854775808) 9223372036854775807 rfl (by omega)
            have F_S37 := zz_fr.putc F_S31 qS37 rfl
            refine zz_aload_n (x := 1079) rfl zd_14_14_58 ?_
            refine zz_iload_n (x := p0) rfl zd_14_14_59 ?_
            refine zz_aload_n (x := 1079) rfl zd_14_14_60 ?_
            refine zz_geti (z := S0 1079 7) zd_14_14_61 zf_Md_224 zT_1079 rfl (zz_ltn hn rfl) (zz_ro qS37 (fun h => absurd h.1 (by decide)) (zz_rc fS31 rfl rfl (fun h => h) rfl)) ?_
            refine zz_icmp_ne (by omega) (by omega) zd_14_14_64 (fun c38 => ?_) (fun c38 => ?_)
            · refine zz_aload_n (x := 1079) rfl zd_14_14_76 ?_
              refine zz_geti (z := S0 1079 7) zd_14_14_77 zf_Md_224 zT_1079 rfl (zz_ltn hn rfl) (zz_ro qS37 (fun h => absurd h.1 (by decide)) (zz_rc fS31 rfl rfl (fun h => h) rfl)) ?_
              refine zz_puti zd_14_14_80 zf_Md_224 zT_1079 rfl (zz_ltn hn rfl) (fun S39 qS39 => ?_)
              have G_S39 := zz_G.put G_S37 qS39 0 600 rfl (by omega)
              have F_S39 := zz_fr.puts F_S37 qS39 rfl
              exact zz_vret zd_14_14_83 rfl (Nat.zero_le _) (Nat.zero_le _) ⟨_, rfl, G_S39, F_S39⟩
            · refine zz_aload_n (x := 1079) rfl zd_14_14_67 ?_
              refine zz_geti (z := S0 1079 7) zd_14_14_68 zf_Md_224 zT_1079 rfl (zz_ltn hn rfl) (zz_ro qS37 (fun h => absurd h.1 (by decide)) (zz_rc fS31 rfl rfl (fun h => h) rfl)) ?_
              refine zz_iconst zd_14_14_71 ?_
              refine zz_iadd zd_14_14_72 ?_
              refine zz_goto zd_14_14_73 ?_
              refine zz_puti zd_14_14_80 zf_Md_224 zT_1079 rfl (zz_ltn hn rfl) (fun S40 qS40 => ?_)
              have G_S40 := zz_G.put G_S37 qS40 0 600 rfl (by omega)
              have F_S40 := zz_fr.puts F_S37 qS40 rfl
              exact zz_vret zd_14_14_83 rfl (Nat.zero_le _) (Nat.zero_le _) ⟨_, rfl, G_S40, F_S40⟩
          · exfalso; omega
        · exfalso; omega
      · refine zz_aload_n (x := 1079) rfl zd_14_14_28 ?_
        refine zz_geti (z := S0 1079 7) zd_14_14_29 zf_Md_224 zT_1079 rfl (zz_ltn hn rfl) rfl ?_
        refine zz_sipush (by decide) zd_14_14_32 ?_
        refine zz_icmp_ne (by omega) (by omega) zd_14_14_35 (fun c41 => ?_) (fun c41 => ?_)
        · refine zz_iconst zd_14_14_42 ?_
          refine zz_iconst zd_14_14_43 ?_
          refine zz_callVI [zi 0, zi 0, zi 0] zd_14_14_44 zk_Md_196 zT_1079 (zz_ltn hn rfl) rfl rfl ⟨Nat.le_of_ble_eq_true rfl, Nat.le_of_ble_eq_true rfl⟩ ⟨rfl, rfl⟩ (Nat.zero_le _) (Nat.zero_le _) (zc_refuse_14_3 0 0 0 S0 n hn G_S0 (by omega) (by omega) (by omega)) (fun v43 S42 hP => ?_)
          obtain ⟨G_S42, fS42, o44, o45⟩ := hP
          have F_S42 := zz_fr.trans F_S0 fS42 rfl zz_nv
          rcases (by omega : v43 = 0 ∨ v43 = 1) with rfl | rfl
          · have e46 : S42 1079 0 = 0 := by omega
            clear o45
            refine zz_if_eq (by omega) zd_14_14_47 (fun c47 => ?_) (fun c47 => ?_)
            · refine zz_aload_n (x := 1079) rfl zd_14_14_51 ?_
              refine zz_getr (kd := 0) (z := 1085) zd_14_14_52 zf_Md_29 zT_1079 rfl (zz_ltn hn rfl) (zz_G.eq G_S42 1079 8 1085 rfl rfl) (by decide) 1085 rfl ?_
              refine zz_iload_n (x := p0) rfl zd_14_14_55 ?_
              refine zz_lload_n (x := p1) rfl zd_14_14_56 ?_
              refine zz_last zd_14_14_57 zT_1085 rfl (zz_ltn hn rfl) (by decide) (by omega) (fun S48 qS48 => ?_)
              have G_S48 := zz_G.put G_S42 qS48 (-9223372036854775808) 9223372036854775807 rfl (by omega)
              have F_S48 := zz_fr.putc F_S42 qS48 rfl
              refine zz_aload_n (x := 1079) rfl zd_14_14_58 ?_
              refine zz_iload_n (x := p0) rfl zd_14_14_59 ?_
              refine zz_aload_n (x := 1079) rfl zd_14_14_60 ?_
              refine zz_geti (z := S0 1079 7) zd_14_14_61 zf_Md_224 zT_1079 rfl (zz_ltn hn rfl) (zz_ro qS48 (fun h => absurd h.1 (by decide)) (zz_rc fS42 rfl rfl (fun h => h) rfl)) ?_
              refine zz_icmp_ne (by omega) (by omega) zd_14_14_64 (fun c49 => ?_) (fun c49 => ?_)
              · refine zz_aload_n (x := 1079) rfl zd_14_14_76 ?_
                refine zz_geti (z := S0 1079 7) zd_14_14_77 zf_Md_224 zT_1079 rfl (zz_ltn hn rfl) (zz_ro qS48 (fun h => absurd h.1 (by decide)) (zz_rc fS42 rfl rfl (fun h => h) rfl)) ?_
                refine zz_puti zd_14_14_80 zf_Md_224 zT_1079 rfl (zz_ltn hn rfl) (fun S50 qS50 => ?_)
                have G_S50 := zz_G.put G_S48 qS50 0 600 rfl (by omega)
                have F_S50 := zz_fr.puts F_S48 qS50 rfl
                exact zz_vret zd_14_14_83 rfl (Nat.zero_le _) (Nat.zero_le _) ⟨_, rfl, G_S50, F_S50⟩
              · refine zz_aload_n (x := 1079) rfl zd_14_14_67 ?_
                refine zz_geti (z := S0 1079 7) zd_14_14_68 zf_Md_224 zT_1079 rfl (zz_ltn hn rfl) (zz_ro qS48 (fun h => absurd h.1 (by decide)) (zz_rc fS42 rfl rfl (fun h => h) rfl)) ?_
                refine zz_iconst zd_14_14_71 ?_
                refine zz_iadd zd_14_14_72 ?_
                refine zz_goto zd_14_14_73 ?_
                refine zz_puti zd_14_14_80 zf_Md_224 zT_1079 rfl (zz_ltn hn rfl) (fun S51 qS51 => ?_)
                have G_S51 := zz_G.put G_S48 qS51 0 600 rfl (by omega)
                have F_S51 := zz_fr.puts F_S48 qS51 rfl
                exact zz_vret zd_14_14_83 rfl (Nat.zero_le _) (Nat.zero_le _) ⟨_, rfl, G_S51, F_S51⟩
            · exfalso; omega
          · exfalso; omega
        · refine zz_iconst zd_14_14_38 ?_
          refine zz_goto zd_14_14_39 ?_
          refine zz_iconst zd_14_14_43 ?_
          refine zz_callVI [zi 0, zi 1, zi 0] zd_14_14_44 zk_Md_196 zT_1079 (zz_ltn hn rfl) rfl rfl ⟨Nat.le_of_ble_eq_true rfl, Nat.le_of_ble_eq_true rfl⟩ ⟨rfl, rfl⟩ (Nat.zero_le _) (Nat.zero_le _) (zc_refuse_14_3 0 1 0 S0 n hn G_S0 (by omega) (by omega) (by omega)) (fun v53 S52 hP => ?_)
          obtain ⟨G_S52, fS52, o54, o55⟩ := hP
          have F_S52 := zz_fr.trans F_S0 fS52 rfl zz_nv
          rcases (by omega : v53 = 0 ∨ v53 = 1) with rfl | rfl
          · exfalso; omega
          · have e56 : S52 1079 0 = 2 := by omega
            clear o55
            refine zz_if_eq (by omega) zd_14_14_47 (fun c57 => ?_) (fun c57 => ?_)
            · exfalso; omega
            · exact zz_vret zd_14_14_50 rfl (Nat.zero_le _) (Nat.zero_le _) ⟨_, rfl, G_S52, F_S52⟩
    · exfalso; omega
abbrev zy_cut_14_15 : mm_Y := (⟨"TensorForgeModel", "cut", "(I)V"⟩, prog_14_method_15_code, 2, none)
theorem zyw_cut_14_15 : mm_Yw zy_cut_14_15 1 := ⟨mm_tb_1 1874 (by decide +kernel) rfl, mm_tb_1 12 (by decide +kernel) rfl, ⟨by decide, by decide⟩, by decide +kernel⟩
theorem zg_14_15_0 : zq_at zy_cut_14_15.2.1 0 42 ∧ zq_at zy_cut_14_15.2.1 1 27 ∧ zq_at zy_cut_14_15.2.1 2 133 ∧ zq_at zy_cut_14_15.2.1 3 9 ∧ zq_at zy_cut_14_15.2.1 4 42 ∧ zq_at zy_cut_14_15.2.1 5 180 ∧ zq_at zy_cut_14_15.2.1 6 0 ∧ zq_at zy_cut_14_15.2.1 7 224 ∧ zq_at zy_cut_14_15.2.1 8 133 ∧ zq_at zy_cut_14_15.2.1 9 184 ∧ zq_at zy_cut_14_15.2.1 10 0 ∧ zq_at zy_cut_14_15.2.1 11 192 ∧ zq_at zy_cut_14_15.2.1 12 154 ∧ zq_at zy_cut_14_15.2.1 13 0 ∧ zq_at zy_cut_14_15.2.1 14 7 ∧ zq_at zy_cut_14_15.2.1 15 4 ∧ zq_at zy_cut_14_15.2.1 16 167 ∧ zq_at zy_cut_14_15.2.1 17 0 ∧ zq_at zy_cut_14_15.2.1 18 4 ∧ zq_at zy_cut_14_15.2.1 20 3 ∧ zq_at zy_cut_14_15.2.1 21 3 ∧ zq_at zy_cut_14_15.2.1 22 182 ∧ zq_at zy_cut_14_15.2.1 23 0 ∧ zq_at zy_cut_14_15.2.1 24 196 := by decide +kernel
theorem zd_14_15_0 : zz_D zy_cut_14_15 0 (.aload_n 0) 1 1 := ⟨zq_42 zg_14_15_0.1, rfl⟩
theorem zd_14_15_1 : zz_D zy_cut_14_15 1 (.iload_n 1) 1 2 := ⟨zq_27 zg_14_15_0.2.1, rfl⟩
theorem zd_14_15_2 : zz_D zy_cut_14_15 2 (.i2l) 1 3 := ⟨zq_133 zg_14_15_0.2.2.1, rfl⟩
theorem zd_14_15_3 : zz_D zy_cut_14_15 3 (.lconst 0) 1 4 := ⟨zq_9 zg_14_15_0.2.2.2.1, rfl⟩
theorem zd_14_15_4 : zz_D zy_cut_14_15 4 (.aload_n 0) 1 5 := ⟨zq_42 zg_14_15_0.2.2.2.2.1, rfl⟩
theorem zd_14_15_5 : zz_D zy_cut_14_15 5 (.getfield 224) 3 8 := ⟨zq_180 zg_14_15_0.2.2.2.2.2.1 zg_14_15_0.2.2.2.2.2.2.1 zg_14_15_0.2.2.2.2.2.2.2.1 rfl, rfl⟩
theorem zd_14_15_8 : zz_D zy_cut_14_15 8 (.i2l) 1 9 := ⟨zq_133 zg_14_15_0.2.2.2.2.2.2.2.2.1, rfl⟩
theorem zd_14_15_9 : zz_D zy_cut_14_15 9 (.invokestatic 192) 3 12 := ⟨zq_184 zg_14_15_0.2.2.2.2.2.2.2.2.2.1 zg_14_15_0.2.2.2.2.2.2.2.2.2.2.1 zg_14_15_0.2.2.2.2.2.2.2.2.2.2.2.1 rfl, rfl⟩
theorem zd_14_15_12 : zz_B zy_cut_14_15 12 (Instr.ifCond .ne) 19 15 := ⟨7, zq_154 zg_14_15_0.2.2.2.2.2.2.2.2.2.2.2.2.1 zg_14_15_0.2.2.2.2.2.2.2.2.2.2.2.2.2.1 zg_14_15_0.2.2.2.2.2.2.2.2.2.2.2.2.2.2.1 (by decide), rfl, rfl⟩
theorem zd_14_15_15 : zz_D zy_cut_14_15 15 (.iconst 1) 1 16 := ⟨zq_4 zg_14_15_0.2.2.2.2.2.2.2.2.2.2.2.2.2.2.2.1, rfl⟩
theorem zd_14_15_16 : zz_B zy_cut_14_15 16 Instr.goto 20 19 := ⟨4, zq_167 zg_14_15_0.2.2.2.2.2.2.2.2.2.2.2.2.2.2.2.2.1 zg_14_15_0.2.2.2.2.2.2.2.2.2.2.2.2.2.2.2.2.2.1 zg_14_15_0.2.2.2.2.2.2.2.2.2.2.2.2.2.2.2.2.2.2.1 (by decide), rfl, rfl⟩
theorem zd_14_15_20 : zz_D zy_cut_14_15 20 (.iconst 0) 1 21 := ⟨zq_3 zg_14_15_0.2.2.2.2.2.2.2.2.2.2.2.2.2.2.2.2.2.2.2.1, rfl⟩
theorem zd_14_15_21 : zz_D zy_cut_14_15 21 (.iconst 0) 1 22 := ⟨zq_3 zg_14_15_0.2.2.2.2.2.2.2.2.2.2.2.2.2.2.2.2.2.2.2.2.1, rfl⟩
theorem zd_14_15_22 : zz_D zy_cut_14_15 22 (.invokevirtual 196) 3 25 := ⟨zq_182 zg_14_15_0.2.2.2.2.2.2.2.2.2.2.2.2.2.2.2.2.2.2.2.2.2.1 zg_14_15_0.2.2.2.2.2.2.2.2.2.2.2.2.2.2.2.2.2.2.2.2.2.2.1 zg_14_15_0.2.2.2.2.2.2.2.2.2.2.2.2.2.2.2.2.2.2.2.2.2.2.2 rfl, rfl⟩
theorem zg_14_15_25 : zq_at zy_cut_14_15.2.1 25 154 ∧ zq_at zy_cut_14_15.2.1 26 0 ∧ zq_at zy_cut_14_15.2.1 27 8 ∧ zq_at zy_cut_14_15.2.1 33 177 ∧ zq_at zy_cut_14_15.2.1 19 3 ∧ zq_at zy_cut_14_15.2.1 28 42 ∧ zq_at zy_cut_14_15.2.1 29 27 ∧ zq_at zy_cut_14_15.2.1 30 181 ∧ zq_at zy_cut_14_15.2.1 31 0 ∧ zq_at zy_cut_14_15.2.1 32 224 := by decide +kernel
theorem zd_14_15_25 : zz_B zy_cut_14_15 25 (Instr.ifCond .ne) 33 28 := ⟨8, zq_154 zg_14_15_25.1 zg_14_15_25.2.1 zg_14_15_25.2.2.1 (by decide), rfl, rfl⟩
theorem zd_14_15_33 : zz_D zy_cut_14_15 33 (.return_) 1 34 := ⟨zq_177 zg_14_15_25.2.2.2.1, rfl⟩
theorem zd_14_15_19 : zz_D zy_cut_14_15 19 (.iconst 0) 1 20 := ⟨zq_3 zg_14_15_25.2.2.2.2.1, rfl⟩
theorem zd_14_15_28 : zz_D zy_cut_14_15 28 (.aload_n 0) 1 29 := ⟨zq_42 zg_14_15_25.2.2.2.2.2.1, rfl⟩
theorem zd_14_15_29 : zz_D zy_cut_14_15 29 (.iload_n 1) 1 30 := ⟨zq_27 zg_14_15_25.2.2.2.2.2.2.1, rfl⟩
theorem zd_14_15_30 : zz_D zy_cut_14_15 30 (.putfield 224) 3 33 := ⟨zq_181 zg_14_15_25.2.2.2.2.2.2.2.1 zg_14_15_25.2.2.2.2.2.2.2.2.1 zg_14_15_25.2.2.2.2.2.2.2.2.2 rfl, rfl⟩
-- TensorForgeModel cut (I)V
abbrev zr_cut_14_15 : Room := { frames := 1, cells := 0, slots := 0, locals := 18 }
def zp_cut_14_15 (p0 : Int) (S0 : zz_S) : zz_S → Prop := fun S => zz_G S ∧ zz_fr [(1079, 0), (1079, 7)] [] (fun _ _ => False) S0 S
theorem zc_cut_14_15 {g : mm_G} {l : Launch} (p0 : Int) (S0 : zz_S) (n : Nat) (hn : zz_end ≤ n) (G_S0 : zz_G S0) (hp0 : (-2147483648) ≤ p0 ∧ p0 ≤ 2147483647) : mm_Met g l zy_cut_14_15 zr_cut_14_15 [.ref 1079, zi p0] (zz_M S0 n) n (zz_QV n (zp_cut_14_15 p0 S0)) := by
  refine zz_enter (by decide) (Nat.le_of_ble_eq_true rfl) (zz_less (ls1 := [some (.ref 1079), some (zi p0)]) ⟨rfl, ⟨rfl, trivial⟩⟩ ?_)
  have F_S0 : zz_fr [(1079, 0), (1079, 7)] [] (fun _ _ => False) S0 S0 := zz_fr.refl
  refine zz_aload_n (x := 1079) rfl zd_14_15_0 ?_
  refine zz_iload_n (x := p0) rfl zd_14_15_1 ?_
  refine zz_i2l (by omega) zd_14_15_2 ?_
  refine zz_lconst (z := 0) (by decide) zd_14_15_3 ?_
  refine zz_aload_n (x := 1079) rfl zd_14_15_4 ?_
  have g1 := zz_G.r G_S0 1079 7 0 600 rfl rfl
  refine zz_geti (z := S0 1079 7) zd_14_15_5 zf_Md_224 zT_1079 rfl (zz_ltn hn rfl) rfl ?_
  refine zz_i2l (by omega) zd_14_15_8 ?_
  refine zz_callSI [zl p0, zl 0, zl (S0 1079 7)] zd_14_15_9 zk_Md_192 rfl rfl ⟨Nat.le_of_ble_eq_true rfl, Nat.le_of_ble_eq_true rfl⟩ ⟨rfl, rfl⟩ (Nat.zero_le _) (Nat.zero_le _) (zc_in_14_4 p0 0 (S0 1079 7) S0 n hn G_S0 (by omega) (by omega) (by omega)) (fun v3 S2 hP => ?_)
  obtain ⟨rfl, o4, o5⟩ := hP
  rcases (by omega : v3 = 0 ∨ v3 = 1) with rfl | rfl
  · have n6 : p0 < 0 ∨ S0 1079 7 < p0 := by omega
    clear o5
    refine zz_if_ne (by omega) zd_14_15_12 (fun c7 => ?_) (fun c7 => ?_)
    · exfalso; omega
    · refine zz_iconst zd_14_15_15 ?_
      refine zz_goto zd_14_15_16 ?_
      refine zz_iconst zd_14_15_20 ?_
      refine zz_iconst zd_14_15_21 ?_
      refine zz_callVI [zi 1, zi 0, zi 0] zd_14_15_22 zk_Md_196 zT_1079 (zz_ltn hn rfl) rfl rfl ⟨Nat.le_of_ble_eq_true rfl, Nat.le_of_ble_eq_true rfl⟩ ⟨rfl, rfl⟩ (Nat.zero_le _) (Nat.zero_le _) (zc_refuse_14_3 1 0 0 S0 n hn G_S0 (by omega) (by omega) (by omega)) (fun v9 S8 hP => ?_)
      obtain ⟨G_S8, fS8, o10, o11⟩ := hP
      have F_S8 := zz_fr.trans F_S0 fS8 rfl zz_nv
      rcases (by omega : v9 = 0 ∨ v9 = 1) with rfl | rfl
      · exfalso; omega
      · have e12 : S8 1079 0 = 1 := by omega
        clear o11
        refine zz_if_ne (by omega) zd_14_15_25 (fun c13 => ?_) (fun c13 => ?_)
        · exact zz_vret zd_14_15_33 rfl (Nat.zero_le _) (Nat.zero_le _) ⟨_, rfl, G_S8, F_S8⟩
        · exfalso; omega
  · have n14 : 0 ≤ p0 ∧ p0 ≤ S0 1079 7 := by omega
    clear o5
    refine zz_if_ne (by omega) zd_14_15_12 (fun c15 => ?_) (fun c15 => ?_)
    · refine zz_iconst zd_14_15_19 ?_
      refine zz_iconst zd_14_15_20 ?_
      refine zz_iconst zd_14_15_21 ?_
      refine zz_callVI [zi 0, zi 0, zi 0] zd_14_15_22 zk_Md_196 zT_1079 (zz_ltn hn rfl) rfl rfl ⟨Nat.le_of_ble_eq_true rfl, Nat.le_of_ble_eq_true rfl⟩ ⟨rfl, rfl⟩ (Nat.zero_le _) (Nat.zero_le _) (zc_refuse_14_3 0 0 0 S0 n hn G_S0 (by omega) (by omega) (by omega)) (fun v17 S16 hP => ?_)
      obtain ⟨G_S16, fS16, o18, o19⟩ := hP
      have F_S16 := zz_fr.trans F_S0 fS16 rfl zz_nv
      rcases (by omega : v17 = 0 ∨ v17 = 1) with rfl | rfl
      · have e20 : S16 1079 0 = 0 := by omega
        clear o19
        refine zz_if_ne (by omega) zd_14_15_25 (fun c21 => ?_) (fun c21 => ?_)
        · exfalso; omega
        · refine zz_aload_n (x := 1079) rfl zd_14_15_28 ?_
          refine zz_iload_n (x := p0) rfl zd_14_15_29 ?_
          refine zz_puti zd_14_15_30 zf_Md_224 zT_1079 rfl (zz_ltn hn rfl) (fun S22 qS22 => ?_)
          have G_S22 := zz_G.put G_S16 qS22 0 600 rfl (by omega)
          have F_S22 := zz_fr.puts F_S16 qS22 rfl
          exact zz_vret zd_14_15_33 rfl (Nat.zero_le _) (Nat.zero_le _) ⟨_, rfl, G_S22, F_S22⟩
      · exfalso; omega
    · exfalso; omega
abbrev zy_wordOf_14_16 : mm_Y := (⟨"TensorForgeModel", "wordOf", "(I)J"⟩, prog_14_method_16_code, 2, (some .long))
theorem zyw_wordOf_14_16 : mm_Yw zy_wordOf_14_16 1 := ⟨mm_tb_1 1878 (by decide +kernel) rfl, mm_tb_1 12 (by decide +kernel) rfl, ⟨by decide, by decide⟩, by decide +kernel⟩
theorem zg_14_16_0 : zq_at zy_wordOf_14_16.2.1 0 42 ∧ zq_at zy_wordOf_14_16.2.1 1 27 ∧ zq_at zy_wordOf_14_16.2.1 2 133 ∧ zq_at zy_wordOf_14_16.2.1 3 9 ∧ zq_at zy_wordOf_14_16.2.1 4 42 ∧ zq_at zy_wordOf_14_16.2.1 5 180 ∧ zq_at zy_wordOf_14_16.2.1 6 0 ∧ zq_at zy_wordOf_14_16.2.1 7 224 ∧ zq_at zy_wordOf_14_16.2.1 8 4 ∧ zq_at zy_wordOf_14_16.2.1 9 100 ∧ zq_at zy_wordOf_14_16.2.1 10 133 ∧ zq_at zy_wordOf_14_16.2.1 11 184 ∧ zq_at zy_wordOf_14_16.2.1 12 0 ∧ zq_at zy_wordOf_14_16.2.1 13 192 ∧ zq_at zy_wordOf_14_16.2.1 14 154 ∧ zq_at zy_wordOf_14_16.2.1 15 0 ∧ zq_at zy_wordOf_14_16.2.1 16 7 ∧ zq_at zy_wordOf_14_16.2.1 17 4 ∧ zq_at zy_wordOf_14_16.2.1 18 167 ∧ zq_at zy_wordOf_14_16.2.1 19 0 ∧ zq_at zy_wordOf_14_16.2.1 20 4 ∧ zq_at zy_wordOf_14_16.2.1 22 3 ∧ zq_at zy_wordOf_14_16.2.1 23 3 := by decide +kernel
theorem zd_14_16_0 : zz_D zy_wordOf_14_16 0 (.aload_n 0) 1 1 := ⟨zq_42 zg_14_16_0.1, rfl⟩
theorem zd_14_16_1 : zz_D zy_wordOf_14_16 1 (.iload_n 1) 1 2 := ⟨zq_27 zg_14_16_0.2.1, rfl⟩
theorem zd_14_16_2 : zz_D zy_wordOf_14_16 2 (.i2l) 1 3 := ⟨zq_133 zg_14_16_0.2.2.1, rfl⟩
theorem zd_14_16_3 : zz_D zy_wordOf_14_16 3 (.lconst 0) 1 4 := ⟨zq_9 zg_14_16_0.2.2.2.1, rfl⟩
theorem zd_14_16_4 : zz_D zy_wordOf_14_16 4 (.aload_n 0) 1 5 := ⟨zq_42 zg_14_16_0.2.2.2.2.1, rfl⟩
theorem zd_14_16_5 : zz_D zy_wordOf_14_16 5 (.getfield 224) 3 8 := ⟨zq_180 zg_14_16_0.2.2.2.2.2.1 zg_14_16_0.2.2.2.2.2.2.1 zg_14_16_0.2.2.2.2.2.2.2.1 rfl, rfl⟩
theorem zd_14_16_8 : zz_D zy_wordOf_14_16 8 (.iconst 1) 1 9 := ⟨zq_4 zg_14_16_0.2.2.2.2.2.2.2.2.1, rfl⟩
theorem zd_14_16_9 : zz_D zy_wordOf_14_16 9 (.isub) 1 10 := ⟨zq_100 zg_14_16_0.2.2.2.2.2.2.2.2.2.1, rfl⟩
theorem zd_14_16_10 : zz_D zy_wordOf_14_16 10 (.i2l) 1 11 := ⟨zq_133 zg_14_16_0.2.2.2.2.2.2.2.2.2.2.1, rfl⟩
theorem zd_14_16_11 : zz_D zy_wordOf_14_16 11 (.invokestatic 192) 3 14 := ⟨zq_184 zg_14_16_0.2.2.2.2.2.2.2.2.2.2.2.1 zg_14_16_0.2.2.2.2.2.2.2.2.2.2.2.2.1 zg_14_16_0.2.2.2.2.2.2.2.2.2.2.2.2.2.1 rfl, rfl⟩
theorem zd_14_16_14 : zz_B zy_wordOf_14_16 14 (Instr.ifCond .ne) 21 17 := ⟨7, zq_154 zg_14_16_0.2.2.2.2.2.2.2.2.2.2.2.2.2.2.1 zg_14_16_0.2.2.2.2.2.2.2.2.2.2.2.2.2.2.2.1 zg_14_16_0.2.2.2.2.2.2.2.2.2.2.2.2.2.2.2.2.1 (by decide), rfl, rfl⟩
theorem zd_14_16_17 : zz_D zy_wordOf_14_16 17 (.iconst 1) 1 18 := ⟨zq_4 zg_14_16_0.2.2.2.2.2.2.2.2.2.2.2.2.2.2.2.2.2.1, rfl⟩
theorem zd_14_16_18 : zz_B zy_wordOf_14_16 18 Instr.goto 22 21 := ⟨4, zq_167 zg_14_16_0.2.2.2.2.2.2.2.2.2.2.2.2.2.2.2.2.2.2.1 zg_14_16_0.2.2.2.2.2.2.2.2.2.2.2.2.2.2.2.2.2.2.2.1 zg_14_16_0.2.2.2.2.2.2.2.2.2.2.2.2.2.2.2.2.2.2.2.2.1 (by decide), rfl, rfl⟩
theorem zd_14_16_22 : zz_D zy_wordOf_14_16 22 (.iconst 0) 1 23 := ⟨zq_3 zg_14_16_0.2.2.2.2.2.2.2.2.2.2.2.2.2.2.2.2.2.2.2.2.2.1, rfl⟩
theorem zd_14_16_23 : zz_D zy_wordOf_14_16 23 (.iconst 0) 1 24 := ⟨zq_3 zg_14_16_0.2.2.2.2.2.2.2.2.2.2.2.2.2.2.2.2.2.2.2.2.2.2, rfl⟩
theorem zg_14_16_24 : zq_at zy_wordOf_14_16.2.1 24 182 ∧ zq_at zy_wordOf_14_16.2.1 25 0 ∧ zq_at zy_wordOf_14_16.2.1 26 196 ∧ zq_at zy_wordOf_14_16.2.1 27 153 ∧ zq_at zy_wordOf_14_16.2.1 28 0 ∧ zq_at zy_wordOf_14_16.2.1 29 7 ∧ zq_at zy_wordOf_14_16.2.1 30 9 ∧ zq_at zy_wordOf_14_16.2.1 31 167 ∧ zq_at zy_wordOf_14_16.2.1 32 0 ∧ zq_at zy_wordOf_14_16.2.1 33 9 ∧ zq_at zy_wordOf_14_16.2.1 40 173 ∧ zq_at zy_wordOf_14_16.2.1 21 3 ∧ zq_at zy_wordOf_14_16.2.1 34 42 ∧ zq_at zy_wordOf_14_16.2.1 35 180 ∧ zq_at zy_wordOf_14_16.2.1 36 0 ∧ zq_at zy_wordOf_14_16.2.1 37 29 ∧ zq_at zy_wordOf_14_16.2.1 38 27 ∧ zq_at zy_wordOf_14_16.2.1 39 47 := by decide +kernel
theorem zd_14_16_24 : zz_D zy_wordOf_14_16 24 (.invokevirtual 196) 3 27 := ⟨zq_182 zg_14_16_24.1 zg_14_16_24.2.1 zg_14_16_24.2.2.1 rfl, rfl⟩
theorem zd_14_16_27 : zz_B zy_wordOf_14_16 27 (Instr.ifCond .eq) 34 30 := ⟨7, zq_153 zg_14_16_24.2.2.2.1 zg_14_16_24.2.2.2.2.1 zg_14_16_24.2.2.2.2.2.1 (by decide), rfl, rfl⟩
theorem zd_14_16_30 : zz_D zy_wordOf_14_16 30 (.lconst 0) 1 31 := ⟨zq_9 zg_14_16_24.2.2.2.2.2.2.1, rfl⟩
theorem zd_14_16_31 : zz_B zy_wordOf_14_16 31 Instr.goto 40 34 := ⟨9, zq_167 zg_14_16_24.2.2.2.2.2.2.2.1 zg_14_16_24.2.2.2.2.2.2.2.2.1 zg_14_16_24.2.2.2.2.2.2.2.2.2.1 (by decide), rfl, rfl⟩
theorem zd_14_16_40 : zz_D zy_wordOf_14_16 40 (.lreturn) 1 41 := ⟨zq_173 zg_14_16_24.2.2.2.2.2.2.2.2.2.2.1, rfl⟩
theorem zd_14_16_21 : zz_D zy_wordOf_14_16 21 (.iconst 0) 1 22 := ⟨zq_3 zg_14_16_24.2.2.2.2.2.2.2.2.2.2.2.1, rfl⟩
theorem zd_14_16_34 : zz_D zy_wordOf_14_16 34 (.aload_n 0) 1 35 := ⟨zq_42 zg_14_16_24.2.2.2.2.2.2.2.2.2.2.2.2.1, rfl⟩
theorem zd_14_16_35 : zz_D zy_wordOf_14_16 35 (.getfield 29) 3 38 := ⟨zq_180 zg_14_16_24.2.2.2.2.2.2.2.2.2.2.2.2.2.1 zg_14_16_24.2.2.2.2.2.2.2.2.2.2.2.2.2.2.1 zg_14_16_24.2.2.2.2.2.2.2.2.2.2.2.2.2.2.2.1 rfl, rfl⟩
theorem zd_14_16_38 : zz_D zy_wordOf_14_16 38 (.iload_n 1) 1 39 := ⟨zq_27 zg_14_16_24.2.2.2.2.2.2.2.2.2.2.2.2.2.2.2.2.1, rfl⟩
theorem zd_14_16_39 : zz_D zy_wordOf_14_16 39 (.laload) 1 40 := ⟨zq_47 zg_14_16_24.2.2.2.2.2.2.2.2.2.2.2.2.2.2.2.2.2, rfl⟩
-- TensorForgeModel wordOf (I)J
abbrev zr_wordOf_14_16 : Room := { frames := 1, cells := 0, slots := 0, locals := 18 }
def zp_wordOf_14_16 (p0 : Int) (S0 : zz_S) : Int → zz_S → Prop := fun r S => zz_G S ∧ zz_fr [(1079, 0)] [] (fun _ _ => False) S0 S ∧ ((-9223372036854775808) ≤ r ∧ r ≤ 9223372036854775807)
theorem zc_wordOf_14_16 {g : mm_G} {l : Launch} (p0 : Int) (S0 : zz_S) (n : Nat) (hn : zz_end ≤ n) (G_S0 : zz_G S0) (hp0 : (-2147483648) ≤ p0 ∧ p0 ≤ 2147483647) : mm_Met g l zy_wordOf_14_16 zr_wordOf_14_16 [.ref 1079, zi p0] (zz_M S0 n) n (zz_QJ n (zp_wordOf_14_16 p0 S0)) := by
  refine zz_enter (by decide) (Nat.le_of_ble_eq_true rfl) (zz_less (ls1 := [some (.ref 1079), some (zi p0)]) ⟨rfl, ⟨rfl, trivial⟩⟩ ?_)
  have F_S0 : zz_fr [(1079, 0)] [] (fun _ _ => False) S0 S0 := zz_fr.refl
  refine zz_aload_n (x := 1079) rfl zd_14_16_0 ?_
  refine zz_iload_n (x := p0) rfl zd_14_16_1 ?_
  refine zz_i2l (by omega) zd_14_16_2 ?_
  refine zz_lconst (z := 0) (by decide) zd_14_16_3 ?_
  refine zz_aload_n (x := 1079) rfl zd_14_16_4 ?_
  have g1 := zz_G.r G_S0 1079 7 0 600 rfl rfl
  refine zz_geti (z := S0 1079 7) zd_14_16_5 zf_Md_224 zT_1079 rfl (zz_ltn hn rfl) rfl ?_
  refine zz_iconst zd_14_16_8 ?_
  refine zz_isub zd_14_16_9 ?_
  refine zz_i2l (by omega) zd_14_16_10 ?_
  refine zz_callSI [zl p0, zl 0, zl ((S0 1079 7) - 1)] zd_14_16_11 zk_Md_192 rfl rfl ⟨Nat.le_of_ble_eq_true rfl, Nat.le_of_ble_eq_true rfl⟩ ⟨rfl, rfl⟩ (Nat.zero_le _) (Nat.zero_le _) (zc_in_14_4 p0 0 ((S0 1079 7) - 1) S0 n hn G_S0 (by omega) (by omega) (by omega)) (fun v3 S2 hP => ?_)
  obtain ⟨rfl, o4, o5⟩ := hP
  rcases (by omega : v3 = 0 ∨ v3 = 1) with rfl | rfl
  · have n6 : p0 < 0 ∨ (S0 1079 7) - 1 < p0 := by omega
    clear o5
    refine zz_if_ne (by omega) zd_14_16_14 (fun c7 => ?_) (fun c7 => ?_)
    · exfalso; omega
    · refine zz_iconst zd_14_16_17 ?_
      refine zz_goto zd_14_16_18 ?_
      refine zz_iconst zd_14_16_22 ?_
      refine zz_iconst zd_14_16_23 ?_
      refine zz_callVI [zi 1, zi 0, zi 0] zd_14_16_24 zk_Md_196 zT_1079 (zz_ltn hn rfl) rfl rfl ⟨Nat.le_of_ble_eq_true rfl, Nat.le_of_ble_eq_true rfl⟩ ⟨rfl, rfl⟩ (Nat.zero_le _) (Nat.zero_le _) (zc_refuse_14_3 1 0 0 S0 n hn G_S0 (by omega) (by omega) (by omega)) (fun v9 S8 hP => ?_)
      obtain ⟨G_S8, fS8, o10, o11⟩ := hP
      have F_S8 := zz_fr.trans F_S0 fS8 rfl zz_nv
      rcases (by omega : v9 = 0 ∨ v9 = 1) with rfl | rfl
      · exfalso; omega
      · have e12 : S8 1079 0 = 1 := by omega
        clear o11
        refine zz_if_eq (by omega) zd_14_16_27 (fun c13 => ?_) (fun c13 => ?_)
        · exfalso; omega
        · refine zz_lconst (z := 0) (by decide) zd_14_16_30 ?_
          refine zz_goto zd_14_16_31 ?_
          exact zz_lret zd_14_16_40 rfl (Nat.zero_le _) (Nat.zero_le _) ⟨_, _, rfl, G_S8, F_S8, by omega⟩
  · have n14 : 0 ≤ p0 ∧ p0 ≤ (S0 1079 7) - 1 := by omega
    clear o5
    refine zz_if_ne (by omega) zd_14_16_14 (fun c15 => ?_) (fun c15 => ?_)
    · refine zz_iconst zd_14_16_21 ?_
      refine zz_iconst zd_14_16_22 ?_
      refine zz_iconst zd_14_16_23 ?_
      refine zz_callVI [zi 0, zi 0, zi 0] zd_14_16_24 zk_Md_196 zT_1079 (zz_ltn hn rfl) rfl rfl ⟨Nat.le_of_ble_eq_true rfl, Nat.le_of_ble_eq_true rfl⟩ ⟨rfl, rfl⟩ (Nat.zero_le _) (Nat.zero_le _) (zc_refuse_14_3 0 0 0 S0 n hn G_S0 (by omega) (by omega) (by omega)) (fun v17 S16 hP => ?_)
      obtain ⟨G_S16, fS16, o18, o19⟩ := hP
      have F_S16 := zz_fr.trans F_S0 fS16 rfl zz_nv
      rcases (by omega : v17 = 0 ∨ v17 = 1) with rfl | rfl
      · have e20 : S16 1079 0 = 0 := by omega
        clear o19
        refine zz_if_eq (by omega) zd_14_16_27 (fun c21 => ?_) (fun c21 => ?_)
        · refine zz_aload_n (x := 1079) rfl zd_14_16_34 ?_
          refine zz_getr (kd := 0) (z := 1085) zd_14_16_35 zf_Md_29 zT_1079 rfl (zz_ltn hn rfl) (zz_G.eq G_S16 1079 8 1085 rfl rfl) (by decide) 1085 rfl ?_
          refine zz_iload_n (x := p0) rfl zd_14_16_38 ?_
          have g22 := zz_G.r G_S0 1085 p0.toNat (-9223372036854775808) 9223372036854775807 rfl rfl
          refine zz_lald (z := S0 1085 p0.toNat) zd_14_16_39 zT_1085 rfl (zz_ltn hn rfl) (by decide) (by omega) (zz_rc fS16 (zz_nc1 rfl) rfl (fun h => h) rfl) ?_
          exact zz_lret zd_14_16_40 rfl (Nat.zero_le _) (Nat.zero_le _) ⟨_, _, rfl, G_S16, F_S16, by omega⟩
        · exfalso; omega
      · exfalso; omega
    · exfalso; omega
abbrev zy_length_14_17 : mm_Y := (⟨"TensorForgeModel", "length", "()I"⟩, prog_14_method_17_code, 1, (some .int))
theorem zyw_length_14_17 : mm_Yw zy_length_14_17 0 := ⟨mm_tb_1 1882 (by decide +kernel) rfl, mm_tb_1 12 (by decide +kernel) rfl, ⟨by decide, by decide⟩, by decide +kernel⟩
theorem zg_14_17_0 : zq_at zy_length_14_17.2.1 0 42 ∧ zq_at zy_length_14_17.2.1 1 3 ∧ zq_at zy_length_14_17.2.1 2 181 ∧ zq_at zy_length_14_17.2.1 3 0 ∧ zq_at zy_length_14_17.2.1 4 187 ∧ zq_at zy_length_14_17.2.1 5 42 ∧ zq_at zy_length_14_17.2.1 6 180 ∧ zq_at zy_length_14_17.2.1 7 0 ∧ zq_at zy_length_14_17.2.1 8 224 ∧ zq_at zy_length_14_17.2.1 9 172 := by decide +kernel
theorem zd_14_17_0 : zz_D zy_length_14_17 0 (.aload_n 0) 1 1 := ⟨zq_42 zg_14_17_0.1, rfl⟩
theorem zd_14_17_1 : zz_D zy_length_14_17 1 (.iconst 0) 1 2 := ⟨zq_3 zg_14_17_0.2.1, rfl⟩
theorem zd_14_17_2 : zz_D zy_length_14_17 2 (.putfield 187) 3 5 := ⟨zq_181 zg_14_17_0.2.2.1 zg_14_17_0.2.2.2.1 zg_14_17_0.2.2.2.2.1 rfl, rfl⟩
theorem zd_14_17_5 : zz_D zy_length_14_17 5 (.aload_n 0) 1 6 := ⟨zq_42 zg_14_17_0.2.2.2.2.2.1, rfl⟩
theorem zd_14_17_6 : zz_D zy_length_14_17 6 (.getfield 224) 3 9 := ⟨zq_180 zg_14_17_0.2.2.2.2.2.2.1 zg_14_17_0.2.2.2.2.2.2.2.1 zg_14_17_0.2.2.2.2.2.2.2.2.1 rfl, rfl⟩
theorem zd_14_17_9 : zz_D zy_length_14_17 9 (.ireturn) 1 10 := ⟨zq_172 zg_14_17_0.2.2.2.2.2.2.2.2.2, rfl⟩
-- TensorForgeModel length ()I
abbrev zr_length_14_17 : Room := { frames := 0, cells := 0, slots := 0, locals := 0 }
def zp_length_14_17  (S0 : zz_S) : Int → zz_S → Prop := fun r S => zz_G S ∧ zz_fr [(1079, 0)] [] (fun _ _ => False) S0 S ∧ ((-2147483648) ≤ r ∧ r ≤ 2147483647)
theorem zc_length_14_17 {g : mm_G} {l : Launch}  (S0 : zz_S) (n : Nat) (hn : zz_end ≤ n) (G_S0 : zz_G S0)  : mm_Met g l zy_length_14_17 zr_length_14_17 [.ref 1079] (zz_M S0 n) n (zz_QI n (zp_length_14_17  S0)) := by
  refine zz_enter (by decide) (Nat.le_of_ble_eq_true rfl) (zz_less (ls1 := [some (.ref 1079)]) ⟨rfl, trivial⟩ ?_)
  have F_S0 : zz_fr [(1079, 0)] [] (fun _ _ => False) S0 S0 := zz_fr.refl
  refine zz_aload_n (x := 1079) rfl zd_14_17_0 ?_
  refine zz_iconst zd_14_17_1 ?_
  refine zz_puti zd_14_17_2 zf_Md_187 zT_1079 rfl (zz_ltn hn rfl) (fun S1 qS1 => ?_)
  have G_S1 := zz_G.put G_S0 qS1 0 3 rfl (by omega)
  have F_S1 := zz_fr.puts F_S0 qS1 rfl
  refine zz_aload_n (x := 1079) rfl zd_14_17_5 ?_
  have g2 := zz_G.r G_S0 1079 7 0 600 rfl rfl
  refine zz_geti (z := S0 1079 7) zd_14_17_6 zf_Md_224 zT_1079 rfl (zz_ltn hn rfl) (zz_ro qS1 (fun h => absurd h.2 (by decide)) rfl) ?_
  exact zz_iret zd_14_17_9 rfl (Nat.zero_le _) (Nat.zero_le _) ⟨_, _, rfl, G_S1, F_S1, by omega⟩
abbrev zy_take_14_18 : mm_Y := (⟨"TensorForgeModel", "take", "(J)V"⟩, prog_14_method_18_code, 4, none)
theorem zyw_take_14_18 : mm_Yw zy_take_14_18 1 := ⟨mm_tb_1 1894 (by decide +kernel) rfl, mm_tb_1 12 (by decide +kernel) rfl, ⟨by decide, by decide⟩, by decide +kernel⟩
theorem zf_Md_36 : mm_Fl "TensorForgeModel" 36 11 11 (.array .int) true := ⟨R_Md, F_Md, 69, t_Md, rfl, i_Md, by decide, mm_tb_1 1622 (by decide +kernel) rfl, rfl, t_Md_ok, n_Md, rfl, by decide +kernel⟩
theorem zg_14_18_0 : zq_at zy_take_14_18.2.1 0 3 ∧ zq_at zy_take_14_18.2.1 1 62 ∧ zq_at zy_take_14_18.2.1 2 29 ∧ zq_at zy_take_14_18.2.1 3 16 ∧ zq_at zy_take_14_18.2.1 4 12 ∧ zq_at zy_take_14_18.2.1 5 162 ∧ zq_at zy_take_14_18.2.1 6 0 ∧ zq_at zy_take_14_18.2.1 7 20 ∧ zq_at zy_take_14_18.2.1 8 42 ∧ zq_at zy_take_14_18.2.1 9 180 ∧ zq_at zy_take_14_18.2.1 10 0 ∧ zq_at zy_take_14_18.2.1 11 36 ∧ zq_at zy_take_14_18.2.1 12 29 ∧ zq_at zy_take_14_18.2.1 13 31 ∧ zq_at zy_take_14_18.2.1 14 29 ∧ zq_at zy_take_14_18.2.1 15 184 ∧ zq_at zy_take_14_18.2.1 16 0 ∧ zq_at zy_take_14_18.2.1 17 220 ∧ zq_at zy_take_14_18.2.1 18 79 ∧ zq_at zy_take_14_18.2.1 19 132 ∧ zq_at zy_take_14_18.2.1 20 3 ∧ zq_at zy_take_14_18.2.1 21 1 := by decide +kernel
theorem zd_14_18_0 : zz_D zy_take_14_18 0 (.iconst 0) 1 1 := ⟨zq_3 zg_14_18_0.1, rfl⟩
theorem zd_14_18_1 : zz_D zy_take_14_18 1 (.istore_n 3) 1 2 := ⟨zq_62 zg_14_18_0.2.1, rfl⟩
theorem zd_14_18_2 : zz_D zy_take_14_18 2 (.iload_n 3) 1 3 := ⟨zq_29 zg_14_18_0.2.2.1, rfl⟩
theorem zd_14_18_3 : zz_D zy_take_14_18 3 (.bipush 12) 2 5 := ⟨zq_16 zg_14_18_0.2.2.2.1 zg_14_18_0.2.2.2.2.1 (by decide), rfl⟩
theorem zd_14_18_5 : zz_B zy_take_14_18 5 (Instr.if_icmp .ge) 25 8 := ⟨20, zq_162 zg_14_18_0.2.2.2.2.2.1 zg_14_18_0.2.2.2.2.2.2.1 zg_14_18_0.2.2.2.2.2.2.2.1 (by decide), rfl, rfl⟩
theorem zd_14_18_8 : zz_D zy_take_14_18 8 (.aload_n 0) 1 9 := ⟨zq_42 zg_14_18_0.2.2.2.2.2.2.2.2.1, rfl⟩
theorem zd_14_18_9 : zz_D zy_take_14_18 9 (.getfield 36) 3 12 := ⟨zq_180 zg_14_18_0.2.2.2.2.2.2.2.2.2.1 zg_14_18_0.2.2.2.2.2.2.2.2.2.2.1 zg_14_18_0.2.2.2.2.2.2.2.2.2.2.2.1 rfl, rfl⟩
theorem zd_14_18_12 : zz_D zy_take_14_18 12 (.iload_n 3) 1 13 := ⟨zq_29 zg_14_18_0.2.2.2.2.2.2.2.2.2.2.2.2.1, rfl⟩
theorem zd_14_18_13 : zz_D zy_take_14_18 13 (.lload_n 1) 1 14 := ⟨zq_31 zg_14_18_0.2.2.2.2.2.2.2.2.2.2.2.2.2.1, rfl⟩
theorem zd_14_18_14 : zz_D zy_take_14_18 14 (.iload_n 3) 1 15 := ⟨zq_29 zg_14_18_0.2.2.2.2.2.2.2.2.2.2.2.2.2.2.1, rfl⟩
theorem zd_14_18_15 : zz_D zy_take_14_18 15 (.invokestatic 220) 3 18 := ⟨zq_184 zg_14_18_0.2.2.2.2.2.2.2.2.2.2.2.2.2.2.2.1 zg_14_18_0.2.2.2.2.2.2.2.2.2.2.2.2.2.2.2.2.1 zg_14_18_0.2.2.2.2.2.2.2.2.2.2.2.2.2.2.2.2.2.1 rfl, rfl⟩
theorem zd_14_18_18 : zz_D zy_take_14_18 18 (.iastore) 1 19 := ⟨zq_79 zg_14_18_0.2.2.2.2.2.2.2.2.2.2.2.2.2.2.2.2.2.2.1, rfl⟩
theorem zd_14_18_19 : zz_D zy_take_14_18 19 (.iinc 3 1) 3 22 := ⟨zq_132 zg_14_18_0.2.2.2.2.2.2.2.2.2.2.2.2.2.2.2.2.2.2.2.1 zg_14_18_0.2.2.2.2.2.2.2.2.2.2.2.2.2.2.2.2.2.2.2.2.1 zg_14_18_0.2.2.2.2.2.2.2.2.2.2.2.2.2.2.2.2.2.2.2.2.2 (by decide), rfl⟩
theorem zg_14_18_22 : zq_at zy_take_14_18.2.1 22 167 ∧ zq_at zy_take_14_18.2.1 23 255 ∧ zq_at zy_take_14_18.2.1 24 236 ∧ zq_at zy_take_14_18.2.1 25 177 := by decide +kernel
theorem zd_14_18_22 : zz_B zy_take_14_18 22 Instr.goto 2 25 := ⟨(-20), zq_167 zg_14_18_22.1 zg_14_18_22.2.1 zg_14_18_22.2.2.1 (by decide), rfl, rfl⟩
theorem zd_14_18_25 : zz_D zy_take_14_18 25 (.return_) 1 26 := ⟨zq_177 zg_14_18_22.2.2.2, rfl⟩
-- TensorForgeModel take (J)V
abbrev zr_take_14_18 : Room := { frames := 2, cells := 0, slots := 0, locals := 34 }
def zp_take_14_18 (p0 : Int) (S0 : zz_S) : zz_S → Prop := fun S => zz_G S ∧ zz_fr [(1087, 0), (1087, 1), (1087, 2), (1087, 3), (1087, 4), (1087, 5), (1087, 6), (1087, 7), (1087, 8), (1087, 9), (1087, 10), (1087, 11)] [] (fun _ _ => False) S0 S ∧ ((S 1087 0 = zz_fx p0 0 15) ∧ 0 ≤ S 1087 0 ∧ S 1087 0 ≤ 15) ∧ ((S 1087 1 = zz_fx p0 4 1) ∧ 0 ≤ S 1087 1 ∧ S 1087 1 ≤ 1) ∧ ((S 1087 2 = zz_fx p0 5 1) ∧ 0 ≤ S 1087 2 ∧ S 1087 2 ≤ 1) ∧ ((S 1087 3 = zz_fx p0 6 1) ∧ 0 ≤ S 1087 3 ∧ S 1087 3 ≤ 1) ∧ ((S 1087 4 = zz_fx p0 7 1) ∧ 0 ≤ S 1087 4 ∧ S 1087 4 ≤ 1) ∧ ((S 1087 5 = zz_fx p0 8 4095) ∧ 0 ≤ S 1087 5 ∧ S 1087 5 ≤ 4095) ∧ ((S 1087 6 = zz_fx p0 20 63) ∧ 0 ≤ S 1087 6 ∧ S 1087 6 ≤ 63) ∧ ((S 1087 7 = zz_fx p0 26 31) ∧ 0 ≤ S 1087 7 ∧ S 1087 7 ≤ 31) ∧ ((S 1087 8 = zz_fx p0 31 511) ∧ 0 ≤ S 1087 8 ∧ S 1087 8 ≤ 511) ∧ ((S 1087 9 = zz_fx p0 40 511) ∧ 0 ≤ S 1087 9 ∧ S 1087 9 ≤ 511) ∧ ((S 1087 10 = zz_fx p0 49 1023) ∧ 0 ≤ S 1087 10 ∧ S 1087 10 ≤ 1023) ∧ ((S 1087 11 = zz_fx p0 59 31) ∧ 0 ≤ S 1087 11 ∧ S 1087 11 ≤ 31)
theorem zc_take_14_18 {g : mm_G} {l : Launch} (p0 : Int) (S0 : zz_S) (n : Nat) (hn : zz_end ≤ n) (G_S0 : zz_G S0) (hp0 : (-9223372036854775808) ≤ p0 ∧ p0 ≤ 9223372036854775807) : mm_Met g l zy_take_14_18 zr_take_14_18 [.ref 1079, zl p0] (zz_M S0 n) n (zz_QV n (zp_take_14_18 p0 S0)) := by
  refine zz_enter (by decide) (Nat.le_of_ble_eq_true rfl) (zz_less (ls1 := [some (.ref 1079), some (zl p0), none]) ⟨rfl, ⟨rfl, trivial⟩⟩ ?_)
  have F_S0 : zz_fr [(1087, 0), (1087, 1), (1087, 2), (1087, 3), (1087, 4), (1087, 5), (1087, 6), (1087, 7), (1087, 8), (1087, 9), (1087, 10), (1087, 11)] [] (fun _ _ => False) S0 S0 := zz_fr.refl
  refine zz_iconst zd_14_18_0 ?_
  refine zz_istore_n [some (.ref 1079), some (zl p0), none, some (zi 0)] zd_14_18_1 (by decide) rfl ?_
  refine zz_iload_n (x := 0) rfl zd_14_18_2 ?_
  refine zz_bipush (by decide) zd_14_18_3 ?_
  refine zz_icmp_ge (by omega) (by omega) zd_14_18_5 (fun c1 => ?_) (fun c1 => ?_)
  · exfalso; omega
  · refine zz_aload_n (x := 1079) rfl zd_14_18_8 ?_
    refine zz_getr (kd := 0) (z := 1087) zd_14_18_9 zf_Md_36 zT_1079 rfl (zz_ltn hn rfl) (zz_G.eq G_S0 1079 11 1087 rfl rfl) (by decide) 1087 rfl ?_
    refine zz_iload_n (x := 0) rfl zd_14_18_12 ?_
    refine zz_lload_n (x := p0) rfl zd_14_18_13 ?_
    refine zz_iload_n (x := 0) rfl zd_14_18_14 ?_
    refine zz_callSI [zl p0, zi 0] zd_14_18_15 zk_Md_220 rfl rfl ⟨Nat.le_of_ble_eq_true rfl, Nat.le_of_ble_eq_true rfl⟩ ⟨rfl, rfl⟩ (Nat.zero_le _) (Nat.zero_le _) (zc_fieldOf_14_12x_0 p0 S0 n hn G_S0 (by omega)) (fun v3 S2 hP => ?_)
    obtain ⟨rfl, o4, o5⟩ := hP
    refine zz_iast zd_14_18_18 zT_1087 rfl (zz_ltn hn rfl) (by decide) (by decide) (fun S6 qS6 => ?_)
    have G_S6 := zz_G.put G_S0 qS6 (-2147483648) 2147483647 rfl (by omega)
    have F_S6 := zz_fr.puts F_S0 qS6 rfl
    refine zz_iinc [some (.ref 1079), some (zl p0), none, some (zi 1)] zd_14_18_19 rfl rfl ?_
    refine zz_goto zd_14_18_22 ?_
    refine zz_iload_n (x := 1) rfl zd_14_18_2 ?_
    refine zz_bipush (by decide) zd_14_18_3 ?_
    refine zz_icmp_ge (by omega) (by omega) zd_14_18_5 (fun c7 => ?_) (fun c7 => ?_)
    · exfalso; omega
    · refine zz_aload_n (x := 1079) rfl zd_14_18_8 ?_
      refine zz_getr (kd := 0) (z := 1087) zd_14_18_9 zf_Md_36 zT_1079 rfl (zz_ltn hn rfl) (zz_G.eq G_S6 1079 11 1087 rfl rfl) (by decide) 1087 rfl ?_
      refine zz_iload_n (x := 1) rfl zd_14_18_12 ?_
      refine zz_lload_n (x := p0) rfl zd_14_18_13 ?_
      refine zz_iload_n (x := 1) rfl zd_14_18_14 ?_
      refine zz_callSI [zl p0, zi 1] zd_14_18_15 zk_Md_220 rfl rfl ⟨Nat.le_of_ble_eq_true rfl, Nat.le_of_ble_eq_true rfl⟩ ⟨rfl, rfl⟩ (Nat.zero_le _) (Nat.zero_le _) (zc_fieldOf_14_12x_1 p0 S6 n hn G_S6 (by omega)) (fun v9 S8 hP => ?_)
      obtain ⟨rfl, o10, o11⟩ := hP
      refine zz_iast zd_14_18_18 zT_1087 rfl (zz_ltn hn rfl) (by decide) (by decide) (fun S12 qS12 => ?_)
      have G_S12 := zz_G.put G_S6 qS12 (-2147483648) 2147483647 rfl (by omega)
      have F_S12 := zz_fr.puts F_S6 qS12 rfl
      refine zz_iinc [some (.ref 1079), some (zl p0), none, some (zi 2)] zd_14_18_19 rfl rfl ?_
      refine zz_goto zd_14_18_22 ?_
      refine zz_iload_n (x := 2) rfl zd_14_18_2 ?_
      refine zz_bipush (by decide) zd_14_18_3 ?_
      refine zz_icmp_ge (by omega) (by omega) zd_14_18_5 (fun c13 => ?_) (fun c13 => ?_)
      · exfalso; omega
      · refine zz_aload_n (x := 1079) rfl zd_14_18_8 ?_
        refine zz_getr (kd := 0) (z := 1087) zd_14_18_9 zf_Md_36 zT_1079 rfl (zz_ltn hn rfl) (zz_G.eq G_S12 1079 11 1087 rfl rfl) (by decide) 1087 rfl ?_
        refine zz_iload_n (x := 2) rfl zd_14_18_12 ?_
        refine zz_lload_n (x := p0) rfl zd_14_18_13 ?_
        refine zz_iload_n (x := 2) rfl zd_14_18_14 ?_
        refine zz_callSI [zl p0, zi 2] zd_14_18_15 zk_Md_220 rfl rfl ⟨Nat.le_of_ble_eq_true rfl, Nat.le_of_ble_eq_true rfl⟩ ⟨rfl, rfl⟩ (Nat.zero_le _) (Nat.zero_le _) (zc_fieldOf_14_12x_2 p0 S12 n hn G_S12 (by omega)) (fun v15 S14 hP => ?_)
        obtain ⟨rfl, o16, o17⟩ := hP
        refine zz_iast zd_14_18_18 zT_1087 rfl (zz_ltn hn rfl) (by decide) (by decide) (fun S18 qS18 => ?_)
        have G_S18 := zz_G.put G_S12 qS18 (-2147483648) 2147483647 rfl (by omega)
        have F_S18 := zz_fr.puts F_S12 qS18 rfl
        refine zz_iinc [some (.ref 1079), some (zl p0), none, some (zi 3)] zd_14_18_19 rfl rfl ?_
        refine zz_goto zd_14_18_22 ?_
        refine zz_iload_n (x := 3) rfl zd_14_18_2 ?_
        refine zz_bipush (by decide) zd_14_18_3 ?_
        refine zz_icmp_ge (by omega) (by omega) zd_14_18_5 (fun c19 => ?_) (fun c19 => ?_)
        · exfalso; omega
        · refine zz_aload_n (x := 1079) rfl zd_14_18_8 ?_
          refine zz_getr (kd := 0) (z := 1087) zd_14_18_9 zf_Md_36 zT_1079 rfl (zz_ltn hn rfl) (zz_G.eq G_S18 1079 11 1087 rfl rfl) (by decide) 1087 rfl ?_
          refine zz_iload_n (x := 3) rfl zd_14_18_12 ?_
          refine zz_lload_n (x := p0) rfl zd_14_18_13 ?_
          refine zz_iload_n (x := 3) rfl zd_14_18_14 ?_
          refine zz_callSI [zl p0, zi 3] zd_14_18_15 zk_Md_220 rfl rfl ⟨Nat.le_of_ble_eq_true rfl, Nat.le_of_ble_eq_true rfl⟩ ⟨rfl, rfl⟩ (Nat.zero_le _) (Nat.zero_le _) (zc_fieldOf_14_12x_3 p0 S18 n hn G_S18 (by omega)) (fun v21 S20 hP => ?_)
          obtain ⟨rfl, o22, o23⟩ := hP
          refine zz_iast zd_14_18_18 zT_1087 rfl (zz_ltn hn rfl) (by decide) (by decide) (fun S24 qS24 => ?_)
          have G_S24 := zz_G.put G_S18 qS24 (-2147483648) 2147483647 rfl (by omega)
          have F_S24 := zz_fr.puts F_S18 qS24 rfl
          refine zz_iinc [some (.ref 1079), some (zl p0), none, some (zi 4)] zd_14_18_19 rfl rfl ?_
          refine zz_goto zd_14_18_22 ?_
          refine zz_iload_n (x := 4) rfl zd_14_18_2 ?_
          refine zz_bipush (by decide) zd_14_18_3 ?_
          refine zz_icmp_ge (by omega) (by omega) zd_14_18_5 (fun c25 => ?_) (fun c25 => ?_)
          · exfalso; omega
          · refine zz_aload_n (x := 1079) rfl zd_14_18_8 ?_
            refine zz_getr (kd := 0) (z := 1087) zd_14_18_9 zf_Md_36 zT_1079 rfl (zz_ltn hn rfl) (zz_G.eq G_S24 1079 11 1087 rfl rfl) (by decide) 1087 rfl ?_
            refine zz_iload_n (x := 4) rfl zd_14_18_12 ?_
            refine zz_lload_n (x := p0) rfl zd_14_18_13 ?_
            refine zz_iload_n (x := 4) rfl zd_14_18_14 ?_
            refine zz_callSI [zl p0, zi 4] zd_14_18_15 zk_Md_220 rfl rfl ⟨Nat.le_of_ble_eq_true rfl, Nat.le_of_ble_eq_true rfl⟩ ⟨rfl, rfl⟩ (Nat.zero_le _) (Nat.zero_le _) (zc_fieldOf_14_12x_4 p0 S24 n hn G_S24 (by omega)) (fun v27 S26 hP => ?_)
            obtain ⟨rfl, o28, o29⟩ := hP
            refine zz_iast zd_14_18_18 zT_1087 rfl (zz_ltn hn rfl) (by decide) (by decide) (fun S30 qS30 => ?_)
            have G_S30 := zz_G.put G_S24 qS30 (-2147483648) 2147483647 rfl (by omega)
            have F_S30 := zz_fr.puts F_S24 qS30 rfl
            refine zz_iinc [some (.ref 1079), some (zl p0), none, some (zi 5)] zd_14_18_19 rfl rfl ?_
            refine zz_goto zd_14_18_22 ?_
            refine zz_iload_n (x := 5) rfl zd_14_18_2 ?_
            refine zz_bipush (by decide) zd_14_18_3 ?_
            refine zz_icmp_ge (by omega) (by omega) zd_14_18_5 (fun c31 => ?_) (fun c31 => ?_)
            · exfalso; omega
            · refine zz_aload_n (x := 1079) rfl zd_14_18_8 ?_
              refine zz_getr (kd := 0) (z := 1087) zd_14_18_9 zf_Md_36 zT_1079 rfl (zz_ltn hn rfl) (zz_G.eq G_S30 1079 11 1087 rfl rfl) (by decide) 1087 rfl ?_
              refine zz_iload_n (x := 5) rfl zd_14_18_12 ?_
              refine zz_lload_n (x := p0) rfl zd_14_18_13 ?_
              refine zz_iload_n (x := 5) rfl zd_14_18_14 ?_
              refine zz_callSI [zl p0, zi 5] zd_14_18_15 zk_Md_220 rfl rfl ⟨Nat.le_of_ble_eq_true rfl, Nat.le_of_ble_eq_true rfl⟩ ⟨rfl, rfl⟩ (Nat.zero_le _) (Nat.zero_le _) (zc_fieldOf_14_12x_5 p0 S30 n hn G_S30 (by omega)) (fun v33 S32 hP => ?_)
              obtain ⟨rfl, o34, o35⟩ := hP
              refine zz_iast zd_14_18_18 zT_1087 rfl (zz_ltn hn rfl) (by decide) (by decide) (fun S36 qS36 => ?_)
              have G_S36 := zz_G.put G_S30 qS36 (-2147483648) 2147483647 rfl (by omega)
              have F_S36 := zz_fr.puts F_S30 qS36 rfl
              refine zz_iinc [some (.ref 1079), some (zl p0), none, some (zi 6)] zd_14_18_19 rfl rfl ?_
              refine zz_goto zd_14_18_22 ?_
              refine zz_iload_n (x := 6) rfl zd_14_18_2 ?_
              refine zz_bipush (by decide) zd_14_18_3 ?_
              refine zz_icmp_ge (by omega) (by omega) zd_14_18_5 (fun c37 => ?_) (fun c37 => ?_)
              · exfalso; omega
              · refine zz_aload_n (x := 1079) rfl zd_14_18_8 ?_
                refine zz_getr (kd := 0) (z := 1087) zd_14_18_9 zf_Md_36 zT_1079 rfl (zz_ltn hn rfl) (zz_G.eq G_S36 1079 11 1087 rfl rfl) (by decide) 1087 rfl ?_
                refine zz_iload_n (x := 6) rfl zd_14_18_12 ?_
                refine zz_lload_n (x := p0) rfl zd_14_18_13 ?_
                refine zz_iload_n (x := 6) rfl zd_14_18_14 ?_
                refine zz_callSI [zl p0, zi 6] zd_14_18_15 zk_Md_220 rfl rfl ⟨Nat.le_of_ble_eq_true rfl, Nat.le_of_ble_eq_true rfl⟩ ⟨rfl, rfl⟩ (Nat.zero_le _) (Nat.zero_le _) (zc_fieldOf_14_12x_6 p0 S36 n hn G_S36 (by omega)) (fun v39 S38 hP => ?_)
                obtain ⟨rfl, o40, o41⟩ := hP
                refine zz_iast zd_14_18_18 zT_1087 rfl (zz_ltn hn rfl) (by decide) (by decide) (fun S42 qS42 => ?_)
                have G_S42 := zz_G.put G_S36 qS42 (-2147483648) 2147483647 rfl (by omega)
                have F_S42 := zz_fr.puts F_S36 qS42 rfl
                refine zz_iinc [some (.ref 1079), some (zl p0), none, some (zi 7)] zd_14_18_19 rfl rfl ?_
                refine zz_goto zd_14_18_22 ?_
                refine zz_iload_n (x := 7) rfl zd_14_18_2 ?_
                refine zz_bipush (by decide) zd_14_18_3 ?_
                refine zz_icmp_ge (by omega) (by omega) zd_14_18_5 (fun c43 => ?_) (fun c43 => ?_)
                · exfalso; omega
                · refine zz_aload_n (x := 1079) rfl zd_14_18_8 ?_
                  refine zz_getr (kd := 0) (z := 1087) zd_14_18_9 zf_Md_36 zT_1079 rfl (zz_ltn hn rfl) (zz_G.eq G_S42 1079 11 1087 rfl rfl) (by decide) 1087 rfl ?_
                  refine zz_iload_n (x := 7) rfl zd_14_18_12 ?_
                  refine zz_lload_n (x := p0) rfl zd_14_18_13 ?_
                  refine zz_iload_n (x := 7) rfl zd_14_18_14 ?_
                  refine zz_callSI [zl p0, zi 7] zd_14_18_15 zk_Md_220 rfl rfl ⟨Nat.le_of_ble_eq_true rfl, Nat.le_of_ble_eq_true rfl⟩ ⟨rfl, rfl⟩ (Nat.zero_le _) (Nat.zero_le _) (zc_fieldOf_14_12x_7 p0 S42 n hn G_S42 (by omega)) (fun v45 S44 hP => ?_)
                  obtain ⟨rfl, o46, o47⟩ := hP
                  refine zz_iast zd_14_18_18 zT_1087 rfl (zz_ltn hn rfl) (by decide) (by decide) (fun S48 qS48 => ?_)
                  have G_S48 := zz_G.put G_S42 qS48 (-2147483648) 2147483647 rfl (by omega)
                  have F_S48 := zz_fr.puts F_S42 qS48 rfl
                  refine zz_iinc [some (.ref 1079), some (zl p0), none, some (zi 8)] zd_14_18_19 rfl rfl ?_
                  refine zz_goto zd_14_18_22 ?_
                  refine zz_iload_n (x := 8) rfl zd_14_18_2 ?_
                  refine zz_bipush (by decide) zd_14_18_3 ?_
                  refine zz_icmp_ge (by omega) (by omega) zd_14_18_5 (fun c49 => ?_) (fun c49 => ?_)
                  · exfalso; omega
                  · refine zz_aload_n (x := 1079) rfl zd_14_18_8 ?_
                    refine zz_getr (kd := 0) (z := 1087) zd_14_18_9 zf_Md_36 zT_1079 rfl (zz_ltn hn rfl) (zz_G.eq G_S48 1079 11 1087 rfl rfl) (by decide) 1087 rfl ?_
                    refine zz_iload_n (x := 8) rfl zd_14_18_12 ?_
                    refine zz_lload_n (x := p0) rfl zd_14_18_13 ?_
                    refine zz_iload_n (x := 8) rfl zd_14_18_14 ?_
                    refine zz_callSI [zl p0, zi 8] zd_14_18_15 zk_Md_220 rfl rfl ⟨Nat.le_of_ble_eq_true rfl, Nat.le_of_ble_eq_true rfl⟩ ⟨rfl, rfl⟩ (Nat.zero_le _) (Nat.zero_le _) (zc_fieldOf_14_12x_8 p0 S48 n hn G_S48 (by omega)) (fun v51 S50 hP => ?_)
                    obtain ⟨rfl, o52, o53⟩ := hP
                    refine zz_iast zd_14_18_18 zT_1087 rfl (zz_ltn hn rfl) (by decide) (by decide) (fun S54 qS54 => ?_)
                    have G_S54 := zz_G.put G_S48 qS54 (-2147483648) 2147483647 rfl (by omega)
                    have F_S54 := zz_fr.puts F_S48 qS54 rfl
                    refine zz_iinc [some (.ref 1079), some (zl p0), none, some (zi 9)] zd_14_18_19 rfl rfl ?_
                    refine zz_goto zd_14_18_22 ?_
                    refine zz_iload_n (x := 9) rfl zd_14_18_2 ?_
                    refine zz_bipush (by decide) zd_14_18_3 ?_
                    refine zz_icmp_ge (by omega) (by omega) zd_14_18_5 (fun c55 => ?_) (fun c55 => ?_)
                    · exfalso; omega
                    · refine zz_aload_n (x := 1079) rfl zd_14_18_8 ?_
                      refine zz_getr (kd := 0) (z := 1087) zd_14_18_9 zf_Md_36 zT_1079 rfl (zz_ltn hn rfl) (zz_G.eq G_S54 1079 11 1087 rfl rfl) (by decide) 1087 rfl ?_
                      refine zz_iload_n (x := 9) rfl zd_14_18_12 ?_
                      refine zz_lload_n (x := p0) rfl zd_14_18_13 ?_
                      refine zz_iload_n (x := 9) rfl zd_14_18_14 ?_
                      refine zz_callSI [zl p0, zi 9] zd_14_18_15 zk_Md_220 rfl rfl ⟨Nat.le_of_ble_eq_true rfl, Nat.le_of_ble_eq_true rfl⟩ ⟨rfl, rfl⟩ (Nat.zero_le _) (Nat.zero_le _) (zc_fieldOf_14_12x_9 p0 S54 n hn G_S54 (by omega)) (fun v57 S56 hP => ?_)
                      obtain ⟨rfl, o58, o59⟩ := hP
                      refine zz_iast zd_14_18_18 zT_1087 rfl (zz_ltn hn rfl) (by decide) (by decide) (fun S60 qS60 => ?_)
                      have G_S60 := zz_G.put G_S54 qS60 (-2147483648) 2147483647 rfl (by omega)
                      have F_S60 := zz_fr.puts F_S54 qS60 rfl
                      refine zz_iinc [some (.ref 1079), some (zl p0), none, some (zi 10)] zd_14_18_19 rfl rfl ?_
                      refine zz_goto zd_14_18_22 ?_
                      refine zz_iload_n (x := 10) rfl zd_14_18_2 ?_
                      refine zz_bipush (by decide) zd_14_18_3 ?_
                      refine zz_icmp_ge (by omega) (by omega) zd_14_18_5 (fun c61 => ?_) (fun c61 => ?_)
                      · exfalso; omega
                      · refine zz_aload_n (x := 1079) rfl zd_14_18_8 ?_
                        refine zz_getr (kd := 0) (z := 1087) zd_14_18_9 zf_Md_36 zT_1079 rfl (zz_ltn hn rfl) (zz_G.eq G_S60 1079 11 1087 rfl rfl) (by decide) 1087 rfl ?_
                        refine zz_iload_n (x := 10) rfl zd_14_18_12 ?_
                        refine zz_lload_n (x := p0) rfl zd_14_18_13 ?_
                        refine zz_iload_n (x := 10) rfl zd_14_18_14 ?_
                        refine zz_callSI [zl p0, zi 10] zd_14_18_15 zk_Md_220 rfl rfl ⟨Nat.le_of_ble_eq_true rfl, Nat.le_of_ble_eq_true rfl⟩ ⟨rfl, rfl⟩ (Nat.zero_le _) (Nat.zero_le _) (zc_fieldOf_14_12x_10 p0 S60 n hn G_S60 (by omega)) (fun v63 S62 hP => ?_)
                        obtain ⟨rfl, o64, o65⟩ := hP
                        refine zz_iast zd_14_18_18 zT_1087 rfl (zz_ltn hn rfl) (by decide) (by decide) (fun S66 qS66 => ?_)
                        have G_S66 := zz_G.put G_S60 qS66 (-2147483648) 2147483647 rfl (by omega)
                        have F_S66 := zz_fr.puts F_S60 qS66 rfl
                        refine zz_iinc [some (.ref 1079), some (zl p0), none, some (zi 11)] zd_14_18_19 rfl rfl ?_
                        refine zz_goto zd_14_18_22 ?_
                        refine zz_iload_n (x := 11) rfl zd_14_18_2 ?_
                        refine zz_bipush (by decide) zd_14_18_3 ?_
                        refine zz_icmp_ge (by omega) (by omega) zd_14_18_5 (fun c67 => ?_) (fun c67 => ?_)
                        · exfalso; omega
                        · refine zz_aload_n (x := 1079) rfl zd_14_18_8 ?_
                          refine zz_getr (kd := 0) (z := 1087) zd_14_18_9 zf_Md_36 zT_1079 rfl (zz_ltn hn rfl) (zz_G.eq G_S66 1079 11 1087 rfl rfl) (by decide) 1087 rfl ?_
                          refine zz_iload_n (x := 11) rfl zd_14_18_12 ?_
                          refine zz_lload_n (x := p0) rfl zd_14_18_13 ?_
                          refine zz_iload_n (x := 11) rfl zd_14_18_14 ?_
                          refine zz_callSI [zl p0, zi 11] zd_14_18_15 zk_Md_220 rfl rfl ⟨Nat.le_of_ble_eq_true rfl, Nat.le_of_ble_eq_true rfl⟩ ⟨rfl, rfl⟩ (Nat.zero_le _) (Nat.zero_le _) (zc_fieldOf_14_12x_11 p0 S66 n hn G_S66 (by omega)) (fun v69 S68 hP => ?_)
                          obtain ⟨rfl, o70, o71⟩ := hP
                          refine zz_iast zd_14_18_18 zT_1087 rfl (zz_ltn hn rfl) (by decide) (by decide) (fun S72 qS72 => ?_)
                          have G_S72 := zz_G.put G_S66 qS72 (-2147483648) 2147483647 rfl (by omega)
                          have F_S72 := zz_fr.puts F_S66 qS72 rfl
                          refine zz_iinc [some (.ref 1079), some (zl p0), none, some (zi 12)] zd_14_18_19 rfl rfl ?_
                          refine zz_goto zd_14_18_22 ?_
                          refine zz_iload_n (x := 12) rfl zd_14_18_2 ?_
                          refine zz_bipush (by decide) zd_14_18_3 ?_
                          refine zz_icmp_ge (by omega) (by omega) zd_14_18_5 (fun c73 => ?_) (fun c73 => ?_)
                          · have e74 : S72 1087 0 = v3 := (zz_ro qS72 (fun h => absurd h.2 (by decide)) (zz_ro qS66 (fun h => absurd h.2 (by decide)) (zz_ro qS60 (fun h => absurd h.2 (by decide)) (zz_ro qS54 (fun h => absurd h.2 (by decide)) (zz_ro qS48 (fun h => absurd h.2 (by decide)) (zz_ro qS42 (fun h => absurd h.2 (by decide)) (zz_ro qS36 (fun h => absurd h.2 (by decide)) (zz_ro qS30 (fun h => absurd h.2 (by decide)) (zz_ro qS24 (fun h => absurd h.2 (by decide)) (zz_ro qS18 (fun h => absurd h.2 (by decide)) (zz_ro qS12 (fun h => absurd h.2 (by decide)) (zz_rs qS6))))))))))))
                            have e75 : S72 1087 1 = v9 := (zz_ro qS72 (fun h => absurd h.2 (by decide)) (zz_ro qS66 (fun h => absurd h.2 (by decide)) (zz_ro qS60 (fun h => absurd h.2 (by decide)) (zz_ro qS54 (fun h => absurd h.2 (by decide)) (zz_ro qS48 (fun h => absurd h.2 (by decide)) (zz_ro qS42 (fun h => absurd h.2 (by decide)) (zz_ro qS36 (fun h => absurd h.2 (by decide)) (zz_ro qS30 (fun h => absurd h.2 (by decide)) (zz_ro qS24 (fun h => absurd h.2 (by decide)) (zz_ro qS18 (fun h => absurd h.2 (by decide)) (zz_rs qS12)))))))))))
                            have e76 : S72 1087 2 = v15 := (zz_ro qS72 (fun h => absurd h.2 (by decide)) (zz_ro qS66 (fun h => absurd h.2 (by decide)) (zz_ro qS60 (fun h => absurd h.2 (by decide)) (zz_ro qS54 (fun h => absurd h.2 (by decide)) (zz_ro qS48 (fun h => absurd h.2 (by decide)) (zz_ro qS42 (fun h => absurd h.2 (by decide)) (zz_ro qS36 (fun h => absurd h.2 (by decide)) (zz_ro qS30 (fun h => absurd h.2 (by decide)) (zz_ro qS24 (fun h => absurd h.2 (by decide)) (zz_rs qS18))))))))))
                            have e77 : S72 1087 3 = v21 := (zz_ro qS72 (fun h => absurd h.2 (by decide)) (zz_ro qS66 (fun h => absurd h.2 (by decide)) (zz_ro qS60 (fun h => absurd h.2 (by decide)) (zz_ro qS54 (fun h => absurd h.2 (by decide)) (zz_ro qS48 (fun h => absurd h.2 (by decide)) (zz_ro qS42 (fun h => absurd h.2 (by decide)) (zz_ro qS36 (fun h => absurd h.2 (by decide)) (zz_ro qS30 (fun h => absurd h.2 (by decide)) (zz_rs qS24)))))))))
                            have e78 : S72 1087 4 = v27 := (zz_ro qS72 (fun h => absurd h.2 (by decide)) (zz_ro qS66 (fun h => absurd h.2 (by decide)) (zz_ro qS60 (fun h => absurd h.2 (by decide)) (zz_ro qS54 (fun h => absurd h.2 (by decide)) (zz_ro qS48 (fun h => absurd h.2 (by decide)) (zz_ro qS42 (fun h => absurd h.2 (by decide)) (zz_ro qS36 (fun h => absurd h.2 (by decide)) (zz_rs qS30))))))))
                            have e79 : S72 1087 5 = v33 := (zz_ro qS72 (fun h => absurd h.2 (by decide)) (zz_ro qS66 (fun h => absurd h.2 (by decide)) (zz_ro qS60 (fun h => absurd h.2 (by decide)) (zz_ro qS54 (fun h => absurd h.2 (by decide)) (zz_ro qS48 (fun h => absurd h.2 (by decide)) (zz_ro qS42 (fun h => absurd h.2 (by decide)) (zz_rs qS36)))))))
                            have e80 : S72 1087 6 = v39 := (zz_ro qS72 (fun h => absurd h.2 (by decide)) (zz_ro qS66 (fun h => absurd h.2 (by decide)) (zz_ro qS60 (fun h => absurd h.2 (by decide)) (zz_ro qS54 (fun h => absurd h.2 (by decide)) (zz_ro qS48 (fun h => absurd h.2 (by decide)) (zz_rs qS42))))))
                            have e81 : S72 1087 7 = v45 := (zz_ro qS72 (fun h => absurd h.2 (by decide)) (zz_ro qS66 (fun h => absurd h.2 (by decide)) (zz_ro qS60 (fun h => absurd h.2 (by decide)) (zz_ro qS54 (fun h => absurd h.2 (by decide)) (zz_rs qS48)))))
                            have e82 : S72 1087 8 = v51 := (zz_ro qS72 (fun h => absurd h.2 (by decide)) (zz_ro qS66 (fun h => absurd h.2 (by decide)) (zz_ro qS60 (fun h => absurd h.2 (by decide)) (zz_rs qS54))))
                            have e83 : S72 1087 9 = v57 := (zz_ro qS72 (fun h => absurd h.2 (by decide)) (zz_ro qS66 (fun h => absurd h.2 (by decide)) (zz_rs qS60)))
                            have e84 : S72 1087 10 = v63 := (zz_ro qS72 (fun h => absurd h.2 (by decide)) (zz_rs qS66))
                            have e85 : S72 1087 11 = v69 := (zz_rs qS72)
                            exact zz_vret zd_14_18_25 rfl (Nat.zero_le _) (Nat.zero_le _) ⟨_, rfl, G_S72, F_S72, by omega, by omega, by omega, by omega, by omega, by omega, by omega, by omega, by omega, by omega, by omega, by omega⟩
                          · exfalso; omega
abbrev zy_unit_14_19 : mm_Y := (⟨"TensorForgeModel", "unit", "()I"⟩, prog_14_method_19_code, 1, (some .int))
theorem zyw_unit_14_19 : mm_Yw zy_unit_14_19 0 := ⟨mm_tb_1 1902 (by decide +kernel) rfl, mm_tb_1 12 (by decide +kernel) rfl, ⟨by decide, by decide⟩, by decide +kernel⟩
theorem zg_14_19_0 : zq_at zy_unit_14_19.2.1 0 42 ∧ zq_at zy_unit_14_19.2.1 1 180 ∧ zq_at zy_unit_14_19.2.1 2 0 ∧ zq_at zy_unit_14_19.2.1 3 36 ∧ zq_at zy_unit_14_19.2.1 4 3 ∧ zq_at zy_unit_14_19.2.1 5 46 ∧ zq_at zy_unit_14_19.2.1 6 16 ∧ zq_at zy_unit_14_19.2.1 7 9 ∧ zq_at zy_unit_14_19.2.1 8 160 ∧ zq_at zy_unit_14_19.2.1 9 0 ∧ zq_at zy_unit_14_19.2.1 10 13 ∧ zq_at zy_unit_14_19.2.1 21 42 ∧ zq_at zy_unit_14_19.2.1 22 180 ∧ zq_at zy_unit_14_19.2.1 23 0 ∧ zq_at zy_unit_14_19.2.1 24 36 ∧ zq_at zy_unit_14_19.2.1 25 3 ∧ zq_at zy_unit_14_19.2.1 26 46 ∧ zq_at zy_unit_14_19.2.1 27 8 ∧ zq_at zy_unit_14_19.2.1 28 162 ∧ zq_at zy_unit_14_19.2.1 29 0 ∧ zq_at zy_unit_14_19.2.1 30 7 ∧ zq_at zy_unit_14_19.2.1 35 42 := by decide +kernel
theorem zd_14_19_0 : zz_D zy_unit_14_19 0 (.aload_n 0) 1 1 := ⟨zq_42 zg_14_19_0.1, rfl⟩
theorem zd_14_19_1 : zz_D zy_unit_14_19 1 (.getfield 36) 3 4 := ⟨zq_180 zg_14_19_0.2.1 zg_14_19_0.2.2.1 zg_14_19_0.2.2.2.1 rfl, rfl⟩
theorem zd_14_19_4 : zz_D zy_unit_14_19 4 (.iconst 0) 1 5 := ⟨zq_3 zg_14_19_0.2.2.2.2.1, rfl⟩
theorem zd_14_19_5 : zz_D zy_unit_14_19 5 (.iaload) 1 6 := ⟨zq_46 zg_14_19_0.2.2.2.2.2.1, rfl⟩
theorem zd_14_19_6 : zz_D zy_unit_14_19 6 (.bipush 9) 2 8 := ⟨zq_16 zg_14_19_0.2.2.2.2.2.2.1 zg_14_19_0.2.2.2.2.2.2.2.1 (by decide), rfl⟩
theorem zd_14_19_8 : zz_B zy_unit_14_19 8 (Instr.if_icmp .ne) 21 11 := ⟨13, zq_160 zg_14_19_0.2.2.2.2.2.2.2.2.1 zg_14_19_0.2.2.2.2.2.2.2.2.2.1 zg_14_19_0.2.2.2.2.2.2.2.2.2.2.1 (by decide), rfl, rfl⟩
theorem zd_14_19_21 : zz_D zy_unit_14_19 21 (.aload_n 0) 1 22 := ⟨zq_42 zg_14_19_0.2.2.2.2.2.2.2.2.2.2.2.1, rfl⟩
theorem zd_14_19_22 : zz_D zy_unit_14_19 22 (.getfield 36) 3 25 := ⟨zq_180 zg_14_19_0.2.2.2.2.2.2.2.2.2.2.2.2.1 zg_14_19_0.2.2.2.2.2.2.2.2.2.2.2.2.2.1 zg_14_19_0.2.2.2.2.2.2.2.2.2.2.2.2.2.2.1 rfl, rfl⟩
theorem zd_14_19_25 : zz_D zy_unit_14_19 25 (.iconst 0) 1 26 := ⟨zq_3 zg_14_19_0.2.2.2.2.2.2.2.2.2.2.2.2.2.2.2.1, rfl⟩
theorem zd_14_19_26 : zz_D zy_unit_14_19 26 (.iaload) 1 27 := ⟨zq_46 zg_14_19_0.2.2.2.2.2.2.2.2.2.2.2.2.2.2.2.2.1, rfl⟩
theorem zd_14_19_27 : zz_D zy_unit_14_19 27 (.iconst 5) 1 28 := ⟨zq_8 zg_14_19_0.2.2.2.2.2.2.2.2.2.2.2.2.2.2.2.2.2.1, rfl⟩
theorem zd_14_19_28 : zz_B zy_unit_14_19 28 (Instr.if_icmp .ge) 35 31 := ⟨7, zq_162 zg_14_19_0.2.2.2.2.2.2.2.2.2.2.2.2.2.2.2.2.2.2.1 zg_14_19_0.2.2.2.2.2.2.2.2.2.2.2.2.2.2.2.2.2.2.2.1 zg_14_19_0.2.2.2.2.2.2.2.2.2.2.2.2.2.2.2.2.2.2.2.2.1 (by decide), rfl, rfl⟩
theorem zd_14_19_35 : zz_D zy_unit_14_19 35 (.aload_n 0) 1 36 := ⟨zq_42 zg_14_19_0.2.2.2.2.2.2.2.2.2.2.2.2.2.2.2.2.2.2.2.2.2, rfl⟩
theorem zg_14_19_36 : zq_at zy_unit_14_19.2.1 36 180 ∧ zq_at zy_unit_14_19.2.1 37 0 ∧ zq_at zy_unit_14_19.2.1 38 36 ∧ zq_at zy_unit_14_19.2.1 39 3 ∧ zq_at zy_unit_14_19.2.1 40 46 ∧ zq_at zy_unit_14_19.2.1 41 16 ∧ zq_at zy_unit_14_19.2.1 42 8 ∧ zq_at zy_unit_14_19.2.1 43 162 ∧ zq_at zy_unit_14_19.2.1 44 0 ∧ zq_at zy_unit_14_19.2.1 45 7 ∧ zq_at zy_unit_14_19.2.1 50 5 ∧ zq_at zy_unit_14_19.2.1 51 172 ∧ zq_at zy_unit_14_19.2.1 46 4 ∧ zq_at zy_unit_14_19.2.1 47 167 ∧ zq_at zy_unit_14_19.2.1 48 0 ∧ zq_at zy_unit_14_19.2.1 49 4 ∧ zq_at zy_unit_14_19.2.1 31 3 ∧ zq_at zy_unit_14_19.2.1 32 167 ∧ zq_at zy_unit_14_19.2.1 33 0 ∧ zq_at zy_unit_14_19.2.1 34 19 ∧ zq_at zy_unit_14_19.2.1 11 42 ∧ zq_at zy_unit_14_19.2.1 12 180 ∧ zq_at zy_unit_14_19.2.1 13 0 ∧ zq_at zy_unit_14_19.2.1 14 36 := by decide +kernel
theorem zd_14_19_36 : zz_D zy_unit_14_19 36 (.getfield 36) 3 39 := ⟨zq_180 zg_14_19_36.1 zg_14_19_36.2.1 zg_14_19_36.2.2.1 rfl, rfl⟩
theorem zd_14_19_39 : zz_D zy_unit_14_19 39 (.iconst 0) 1 40 := ⟨zq_3 zg_14_19_36.2.2.2.1, rfl⟩
theorem zd_14_19_40 : zz_D zy_unit_14_19 40 (.iaload) 1 41 := ⟨zq_46 zg_14_19_36.2.2.2.2.1, rfl⟩
theorem zd_14_19_41 : zz_D zy_unit_14_19 41 (.bipush 8) 2 43 := ⟨zq_16 zg_14_19_36.2.2.2.2.2.1 zg_14_19_36.2.2.2.2.2.2.1 (by decide), rfl⟩
theorem zd_14_19_43 : zz_B zy_unit_14_19 43 (Instr.if_icmp .ge) 50 46 := ⟨7, zq_162 zg_14_19_36.2.2.2.2.2.2.2.1 zg_14_19_36.2.2.2.2.2.2.2.2.1 zg_14_19_36.2.2.2.2.2.2.2.2.2.1 (by decide), rfl, rfl⟩
theorem zd_14_19_50 : zz_D zy_unit_14_19 50 (.iconst 2) 1 51 := ⟨zq_5 zg_14_19_36.2.2.2.2.2.2.2.2.2.2.1, rfl⟩
theorem zd_14_19_51 : zz_D zy_unit_14_19 51 (.ireturn) 1 52 := ⟨zq_172 zg_14_19_36.2.2.2.2.2.2.2.2.2.2.2.1, rfl⟩
theorem zd_14_19_46 : zz_D zy_unit_14_19 46 (.iconst 1) 1 47 := ⟨zq_4 zg_14_19_36.2.2.2.2.2.2.2.2.2.2.2.2.1, rfl⟩
theorem zd_14_19_47 : zz_B zy_unit_14_19 47 Instr.goto 51 50 := ⟨4, zq_167 zg_14_19_36.2.2.2.2.2.2.2.2.2.2.2.2.2.1 zg_14_19_36.2.2.2.2.2.2.2.2.2.2.2.2.2.2.1 zg_14_19_36.2.2.2.2.2.2.2.2.2.2.2.2.2.2.2.1 (by decide), rfl, rfl⟩
theorem zd_14_19_31 : zz_D zy_unit_14_19 31 (.iconst 0) 1 32 := ⟨zq_3 zg_14_19_36.2.2.2.2.2.2.2.2.2.2.2.2.2.2.2.2.1, rfl⟩
theorem zd_14_19_32 : zz_B zy_unit_14_19 32 Instr.goto 51 35 := ⟨19, zq_167 zg_14_19_36.2.2.2.2.2.2.2.2.2.2.2.2.2.2.2.2.2.1 zg_14_19_36.2.2.2.2.2.2.2.2.2.2.2.2.2.2.2.2.2.2.1 zg_14_19_36.2.2.2.2.2.2.2.2.2.2.2.2.2.2.2.2.2.2.2.1 (by decide), rfl, rfl⟩
theorem zd_14_19_11 : zz_D zy_unit_14_19 11 (.aload_n 0) 1 12 := ⟨zq_42 zg_14_19_36.2.2.2.2.2.2.2.2.2.2.2.2.2.2.2.2.2.2.2.2.1, rfl⟩
theorem zd_14_19_12 : zz_D zy_unit_14_19 12 (.getfield 36) 3 15 := ⟨zq_180 zg_14_19_36.2.2.2.2.2.2.2.2.2.2.2.2.2.2.2.2.2.2.2.2.2.1 zg_14_19_36.2.2.2.2.2.2.2.2.2.2.2.2.2.2.2.2.2.2.2.2.2.2.1 zg_14_19_36.2.2.2.2.2.2.2.2.2.2.2.2.2.2.2.2.2.2.2.2.2.2.2 rfl, rfl⟩
theorem zg_14_19_15 : zq_at zy_unit_14_19.2.1 15 16 ∧ zq_at zy_unit_14_19.2.1 16 11 ∧ zq_at zy_unit_14_19.2.1 17 46 ∧ zq_at zy_unit_14_19.2.1 18 167 ∧ zq_at zy_unit_14_19.2.1 19 0 ∧ zq_at zy_unit_14_19.2.1 20 33 := by decide +kernel
theorem zd_14_19_15 : zz_D zy_unit_14_19 15 (.bipush 11) 2 17 := ⟨zq_16 zg_14_19_15.1 zg_14_19_15.2.1 (by decide), rfl⟩
theorem zd_14_19_17 : zz_D zy_unit_14_19 17 (.iaload) 1 18 := ⟨zq_46 zg_14_19_15.2.2.1, rfl⟩
theorem zd_14_19_18 : zz_B zy_unit_14_19 18 Instr.goto 51 21 := ⟨33, zq_167 zg_14_19_15.2.2.2.1 zg_14_19_15.2.2.2.2.1 zg_14_19_15.2.2.2.2.2 (by decide), rfl, rfl⟩

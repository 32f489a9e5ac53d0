-- TensorForgeModel illegal (J)Z
abbrev zr_illegal_14_25 : Room := { frames := 4, cells := 0, slots := 0, locals := 67 }
def zp_illegal_14_25 (p0 : Int) (S0 : zz_S) : Int → zz_S → Prop := fun r S => zz_G S ∧ zz_fr [(1079, 0), (1087, 0), (1087, 1), (1087, 2), (1087, 3), (1087, 4), (1087, 5), (1087, 6), (1087, 7), (1087, 8), (1087, 9), (1087, 10), (1087, 11), (1088, 0), (1088, 1), (1088, 2), (1088, 3), (1088, 4), (1088, 5), (1088, 6), (1088, 7), (1088, 8), (1088, 9), (1089, 0), (1089, 1), (1089, 2), (1089, 3), (1089, 4), (1089, 5), (1089, 6), (1089, 7), (1089, 8), (1089, 9)] [] (fun _ _ => False) S0 S ∧ (0 ≤ r ∧ r ≤ 1) ∧ (S 1079 0 = 0) ∧ (r = zz_il (zz_fx p0 0 15) (zz_fx p0 4 1) (zz_fx p0 5 1) (zz_fx p0 6 1) (zz_fx p0 7 1) (zz_fx p0 8 4095) (zz_fx p0 20 63) (zz_fx p0 26 31) (zz_fx p0 31 511) (zz_fx p0 40 511) (zz_fx p0 49 1023) (zz_fx p0 59 31) (S0 1079 1))
theorem zc_illegal_14_25 {g : mm_G} {l : Launch} (p0 : Int) (S0 : zz_S) (n : Nat) (hn : zz_end ≤ n) (G_S0 : zz_G S0) (hp0 : (-9223372036854775808) ≤ p0 ∧ p0 ≤ 9223372036854775807) : mm_Met g l zy_illegal_14_25 zr_illegal_14_25 [.ref 1079, zl p0] (zz_M S0 n) n (zz_QI n (zp_illegal_14_25 p0 S0)) := by
  refine zz_enter (by decide) (Nat.le_of_ble_eq_true rfl) (zz_less (ls1 := [some (.ref 1079), some (zl p0), none]) ⟨rfl, ⟨rfl, trivial⟩⟩ ?_)
  have F_S0 : zz_fr [(1079, 0), (1087, 0), (1087, 1), (1087, 2), (1087, 3), (1087, 4), (1087, 5), (1087, 6), (1087, 7), (1087, 8), (1087, 9), (1087, 10), (1087, 11), (1088, 0), (1088, 1), (1088, 2), (1088, 3), (1088, 4), (1088, 5), (1088, 6), (1088, 7), (1088, 8), (1088, 9), (1089, 0), (1089, 1), (1089, 2), (1089, 3), (1089, 4), (1089, 5), (1089, 6), (1089, 7), (1089, 8), (1089, 9)] [] (fun _ _ => False) S0 S0 := zz_fr.refl
  refine zz_aload_n (x := 1079) rfl zd_14_25_0 ?_
  refine zz_iconst zd_14_25_1 ?_
  refine zz_puti zd_14_25_2 zf_Md_187 zT_1079 rfl (zz_ltn hn rfl) (fun S1 qS1 => ?_)
  have G_S1 := zz_G.put G_S0 qS1 0 3 rfl (by omega)
  have F_S1 := zz_fr.puts F_S0 qS1 rfl
  refine zz_aload_n (x := 1079) rfl zd_14_25_5 ?_
  refine zz_lload_n (x := p0) rfl zd_14_25_6 ?_
  have g2 := zz_G.r G_S0 1079 1 2 8 rfl rfl
  have e3 : S1 1079 1 = S0 1079 1 := (zz_ro qS1 (fun h => absurd h.2 (by decide)) rfl)
  refine zz_callVI [zl p0] zd_14_25_7 zk_Md_250 zT_1079 (zz_ltn hn rfl) rfl rfl ⟨Nat.le_of_ble_eq_true rfl, Nat.le_of_ble_eq_true rfl⟩ ⟨rfl, rfl⟩ (Nat.zero_le _) (Nat.zero_le _) (zc_isIllegal_14_24 p0 S1 n hn G_S1 (by omega)) (fun v5 S4 hP => ?_)
  obtain ⟨G_S4, fS4, o6, o7, o8⟩ := hP
  have F_S4 := zz_fr.trans F_S1 fS4 rfl zz_nv
  rcases (by omega : v5 = 0 ∨ v5 = 1) with rfl | rfl
  · have e9 : S4 1079 0 = 0 := (zz_rc fS4 rfl rfl (fun h => h) (zz_rs qS1))
    exact zz_zret zd_14_25_10 rfl (by omega) (Nat.zero_le _) (Nat.zero_le _) ⟨_, _, rfl, G_S4, F_S4, by omega, by omega, by have h9 := o8; rw [show S1 1079 1 = S0 1079 1 by omega] at h9; exact h9⟩
  · have e10 : S4 1079 0 = 0 := (zz_rc fS4 rfl rfl (fun h => h) (zz_rs qS1))
    exact zz_zret zd_14_25_10 rfl (by omega) (Nat.zero_le _) (Nat.zero_le _) ⟨_, _, rfl, G_S4, F_S4, by omega, by omega, by have h9 := o8; rw [show S1 1079 1 = S0 1079 1 by omega] at h9; exact h9⟩
abbrev zy_narrowed_14_26 : mm_Y := (⟨"TensorForgeModel", "narrowed", "(II)I"⟩, prog_14_method_26_code, 5, (some .int))
theorem zyw_narrowed_14_26 : mm_Yw zy_narrowed_14_26 2 := ⟨mm_tb_1 1986 (by decide +kernel) rfl, mm_tb_1 12 (by decide +kernel) rfl, ⟨by decide, by decide⟩, by decide +kernel⟩
theorem zq_Md_254 : Cond.constantLong "TensorForgeModel" 254 (-128 : Int64) ∈ mm_tb := mm_tb_1 1987 (by decide +kernel) rfl
theorem zq_Md_256 : Cond.constantLong "TensorForgeModel" 256 (127 : Int64) ∈ mm_tb := mm_tb_1 1988 (by decide +kernel) rfl
theorem zg_14_26_0 : zq_at zy_narrowed_14_26.2.1 0 27 ∧ zq_at zy_narrowed_14_26.2.1 1 16 ∧ zq_at zy_narrowed_14_26.2.1 2 15 ∧ zq_at zy_narrowed_14_26.2.1 3 126 ∧ zq_at zy_narrowed_14_26.2.1 4 61 ∧ zq_at zy_narrowed_14_26.2.1 5 28 ∧ zq_at zy_narrowed_14_26.2.1 6 158 ∧ zq_at zy_narrowed_14_26.2.1 7 0 ∧ zq_at zy_narrowed_14_26.2.1 8 16 ∧ zq_at zy_narrowed_14_26.2.1 22 26 ∧ zq_at zy_narrowed_14_26.2.1 23 133 ∧ zq_at zy_narrowed_14_26.2.1 24 66 ∧ zq_at zy_narrowed_14_26.2.1 25 33 ∧ zq_at zy_narrowed_14_26.2.1 26 20 ∧ zq_at zy_narrowed_14_26.2.1 27 0 ∧ zq_at zy_narrowed_14_26.2.1 28 254 ∧ zq_at zy_narrowed_14_26.2.1 29 148 ∧ zq_at zy_narrowed_14_26.2.1 30 156 ∧ zq_at zy_narrowed_14_26.2.1 31 0 ∧ zq_at zy_narrowed_14_26.2.1 32 9 ∧ zq_at zy_narrowed_14_26.2.1 39 33 ∧ zq_at zy_narrowed_14_26.2.1 40 20 ∧ zq_at zy_narrowed_14_26.2.1 41 1 ∧ zq_at zy_narrowed_14_26.2.1 42 0 := by decide +kernel
theorem zd_14_26_0 : zz_D zy_narrowed_14_26 0 (.iload_n 1) 1 1 := ⟨zq_27 zg_14_26_0.1, rfl⟩
theorem zd_14_26_1 : zz_D zy_narrowed_14_26 1 (.bipush 15) 2 3 := ⟨zq_16 zg_14_26_0.2.1 zg_14_26_0.2.2.1 (by decide), rfl⟩
theorem zd_14_26_3 : zz_D zy_narrowed_14_26 3 (.iand) 1 4 := ⟨zq_126 zg_14_26_0.2.2.2.1, rfl⟩
theorem zd_14_26_4 : zz_D zy_narrowed_14_26 4 (.istore_n 2) 1 5 := ⟨zq_61 zg_14_26_0.2.2.2.2.1, rfl⟩
theorem zd_14_26_5 : zz_D zy_narrowed_14_26 5 (.iload_n 2) 1 6 := ⟨zq_28 zg_14_26_0.2.2.2.2.2.1, rfl⟩
theorem zd_14_26_6 : zz_B zy_narrowed_14_26 6 (Instr.ifCond .le) 22 9 := ⟨16, zq_158 zg_14_26_0.2.2.2.2.2.2.1 zg_14_26_0.2.2.2.2.2.2.2.1 zg_14_26_0.2.2.2.2.2.2.2.2.1 (by decide), rfl, rfl⟩
theorem zd_14_26_22 : zz_D zy_narrowed_14_26 22 (.iload_n 0) 1 23 := ⟨zq_26 zg_14_26_0.2.2.2.2.2.2.2.2.2.1, rfl⟩
theorem zd_14_26_23 : zz_D zy_narrowed_14_26 23 (.i2l) 1 24 := ⟨zq_133 zg_14_26_0.2.2.2.2.2.2.2.2.2.2.1, rfl⟩
theorem zd_14_26_24 : zz_D zy_narrowed_14_26 24 (.lstore_n 3) 1 25 := ⟨zq_66 zg_14_26_0.2.2.2.2.2.2.2.2.2.2.2.1, rfl⟩
theorem zd_14_26_25 : zz_D zy_narrowed_14_26 25 (.lload_n 3) 1 26 := ⟨zq_33 zg_14_26_0.2.2.2.2.2.2.2.2.2.2.2.2.1, rfl⟩
theorem zd_14_26_26 : zz_D zy_narrowed_14_26 26 (.ldc2_w 254) 3 29 := ⟨zq_20 zg_14_26_0.2.2.2.2.2.2.2.2.2.2.2.2.2.1 zg_14_26_0.2.2.2.2.2.2.2.2.2.2.2.2.2.2.1 zg_14_26_0.2.2.2.2.2.2.2.2.2.2.2.2.2.2.2.1 rfl, rfl⟩
theorem zd_14_26_29 : zz_D zy_narrowed_14_26 29 (.lcmp) 1 30 := ⟨zq_148 zg_14_26_0.2.2.2.2.2.2.2.2.2.2.2.2.2.2.2.2.1, rfl⟩
theorem zd_14_26_30 : zz_B zy_narrowed_14_26 30 (Instr.ifCond .ge) 39 33 := ⟨9, zq_156 zg_14_26_0.2.2.2.2.2.2.2.2.2.2.2.2.2.2.2.2.2.1 zg_14_26_0.2.2.2.2.2.2.2.2.2.2.2.2.2.2.2.2.2.2.1 zg_14_26_0.2.2.2.2.2.2.2.2.2.2.2.2.2.2.2.2.2.2.2.1 (by decide), rfl, rfl⟩
theorem zd_14_26_39 : zz_D zy_narrowed_14_26 39 (.lload_n 3) 1 40 := ⟨zq_33 zg_14_26_0.2.2.2.2.2.2.2.2.2.2.2.2.2.2.2.2.2.2.2.2.1, rfl⟩
theorem zd_14_26_40 : zz_D zy_narrowed_14_26 40 (.ldc2_w 256) 3 43 := ⟨zq_20 zg_14_26_0.2.2.2.2.2.2.2.2.2.2.2.2.2.2.2.2.2.2.2.2.2.1 zg_14_26_0.2.2.2.2.2.2.2.2.2.2.2.2.2.2.2.2.2.2.2.2.2.2.1 zg_14_26_0.2.2.2.2.2.2.2.2.2.2.2.2.2.2.2.2.2.2.2.2.2.2.2 rfl, rfl⟩
theorem zg_14_26_43 : zq_at zy_narrowed_14_26.2.1 43 148 ∧ zq_at zy_narrowed_14_26.2.1 44 158 ∧ zq_at zy_narrowed_14_26.2.1 45 0 ∧ zq_at zy_narrowed_14_26.2.1 46 9 ∧ zq_at zy_narrowed_14_26.2.1 53 33 ∧ zq_at zy_narrowed_14_26.2.1 54 66 ∧ zq_at zy_narrowed_14_26.2.1 55 27 ∧ zq_at zy_narrowed_14_26.2.1 56 16 ∧ zq_at zy_narrowed_14_26.2.1 57 15 ∧ zq_at zy_narrowed_14_26.2.1 58 164 ∧ zq_at zy_narrowed_14_26.2.1 59 0 ∧ zq_at zy_narrowed_14_26.2.1 60 13 ∧ zq_at zy_narrowed_14_26.2.1 71 33 ∧ zq_at zy_narrowed_14_26.2.1 72 136 ∧ zq_at zy_narrowed_14_26.2.1 73 172 ∧ zq_at zy_narrowed_14_26.2.1 61 33 ∧ zq_at zy_narrowed_14_26.2.1 62 9 ∧ zq_at zy_narrowed_14_26.2.1 63 148 ∧ zq_at zy_narrowed_14_26.2.1 64 156 ∧ zq_at zy_narrowed_14_26.2.1 65 0 ∧ zq_at zy_narrowed_14_26.2.1 66 7 ∧ zq_at zy_narrowed_14_26.2.1 67 3 := by decide +kernel
theorem zd_14_26_43 : zz_D zy_narrowed_14_26 43 (.lcmp) 1 44 := ⟨zq_148 zg_14_26_43.1, rfl⟩
theorem zd_14_26_44 : zz_B zy_narrowed_14_26 44 (Instr.ifCond .le) 53 47 := ⟨9, zq_158 zg_14_26_43.2.1 zg_14_26_43.2.2.1 zg_14_26_43.2.2.2.1 (by decide), rfl, rfl⟩
theorem zd_14_26_53 : zz_D zy_narrowed_14_26 53 (.lload_n 3) 1 54 := ⟨zq_33 zg_14_26_43.2.2.2.2.1, rfl⟩
theorem zd_14_26_54 : zz_D zy_narrowed_14_26 54 (.lstore_n 3) 1 55 := ⟨zq_66 zg_14_26_43.2.2.2.2.2.1, rfl⟩
theorem zd_14_26_55 : zz_D zy_narrowed_14_26 55 (.iload_n 1) 1 56 := ⟨zq_27 zg_14_26_43.2.2.2.2.2.2.1, rfl⟩
theorem zd_14_26_56 : zz_D zy_narrowed_14_26 56 (.bipush 15) 2 58 := ⟨zq_16 zg_14_26_43.2.2.2.2.2.2.2.1 zg_14_26_43.2.2.2.2.2.2.2.2.1 (by decide), rfl⟩
theorem zd_14_26_58 : zz_B zy_narrowed_14_26 58 (Instr.if_icmp .le) 71 61 := ⟨13, zq_164 zg_14_26_43.2.2.2.2.2.2.2.2.2.1 zg_14_26_43.2.2.2.2.2.2.2.2.2.2.1 zg_14_26_43.2.2.2.2.2.2.2.2.2.2.2.1 (by decide), rfl, rfl⟩
theorem zd_14_26_71 : zz_D zy_narrowed_14_26 71 (.lload_n 3) 1 72 := ⟨zq_33 zg_14_26_43.2.2.2.2.2.2.2.2.2.2.2.2.1, rfl⟩
theorem zd_14_26_72 : zz_D zy_narrowed_14_26 72 (.l2i) 1 73 := ⟨zq_136 zg_14_26_43.2.2.2.2.2.2.2.2.2.2.2.2.2.1, rfl⟩
theorem zd_14_26_73 : zz_D zy_narrowed_14_26 73 (.ireturn) 1 74 := ⟨zq_172 zg_14_26_43.2.2.2.2.2.2.2.2.2.2.2.2.2.2.1, rfl⟩
theorem zd_14_26_61 : zz_D zy_narrowed_14_26 61 (.lload_n 3) 1 62 := ⟨zq_33 zg_14_26_43.2.2.2.2.2.2.2.2.2.2.2.2.2.2.2.1, rfl⟩
theorem zd_14_26_62 : zz_D zy_narrowed_14_26 62 (.lconst 0) 1 63 := ⟨zq_9 zg_14_26_43.2.2.2.2.2.2.2.2.2.2.2.2.2.2.2.2.1, rfl⟩
theorem zd_14_26_63 : zz_D zy_narrowed_14_26 63 (.lcmp) 1 64 := ⟨zq_148 zg_14_26_43.2.2.2.2.2.2.2.2.2.2.2.2.2.2.2.2.2.1, rfl⟩
theorem zd_14_26_64 : zz_B zy_narrowed_14_26 64 (Instr.ifCond .ge) 71 67 := ⟨7, zq_156 zg_14_26_43.2.2.2.2.2.2.2.2.2.2.2.2.2.2.2.2.2.2.1 zg_14_26_43.2.2.2.2.2.2.2.2.2.2.2.2.2.2.2.2.2.2.2.1 zg_14_26_43.2.2.2.2.2.2.2.2.2.2.2.2.2.2.2.2.2.2.2.2.1 (by decide), rfl, rfl⟩
theorem zd_14_26_67 : zz_D zy_narrowed_14_26 67 (.iconst 0) 1 68 := ⟨zq_3 zg_14_26_43.2.2.2.2.2.2.2.2.2.2.2.2.2.2.2.2.2.2.2.2.2, rfl⟩
theorem zg_14_26_68 : zq_at zy_narrowed_14_26.2.1 68 167 ∧ zq_at zy_narrowed_14_26.2.1 69 0 ∧ zq_at zy_narrowed_14_26.2.1 70 5 ∧ zq_at zy_narrowed_14_26.2.1 47 20 ∧ zq_at zy_narrowed_14_26.2.1 48 1 ∧ zq_at zy_narrowed_14_26.2.1 49 0 ∧ zq_at zy_narrowed_14_26.2.1 50 167 ∧ zq_at zy_narrowed_14_26.2.1 51 0 ∧ zq_at zy_narrowed_14_26.2.1 52 4 ∧ zq_at zy_narrowed_14_26.2.1 33 20 ∧ zq_at zy_narrowed_14_26.2.1 34 0 ∧ zq_at zy_narrowed_14_26.2.1 35 254 ∧ zq_at zy_narrowed_14_26.2.1 36 167 ∧ zq_at zy_narrowed_14_26.2.1 37 0 ∧ zq_at zy_narrowed_14_26.2.1 38 18 ∧ zq_at zy_narrowed_14_26.2.1 9 26 ∧ zq_at zy_narrowed_14_26.2.1 10 133 ∧ zq_at zy_narrowed_14_26.2.1 11 10 ∧ zq_at zy_narrowed_14_26.2.1 12 28 ∧ zq_at zy_narrowed_14_26.2.1 13 4 ∧ zq_at zy_narrowed_14_26.2.1 14 100 ∧ zq_at zy_narrowed_14_26.2.1 15 121 ∧ zq_at zy_narrowed_14_26.2.1 16 97 ∧ zq_at zy_narrowed_14_26.2.1 17 28 := by decide +kernel
theorem zd_14_26_68 : zz_B zy_narrowed_14_26 68 Instr.goto 73 71 := ⟨5, zq_167 zg_14_26_68.1 zg_14_26_68.2.1 zg_14_26_68.2.2.1 (by decide), rfl, rfl⟩
theorem zd_14_26_47 : zz_D zy_narrowed_14_26 47 (.ldc2_w 256) 3 50 := ⟨zq_20 zg_14_26_68.2.2.2.1 zg_14_26_68.2.2.2.2.1 zg_14_26_68.2.2.2.2.2.1 rfl, rfl⟩
theorem zd_14_26_50 : zz_B zy_narrowed_14_26 50 Instr.goto 54 53 := ⟨4, zq_167 zg_14_26_68.2.2.2.2.2.2.1 zg_14_26_68.2.2.2.2.2.2.2.1 zg_14_26_68.2.2.2.2.2.2.2.2.1 (by decide), rfl, rfl⟩
theorem zd_14_26_33 : zz_D zy_narrowed_14_26 33 (.ldc2_w 254) 3 36 := ⟨zq_20 zg_14_26_68.2.2.2.2.2.2.2.2.2.1 zg_14_26_68.2.2.2.2.2.2.2.2.2.2.1 zg_14_26_68.2.2.2.2.2.2.2.2.2.2.2.1 rfl, rfl⟩
theorem zd_14_26_36 : zz_B zy_narrowed_14_26 36 Instr.goto 54 39 := ⟨18, zq_167 zg_14_26_68.2.2.2.2.2.2.2.2.2.2.2.2.1 zg_14_26_68.2.2.2.2.2.2.2.2.2.2.2.2.2.1 zg_14_26_68.2.2.2.2.2.2.2.2.2.2.2.2.2.2.1 (by decide), rfl, rfl⟩
theorem zd_14_26_9 : zz_D zy_narrowed_14_26 9 (.iload_n 0) 1 10 := ⟨zq_26 zg_14_26_68.2.2.2.2.2.2.2.2.2.2.2.2.2.2.2.1, rfl⟩
theorem zd_14_26_10 : zz_D zy_narrowed_14_26 10 (.i2l) 1 11 := ⟨zq_133 zg_14_26_68.2.2.2.2.2.2.2.2.2.2.2.2.2.2.2.2.1, rfl⟩
theorem zd_14_26_11 : zz_D zy_narrowed_14_26 11 (.lconst 1) 1 12 := ⟨zq_10 zg_14_26_68.2.2.2.2.2.2.2.2.2.2.2.2.2.2.2.2.2.1, rfl⟩
theorem zd_14_26_12 : zz_D zy_narrowed_14_26 12 (.iload_n 2) 1 13 := ⟨zq_28 zg_14_26_68.2.2.2.2.2.2.2.2.2.2.2.2.2.2.2.2.2.2.1, rfl⟩
theorem zd_14_26_13 : zz_D zy_narrowed_14_26 13 (.iconst 1) 1 14 := ⟨zq_4 zg_14_26_68.2.2.2.2.2.2.2.2.2.2.2.2.2.2.2.2.2.2.2.1, rfl⟩
theorem zd_14_26_14 : zz_D zy_narrowed_14_26 14 (.isub) 1 15 := ⟨zq_100 zg_14_26_68.2.2.2.2.2.2.2.2.2.2.2.2.2.2.2.2.2.2.2.2.1, rfl⟩
theorem zd_14_26_15 : zz_D zy_narrowed_14_26 15 (.lshl) 1 16 := ⟨zq_121 zg_14_26_68.2.2.2.2.2.2.2.2.2.2.2.2.2.2.2.2.2.2.2.2.2.1, rfl⟩
theorem zd_14_26_16 : zz_D zy_narrowed_14_26 16 (.ladd) 1 17 := ⟨zq_97 zg_14_26_68.2.2.2.2.2.2.2.2.2.2.2.2.2.2.2.2.2.2.2.2.2.2.1, rfl⟩
theorem zd_14_26_17 : zz_D zy_narrowed_14_26 17 (.iload_n 2) 1 18 := ⟨zq_28 zg_14_26_68.2.2.2.2.2.2.2.2.2.2.2.2.2.2.2.2.2.2.2.2.2.2.2, rfl⟩
theorem zg_14_26_18 : zq_at zy_narrowed_14_26.2.1 18 123 ∧ zq_at zy_narrowed_14_26.2.1 19 167 ∧ zq_at zy_narrowed_14_26.2.1 20 0 ∧ zq_at zy_narrowed_14_26.2.1 21 5 := by decide +kernel
theorem zd_14_26_18 : zz_D zy_narrowed_14_26 18 (.lshr) 1 19 := ⟨zq_123 zg_14_26_18.1, rfl⟩
theorem zd_14_26_19 : zz_B zy_narrowed_14_26 19 Instr.goto 24 22 := ⟨5, zq_167 zg_14_26_18.2.1 zg_14_26_18.2.2.1 zg_14_26_18.2.2.2 (by decide), rfl, rfl⟩
-- TensorForgeModel narrowed (II)I
abbrev zr_narrowed_14_26 : Room := { frames := 0, cells := 0, slots := 0, locals := 0 }
def zp_narrowed_14_26 (p0 : Int) (p1 : Int) (S0 : zz_S) : Int → zz_S → Prop := fun r S => S0 = S ∧ ((-2147483648) ≤ r ∧ r ≤ 2147483647)
theorem zc_narrowed_14_26 {g : mm_G} {l : Launch} (p0 : Int) (p1 : Int) (S0 : zz_S) (n : Nat) (hn : zz_end ≤ n) (G_S0 : zz_G S0) (hp0 : (-2147483648) ≤ p0 ∧ p0 ≤ 2147483647) (hp1 : (-2147483648) ≤ p1 ∧ p1 ≤ 2147483647) : mm_Met g l zy_narrowed_14_26 zr_narrowed_14_26 [zi p0, zi p1] (zz_M S0 n) n (zz_QI n (zp_narrowed_14_26 p0 p1 S0)) := by
  refine zz_enter (by decide) (Nat.le_of_ble_eq_true rfl) (zz_less (ls1 := [some (zi p0), some (zi p1)]) ⟨rfl, ⟨rfl, trivial⟩⟩ ?_)
  refine zz_iload_n (x := p1) rfl zd_14_26_0 ?_
  refine zz_bipush (by decide) zd_14_26_1 ?_
  refine zz_iand (by omega) (by omega) zd_14_26_3 (fun v1 hv1 av1 bv1 ev1 => ?_)
  refine zz_istore_n [some (zi p0), some (zi p1), some (zi v1)] zd_14_26_4 (by decide) rfl ?_
  refine zz_iload_n (x := v1) rfl zd_14_26_5 ?_
  refine zz_if_le (by omega) zd_14_26_6 (fun c2 => ?_) (fun c2 => ?_)
  · refine zz_iload_n (x := p0) rfl zd_14_26_22 ?_
    refine zz_i2l (by omega) zd_14_26_23 ?_
    refine zz_lstore_n [some (zi p0), some (zi p1), some (zi v1), some (zl p0), none] zd_14_26_24 (by decide) rfl ?_
    refine zz_lload_n (x := p0) rfl zd_14_26_25 ?_
    refine zz_ldc2 (z := (-128)) zq_Md_254 (by decide) zd_14_26_26 ?_
    refine zz_lcmp (by omega) (by omega) zd_14_26_29 (fun v3 hv3 => ?_)
    refine zz_if_ge (by omega) zd_14_26_30 (fun c4 => ?_) (fun c4 => ?_)
    · refine zz_lload_n (x := p0) rfl zd_14_26_39 ?_
      refine zz_ldc2 (z := 127) zq_Md_256 (by decide) zd_14_26_40 ?_
      refine zz_lcmp (by omega) (by omega) zd_14_26_43 (fun v5 hv5 => ?_)
      refine zz_if_le (by omega) zd_14_26_44 (fun c6 => ?_) (fun c6 => ?_)
      · refine zz_lload_n (x := p0) rfl zd_14_26_53 ?_
        refine zz_lstore_n [some (zi p0), some (zi p1), some (zi v1), some (zl p0), none] zd_14_26_54 (by decide) rfl ?_
        refine zz_iload_n (x := p1) rfl zd_14_26_55 ?_
        refine zz_bipush (by decide) zd_14_26_56 ?_
        refine zz_icmp_le (by omega) (by omega) zd_14_26_58 (fun c7 => ?_) (fun c7 => ?_)
        · refine zz_lload_n (x := p0) rfl zd_14_26_71 ?_
          refine zz_l2i (by omega) zd_14_26_72 (fun v8 hv8 av8 ev8 => ?_)
          exact zz_iret zd_14_26_73 rfl (Nat.zero_le _) (Nat.zero_le _) ⟨_, _, rfl, rfl, by omega⟩
        · refine zz_lload_n (x := p0) rfl zd_14_26_61 ?_
          refine zz_lconst (z := 0) (by decide) zd_14_26_62 ?_
          refine zz_lcmp (by omega) (by omega) zd_14_26_63 (fun v9 hv9 => ?_)
          refine zz_if_ge (by omega) zd_14_26_64 (fun c10 => ?_) (fun c10 => ?_)
          · refine zz_lload_n (x := p0) rfl zd_14_26_71 ?_
            refine zz_l2i (by omega) zd_14_26_72 (fun v11 hv11 av11 ev11 => ?_)
            exact zz_iret zd_14_26_73 rfl (Nat.zero_le _) (Nat.zero_le _) ⟨_, _, rfl, rfl, by omega⟩
          · refine zz_iconst zd_14_26_67 ?_
            refine zz_goto zd_14_26_68 ?_
            exact zz_iret zd_14_26_73 rfl (Nat.zero_le _) (Nat.zero_le _) ⟨_, _, rfl, rfl, by omega⟩
      · refine zz_ldc2 (z := 127) zq_Md_256 (by decide) zd_14_26_47 ?_
        refine zz_goto zd_14_26_50 ?_
        refine zz_lstore_n [some (zi p0), some (zi p1), some (zi v1), some (zl 127), none] zd_14_26_54 (by decide) rfl ?_
        refine zz_iload_n (x := p1) rfl zd_14_26_55 ?_
        refine zz_bipush (by decide) zd_14_26_56 ?_
        refine zz_icmp_le (by omega) (by omega) zd_14_26_58 (fun c12 => ?_) (fun c12 => ?_)
        · refine zz_lload_n (x := 127) rfl zd_14_26_71 ?_
          refine zz_l2i (by omega) zd_14_26_72 (fun v13 hv13 av13 ev13 => ?_)
          exact zz_iret zd_14_26_73 rfl (Nat.zero_le _) (Nat.zero_le _) ⟨_, _, rfl, rfl, by omega⟩
        · refine zz_lload_n (x := 127) rfl zd_14_26_61 ?_
          refine zz_lconst (z := 0) (by decide) zd_14_26_62 ?_
          refine zz_lcmp (by omega) (by omega) zd_14_26_63 (fun v14 hv14 => ?_)
          refine zz_if_ge (by omega) zd_14_26_64 (fun c15 => ?_) (fun c15 => ?_)
          · refine zz_lload_n (x := 127) rfl zd_14_26_71 ?_
            refine zz_l2i (by omega) zd_14_26_72 (fun v16 hv16 av16 ev16 => ?_)
            exact zz_iret zd_14_26_73 rfl (Nat.zero_le _) (Nat.zero_le _) ⟨_, _, rfl, rfl, by omega⟩
          · refine zz_iconst zd_14_26_67 ?_
            refine zz_goto zd_14_26_68 ?_
            exact zz_iret zd_14_26_73 rfl (Nat.zero_le _) (Nat.zero_le _) ⟨_, _, rfl, rfl, by omega⟩
    · refine zz_ldc2 (z := (-128)) zq_Md_254 (by decide) zd_14_26_33 ?_
      refine zz_goto zd_14_26_36 ?_
      refine zz_lstore_n [some (zi p0), some (zi p1), some (zi v1), some (zl (-128)), none] zd_14_26_54 (by decide) rfl ?_
      refine zz_iload_n (x := p1) rfl zd_14_26_55 ?_
      refine zz_bipush (by decide) zd_14_26_56 ?_
      refine zz_icmp_le (by omega) (by omega) zd_14_26_58 (fun c17 => ?_) (fun c17 => ?_)
      · refine zz_lload_n (x := (-128)) rfl zd_14_26_71 ?_
        refine zz_l2i (by omega) zd_14_26_72 (fun v18 hv18 av18 ev18 => ?_)
        exact zz_iret zd_14_26_73 rfl (Nat.zero_le _) (Nat.zero_le _) ⟨_, _, rfl, rfl, by omega⟩
      · refine zz_lload_n (x := (-128)) rfl zd_14_26_61 ?_
        refine zz_lconst (z := 0) (by decide) zd_14_26_62 ?_
        refine zz_lcmp (by omega) (by omega) zd_14_26_63 (fun v19 hv19 => ?_)
        refine zz_if_ge (by omega) zd_14_26_64 (fun c20 => ?_) (fun c20 => ?_)
        · refine zz_lload_n (x := (-128)) rfl zd_14_26_71 ?_
          refine zz_l2i (by omega) zd_14_26_72 (fun v21 hv21 av21 ev21 => ?_)
          exact zz_iret zd_14_26_73 rfl (Nat.zero_le _) (Nat.zero_le _) ⟨_, _, rfl, rfl, by omega⟩
        · refine zz_iconst zd_14_26_67 ?_
          refine zz_goto zd_14_26_68 ?_
          exact zz_iret zd_14_26_73 rfl (Nat.zero_le _) (Nat.zero_le _) ⟨_, _, rfl, rfl, by omega⟩
  · refine zz_iload_n (x := p0) rfl zd_14_26_9 ?_
    refine zz_i2l (by omega) zd_14_26_10 ?_
    refine zz_lconst (z := 1) (by decide) zd_14_26_11 ?_
    refine zz_iload_n (x := v1) rfl zd_14_26_12 ?_
    refine zz_iconst zd_14_26_13 ?_
    refine zz_isub zd_14_26_14 ?_
    refine zz_lshl zd_14_26_15 (fun v22 hv22 ev22 => ?_)
    refine zz_ladd zd_14_26_16 ?_
    refine zz_nrml (fun v23 hv23 ev23 => ?_)
    refine zz_iload_n (x := v1) rfl zd_14_26_17 ?_
    refine zz_lshr zd_14_26_18 (fun v24 hv24 ev24 => ?_)
    refine zz_goto zd_14_26_19 ?_
    refine zz_lstore_n [some (zi p0), some (zi p1), some (zi v1), some (zl v24), none] zd_14_26_24 (by decide) rfl ?_
    refine zz_lload_n (x := v24) rfl zd_14_26_25 ?_
    refine zz_ldc2 (z := (-128)) zq_Md_254 (by decide) zd_14_26_26 ?_
    refine zz_lcmp (by omega) (by omega) zd_14_26_29 (fun v25 hv25 => ?_)
    refine zz_if_ge (by omega) zd_14_26_30 (fun c26 => ?_) (fun c26 => ?_)
    · refine zz_lload_n (x := v24) rfl zd_14_26_39 ?_
      refine zz_ldc2 (z := 127) zq_Md_256 (by decide) zd_14_26_40 ?_
      refine zz_lcmp (by omega) (by omega) zd_14_26_43 (fun v27 hv27 => ?_)
      refine zz_if_le (by omega) zd_14_26_44 (fun c28 => ?_) (fun c28 => ?_)
      · refine zz_lload_n (x := v24) rfl zd_14_26_53 ?_
        refine zz_lstore_n [some (zi p0), some (zi p1), some (zi v1), some (zl v24), none] zd_14_26_54 (by decide) rfl ?_
        refine zz_iload_n (x := p1) rfl zd_14_26_55 ?_
        refine zz_bipush (by decide) zd_14_26_56 ?_
        refine zz_icmp_le (by omega) (by omega) zd_14_26_58 (fun c29 => ?_) (fun c29 => ?_)
        · refine zz_lload_n (x := v24) rfl zd_14_26_71 ?_
          refine zz_l2i (by omega) zd_14_26_72 (fun v30 hv30 av30 ev30 => ?_)
          exact zz_iret zd_14_26_73 rfl (Nat.zero_le _) (Nat.zero_le _) ⟨_, _, rfl, rfl, by omega⟩
        · refine zz_lload_n (x := v24) rfl zd_14_26_61 ?_
          refine zz_lconst (z := 0) (by decide) zd_14_26_62 ?_
          refine zz_lcmp (by omega) (by omega) zd_14_26_63 (fun v31 hv31 => ?_)
          refine zz_if_ge (by omega) zd_14_26_64 (fun c32 => ?_) (fun c32 => ?_)
          · refine zz_lload_n (x := v24) rfl zd_14_26_71 ?_
            refine zz_l2i (by omega) zd_14_26_72 (fun v33 hv33 av33 ev33 => ?_)
            exact zz_iret zd_14_26_73 rfl (Nat.zero_le _) (Nat.zero_le _) ⟨_, _, rfl, rfl, by omega⟩
          · refine zz_iconst zd_14_26_67 ?_
            refine zz_goto zd_14_26_68 ?_
            exact zz_iret zd_14_26_73 rfl (Nat.zero_le _) (Nat.zero_le _) ⟨_, _, rfl, rfl, by omega⟩
      · refine zz_ldc2 (z := 127) zq_Md_256 (by decide) zd_14_26_47 ?_
        refine zz_goto zd_14_26_50 ?_
        refine zz_lstore_n [some (zi p0), some (zi p1), some (zi v1), some (zl 127), none] zd_14_26_54 (by decide) rfl ?_
        refine zz_iload_n (x := p1) rfl zd_14_26_55 ?_
        refine zz_bipush (by decide) zd_14_26_56 ?_
        refine zz_icmp_le (by omega) (by omega) zd_14_26_58 (fun c34 => ?_) (fun c34 => ?_)
        · refine zz_lload_n (x := 127) rfl zd_14_26_71 ?_
          refine zz_l2i (by omega) zd_14_26_72 (fun v35 hv35 av35 ev35 => ?_)
          exact zz_iret zd_14_26_73 rfl (Nat.zero_le _) (Nat.zero_le _) ⟨_, _, rfl, rfl, by omega⟩
        · refine zz_lload_n (x := 127) rfl zd_14_26_61 ?_
          refine zz_lconst (z := 0) (by decide) zd_14_26_62 ?_
          refine zz_lcmp (by omega) (by omega) zd_14_26_63 (fun v36 hv36 => ?_)
          refine zz_if_ge (by omega) zd_14_26_64 (fun c37 => ?_) (fun c37 => ?_)
          · refine zz_lload_n (x := 127) rfl zd_14_26_71 ?_
            refine zz_l2i (by omega) zd_14_26_72 (fun v38 hv38 av38 ev38 => ?_)
            exact zz_iret zd_14_26_73 rfl (Nat.zero_le _) (Nat.zero_le _) ⟨_, _, rfl, rfl, by omega⟩
          · refine zz_iconst zd_14_26_67 ?_
            refine zz_goto zd_14_26_68 ?_
            exact zz_iret zd_14_26_73 rfl (Nat.zero_le _) (Nat.zero_le _) ⟨_, _, rfl, rfl, by omega⟩
    · refine zz_ldc2 (z := (-128)) zq_Md_254 (by decide) zd_14_26_33 ?_
      refine zz_goto zd_14_26_36 ?_
      refine zz_lstore_n [some (zi p0), some (zi p1), some (zi v1), some (zl (-128)), none] zd_14_26_54 (by decide) rfl ?_
      refine zz_iload_n (x := p1) rfl zd_14_26_55 ?_
      refine zz_bipush (by decide) zd_14_26_56 ?_
      refine zz_icmp_le (by omega) (by omega) zd_14_26_58 (fun c39 => ?_) (fun c39 => ?_)
      · refine zz_lload_n (x := (-128)) rfl zd_14_26_71 ?_
        refine zz_l2i (by omega) zd_14_26_72 (fun v40 hv40 av40 ev40 => ?_)
        exact zz_iret zd_14_26_73 rfl (Nat.zero_le _) (Nat.zero_le _) ⟨_, _, rfl, rfl, by omega⟩
      · refine zz_lload_n (x := (-128)) rfl zd_14_26_61 ?_
        refine zz_lconst (z := 0) (by decide) zd_14_26_62 ?_
        refine zz_lcmp (by omega) (by omega) zd_14_26_63 (fun v41 hv41 => ?_)
        refine zz_if_ge (by omega) zd_14_26_64 (fun c42 => ?_) (fun c42 => ?_)
        · refine zz_lload_n (x := (-128)) rfl zd_14_26_71 ?_
          refine zz_l2i (by omega) zd_14_26_72 (fun v43 hv43 av43 ev43 => ?_)
          exact zz_iret zd_14_26_73 rfl (Nat.zero_le _) (Nat.zero_le _) ⟨_, _, rfl, rfl, by omega⟩
        · refine zz_iconst zd_14_26_67 ?_
          refine zz_goto zd_14_26_68 ?_
          exact zz_iret zd_14_26_73 rfl (Nat.zero_le _) (Nat.zero_le _) ⟨_, _, rfl, rfl, by omega⟩
abbrev zy_intAt_14_27 : mm_Y := (⟨"TensorForgeModel", "intAt", "(I)I"⟩, prog_14_method_27_code, 2, (some .int))
theorem zyw_intAt_14_27 : mm_Yw zy_intAt_14_27 1 := ⟨mm_tb_1 1983 (by decide +kernel) rfl, mm_tb_1 12 (by decide +kernel) rfl, ⟨by decide, by decide⟩, by decide +kernel⟩
theorem zg_14_27_0 : zq_at zy_intAt_14_27.2.1 0 42 ∧ zq_at zy_intAt_14_27.2.1 1 180 ∧ zq_at zy_intAt_14_27.2.1 2 0 ∧ zq_at zy_intAt_14_27.2.1 3 13 ∧ zq_at zy_intAt_14_27.2.1 4 27 ∧ zq_at zy_intAt_14_27.2.1 5 46 ∧ zq_at zy_intAt_14_27.2.1 6 17 ∧ zq_at zy_intAt_14_27.2.1 7 0 ∧ zq_at zy_intAt_14_27.2.1 8 255 ∧ zq_at zy_intAt_14_27.2.1 9 126 ∧ zq_at zy_intAt_14_27.2.1 10 42 ∧ zq_at zy_intAt_14_27.2.1 11 180 ∧ zq_at zy_intAt_14_27.2.1 12 0 ∧ zq_at zy_intAt_14_27.2.1 13 13 ∧ zq_at zy_intAt_14_27.2.1 14 27 ∧ zq_at zy_intAt_14_27.2.1 15 4 ∧ zq_at zy_intAt_14_27.2.1 16 96 ∧ zq_at zy_intAt_14_27.2.1 17 46 ∧ zq_at zy_intAt_14_27.2.1 18 17 ∧ zq_at zy_intAt_14_27.2.1 19 0 ∧ zq_at zy_intAt_14_27.2.1 20 255 ∧ zq_at zy_intAt_14_27.2.1 21 126 ∧ zq_at zy_intAt_14_27.2.1 22 16 ∧ zq_at zy_intAt_14_27.2.1 23 8 := by decide +kernel
theorem zd_14_27_0 : zz_D zy_intAt_14_27 0 (.aload_n 0) 1 1 := ⟨zq_42 zg_14_27_0.1, rfl⟩
theorem zd_14_27_1 : zz_D zy_intAt_14_27 1 (.getfield 13) 3 4 := ⟨zq_180 zg_14_27_0.2.1 zg_14_27_0.2.2.1 zg_14_27_0.2.2.2.1 rfl, rfl⟩
theorem zd_14_27_4 : zz_D zy_intAt_14_27 4 (.iload_n 1) 1 5 := ⟨zq_27 zg_14_27_0.2.2.2.2.1, rfl⟩
theorem zd_14_27_5 : zz_D zy_intAt_14_27 5 (.iaload) 1 6 := ⟨zq_46 zg_14_27_0.2.2.2.2.2.1, rfl⟩
theorem zd_14_27_6 : zz_D zy_intAt_14_27 6 (.sipush 255) 3 9 := ⟨zq_17 zg_14_27_0.2.2.2.2.2.2.1 zg_14_27_0.2.2.2.2.2.2.2.1 zg_14_27_0.2.2.2.2.2.2.2.2.1 (by decide), rfl⟩
theorem zd_14_27_9 : zz_D zy_intAt_14_27 9 (.iand) 1 10 := ⟨zq_126 zg_14_27_0.2.2.2.2.2.2.2.2.2.1, rfl⟩
theorem zd_14_27_10 : zz_D zy_intAt_14_27 10 (.aload_n 0) 1 11 := ⟨zq_42 zg_14_27_0.2.2.2.2.2.2.2.2.2.2.1, rfl⟩
theorem zd_14_27_11 : zz_D zy_intAt_14_27 11 (.getfield 13) 3 14 := ⟨zq_180 zg_14_27_0.2.2.2.2.2.2.2.2.2.2.2.1 zg_14_27_0.2.2.2.2.2.2.2.2.2.2.2.2.1 zg_14_27_0.2.2.2.2.2.2.2.2.2.2.2.2.2.1 rfl, rfl⟩
theorem zd_14_27_14 : zz_D zy_intAt_14_27 14 (.iload_n 1) 1 15 := ⟨zq_27 zg_14_27_0.2.2.2.2.2.2.2.2.2.2.2.2.2.2.1, rfl⟩
theorem zd_14_27_15 : zz_D zy_intAt_14_27 15 (.iconst 1) 1 16 := ⟨zq_4 zg_14_27_0.2.2.2.2.2.2.2.2.2.2.2.2.2.2.2.1, rfl⟩
theorem zd_14_27_16 : zz_D zy_intAt_14_27 16 (.iadd) 1 17 := ⟨zq_96 zg_14_27_0.2.2.2.2.2.2.2.2.2.2.2.2.2.2.2.2.1, rfl⟩
theorem zd_14_27_17 : zz_D zy_intAt_14_27 17 (.iaload) 1 18 := ⟨zq_46 zg_14_27_0.2.2.2.2.2.2.2.2.2.2.2.2.2.2.2.2.2.1, rfl⟩
theorem zd_14_27_18 : zz_D zy_intAt_14_27 18 (.sipush 255) 3 21 := ⟨zq_17 zg_14_27_0.2.2.2.2.2.2.2.2.2.2.2.2.2.2.2.2.2.2.1 zg_14_27_0.2.2.2.2.2.2.2.2.2.2.2.2.2.2.2.2.2.2.2.1 zg_14_27_0.2.2.2.2.2.2.2.2.2.2.2.2.2.2.2.2.2.2.2.2.1 (by decide), rfl⟩
theorem zd_14_27_21 : zz_D zy_intAt_14_27 21 (.iand) 1 22 := ⟨zq_126 zg_14_27_0.2.2.2.2.2.2.2.2.2.2.2.2.2.2.2.2.2.2.2.2.2.1, rfl⟩
theorem zd_14_27_22 : zz_D zy_intAt_14_27 22 (.bipush 8) 2 24 := ⟨zq_16 zg_14_27_0.2.2.2.2.2.2.2.2.2.2.2.2.2.2.2.2.2.2.2.2.2.2.1 zg_14_27_0.2.2.2.2.2.2.2.2.2.2.2.2.2.2.2.2.2.2.2.2.2.2.2 (by decide), rfl⟩
theorem zg_14_27_24 : zq_at zy_intAt_14_27.2.1 24 120 ∧ zq_at zy_intAt_14_27.2.1 25 128 ∧ zq_at zy_intAt_14_27.2.1 26 42 ∧ zq_at zy_intAt_14_27.2.1 27 180 ∧ zq_at zy_intAt_14_27.2.1 28 0 ∧ zq_at zy_intAt_14_27.2.1 29 13 ∧ zq_at zy_intAt_14_27.2.1 30 27 ∧ zq_at zy_intAt_14_27.2.1 31 5 ∧ zq_at zy_intAt_14_27.2.1 32 96 ∧ zq_at zy_intAt_14_27.2.1 33 46 ∧ zq_at zy_intAt_14_27.2.1 34 17 ∧ zq_at zy_intAt_14_27.2.1 35 0 ∧ zq_at zy_intAt_14_27.2.1 36 255 ∧ zq_at zy_intAt_14_27.2.1 37 126 ∧ zq_at zy_intAt_14_27.2.1 38 16 ∧ zq_at zy_intAt_14_27.2.1 39 16 ∧ zq_at zy_intAt_14_27.2.1 40 120 ∧ zq_at zy_intAt_14_27.2.1 41 128 ∧ zq_at zy_intAt_14_27.2.1 42 42 ∧ zq_at zy_intAt_14_27.2.1 43 180 ∧ zq_at zy_intAt_14_27.2.1 44 0 ∧ zq_at zy_intAt_14_27.2.1 45 13 ∧ zq_at zy_intAt_14_27.2.1 46 27 ∧ zq_at zy_intAt_14_27.2.1 47 6 := by decide +kernel
theorem zd_14_27_24 : zz_D zy_intAt_14_27 24 (.ishl) 1 25 := ⟨zq_120 zg_14_27_24.1, rfl⟩
theorem zd_14_27_25 : zz_D zy_intAt_14_27 25 (.ior) 1 26 := ⟨zq_128 zg_14_27_24.2.1, rfl⟩
theorem zd_14_27_26 : zz_D zy_intAt_14_27 26 (.aload_n 0) 1 27 := ⟨zq_42 zg_14_27_24.2.2.1, rfl⟩
theorem zd_14_27_27 : zz_D zy_intAt_14_27 27 (.getfield 13) 3 30 := ⟨zq_180 zg_14_27_24.2.2.2.1 zg_14_27_24.2.2.2.2.1 zg_14_27_24.2.2.2.2.2.1 rfl, rfl⟩
theorem zd_14_27_30 : zz_D zy_intAt_14_27 30 (.iload_n 1) 1 31 := ⟨zq_27 zg_14_27_24.2.2.2.2.2.2.1, rfl⟩
theorem zd_14_27_31 : zz_D zy_intAt_14_27 31 (.iconst 2) 1 32 := ⟨zq_5 zg_14_27_24.2.2.2.2.2.2.2.1, rfl⟩
theorem zd_14_27_32 : zz_D zy_intAt_14_27 32 (.iadd) 1 33 := ⟨zq_96 zg_14_27_24.2.2.2.2.2.2.2.2.1, rfl⟩
theorem zd_14_27_33 : zz_D zy_intAt_14_27 33 (.iaload) 1 34 := ⟨zq_46 zg_14_27_24.2.2.2.2.2.2.2.2.2.1, rfl⟩
theorem zd_14_27_34 : zz_D zy_intAt_14_27 34 (.sipush 255) 3 37 := ⟨zq_17 zg_14_27_24.2.2.2.2.2.2.2.2.2.2.1 zg_14_27_24.2.2.2.2.2.2.2.2.2.2.2.1 zg_14_27_24.2.2.2.2.2.2.2.2.2.2.2.2.1 (by decide), rfl⟩
theorem zd_14_27_37 : zz_D zy_intAt_14_27 37 (.iand) 1 38 := ⟨zq_126 zg_14_27_24.2.2.2.2.2.2.2.2.2.2.2.2.2.1, rfl⟩
theorem zd_14_27_38 : zz_D zy_intAt_14_27 38 (.bipush 16) 2 40 := ⟨zq_16 zg_14_27_24.2.2.2.2.2.2.2.2.2.2.2.2.2.2.1 zg_14_27_24.2.2.2.2.2.2.2.2.2.2.2.2.2.2.2.1 (by decide), rfl⟩
theorem zd_14_27_40 : zz_D zy_intAt_14_27 40 (.ishl) 1 41 := ⟨zq_120 zg_14_27_24.2.2.2.2.2.2.2.2.2.2.2.2.2.2.2.2.1, rfl⟩
theorem zd_14_27_41 : zz_D zy_intAt_14_27 41 (.ior) 1 42 := ⟨zq_128 zg_14_27_24.2.2.2.2.2.2.2.2.2.2.2.2.2.2.2.2.2.1, rfl⟩
theorem zd_14_27_42 : zz_D zy_intAt_14_27 42 (.aload_n 0) 1 43 := ⟨zq_42 zg_14_27_24.2.2.2.2.2.2.2.2.2.2.2.2.2.2.2.2.2.2.1, rfl⟩
theorem zd_14_27_43 : zz_D zy_intAt_14_27 43 (.getfield 13) 3 46 := ⟨zq_180 zg_14_27_24.2.2.2.2.2.2.2.2.2.2.2.2.2.2.2.2.2.2.2.1 zg_14_27_24.2.2.2.2.2.2.2.2.2.2.2.2.2.2.2.2.2.2.2.2.1 zg_14_27_24.2.2.2.2.2.2.2.2.2.2.2.2.2.2.2.2.2.2.2.2.2.1 rfl, rfl⟩
theorem zd_14_27_46 : zz_D zy_intAt_14_27 46 (.iload_n 1) 1 47 := ⟨zq_27 zg_14_27_24.2.2.2.2.2.2.2.2.2.2.2.2.2.2.2.2.2.2.2.2.2.2.1, rfl⟩
theorem zd_14_27_47 : zz_D zy_intAt_14_27 47 (.iconst 3) 1 48 := ⟨zq_6 zg_14_27_24.2.2.2.2.2.2.2.2.2.2.2.2.2.2.2.2.2.2.2.2.2.2.2, rfl⟩
theorem zg_14_27_48 : zq_at zy_intAt_14_27.2.1 48 96 ∧ zq_at zy_intAt_14_27.2.1 49 46 ∧ zq_at zy_intAt_14_27.2.1 50 16 ∧ zq_at zy_intAt_14_27.2.1 51 24 ∧ zq_at zy_intAt_14_27.2.1 52 120 ∧ zq_at zy_intAt_14_27.2.1 53 128 ∧ zq_at zy_intAt_14_27.2.1 54 172 := by decide +kernel
theorem zd_14_27_48 : zz_D zy_intAt_14_27 48 (.iadd) 1 49 := ⟨zq_96 zg_14_27_48.1, rfl⟩
theorem zd_14_27_49 : zz_D zy_intAt_14_27 49 (.iaload) 1 50 := ⟨zq_46 zg_14_27_48.2.1, rfl⟩
theorem zd_14_27_50 : zz_D zy_intAt_14_27 50 (.bipush 24) 2 52 := ⟨zq_16 zg_14_27_48.2.2.1 zg_14_27_48.2.2.2.1 (by decide), rfl⟩
theorem zd_14_27_52 : zz_D zy_intAt_14_27 52 (.ishl) 1 53 := ⟨zq_120 zg_14_27_48.2.2.2.2.1, rfl⟩
theorem zd_14_27_53 : zz_D zy_intAt_14_27 53 (.ior) 1 54 := ⟨zq_128 zg_14_27_48.2.2.2.2.2.1, rfl⟩
theorem zd_14_27_54 : zz_D zy_intAt_14_27 54 (.ireturn) 1 55 := ⟨zq_172 zg_14_27_48.2.2.2.2.2.2, rfl⟩
-- TensorForgeModel intAt (I)I
abbrev zr_intAt_14_27 : Room := { frames := 0, cells := 0, slots := 0, locals := 0 }
def zp_intAt_14_27 (p0 : Int) (S0 : zz_S) : Int → zz_S → Prop := fun r S => S0 = S ∧ ((-2147483648) ≤ r ∧ r ≤ 2147483647)
theorem zc_intAt_14_27 {g : mm_G} {l : Launch} (p0 : Int) (S0 : zz_S) (n : Nat) (hn : zz_end ≤ n) (G_S0 : zz_G S0) (hp0 : 0 ≤ p0 ∧ p0 ≤ 4092) : mm_Met g l zy_intAt_14_27 zr_intAt_14_27 [.ref 1079, zi p0] (zz_M S0 n) n (zz_QI n (zp_intAt_14_27 p0 S0)) := by
  refine zz_enter (by decide) (Nat.le_of_ble_eq_true rfl) (zz_less (ls1 := [some (.ref 1079), some (zi p0)]) ⟨rfl, ⟨rfl, trivial⟩⟩ ?_)
  refine zz_aload_n (x := 1079) rfl zd_14_27_0 ?_
  refine zz_getr (kd := 0) (z := 1080) zd_14_27_1 zf_Md_13 zT_1079 rfl (zz_ltn hn rfl) (zz_G.eq G_S0 1079 2 1080 rfl rfl) (by decide) 1080 rfl ?_
  refine zz_iload_n (x := p0) rfl zd_14_27_4 ?_
  have g1 := zz_G.r G_S0 1080 p0.toNat (-2147483648) 2147483647 rfl rfl
  refine zz_iald (z := S0 1080 p0.toNat) zd_14_27_5 zT_1080 rfl (zz_ltn hn rfl) (by decide) (by omega) rfl ?_
  refine zz_sipush (by decide) zd_14_27_6 ?_
  refine zz_iand (by omega) (by omega) zd_14_27_9 (fun v2 hv2 av2 bv2 ev2 => ?_)
  refine zz_aload_n (x := 1079) rfl zd_14_27_10 ?_
  refine zz_getr (kd := 0) (z := 1080) zd_14_27_11 zf_Md_13 zT_1079 rfl (zz_ltn hn rfl) (zz_G.eq G_S0 1079 2 1080 rfl rfl) (by decide) 1080 rfl ?_
  refine zz_iload_n (x := p0) rfl zd_14_27_14 ?_
  refine zz_iconst zd_14_27_15 ?_
  refine zz_iadd zd_14_27_16 ?_
  have g3 := zz_G.r G_S0 1080 ((p0 + 1).toNat) (-2147483648) 2147483647 rfl rfl
  refine zz_iald (z := S0 1080 ((p0 + 1).toNat)) zd_14_27_17 zT_1080 rfl (zz_ltn hn rfl) (by decide) (by omega) rfl ?_
  refine zz_sipush (by decide) zd_14_27_18 ?_
  refine zz_iand (by omega) (by omega) zd_14_27_21 (fun v4 hv4 av4 bv4 ev4 => ?_)
  refine zz_bipush (by decide) zd_14_27_22 ?_
  refine zz_ishl zd_14_27_24 (fun v5 hv5 ev5 => ?_)
  refine zz_ior (by omega) (by omega) zd_14_27_25 (fun v6 hv6 av6 ev6 => ?_)
  refine zz_aload_n (x := 1079) rfl zd_14_27_26 ?_
  refine zz_getr (kd := 0) (z := 1080) zd_14_27_27 zf_Md_13 zT_1079 rfl (zz_ltn hn rfl) (zz_G.eq G_S0 1079 2 1080 rfl rfl) (by decide) 1080 rfl ?_
  refine zz_iload_n (x := p0) rfl zd_14_27_30 ?_
  refine zz_iconst zd_14_27_31 ?_
  refine zz_iadd zd_14_27_32 ?_
  have g7 := zz_G.r G_S0 1080 ((p0 + 2).toNat) (-2147483648) 2147483647 rfl rfl
  refine zz_iald (z := S0 1080 ((p0 + 2).toNat)) zd_14_27_33 zT_1080 rfl (zz_ltn hn rfl) (by decide) (by omega) rfl ?_
  refine zz_sipush (by decide) zd_14_27_34 ?_
  refine zz_iand (by omega) (by omega) zd_14_27_37 (fun v8 hv8 av8 bv8 ev8 => ?_)
  refine zz_bipush (by decide) zd_14_27_38 ?_
  refine zz_ishl zd_14_27_40 (fun v9 hv9 ev9 => ?_)
  refine zz_ior (by omega) (by omega) zd_14_27_41 (fun v10 hv10 av10 ev10 => ?_)
  refine zz_aload_n (x := 1079) rfl zd_14_27_42 ?_
  refine zz_getr (kd := 0) (z := 1080) zd_14_27_43 zf_Md_13 zT_1079 rfl (zz_ltn hn rfl) (zz_G.eq G_S0 1079 2 1080 rfl rfl) (by decide) 1080 rfl ?_
  refine zz_iload_n (x := p0) rfl zd_14_27_46 ?_
  refine zz_iconst zd_14_27_47 ?_
  refine zz_iadd zd_14_27_48 ?_
  have g11 := zz_G.r G_S0 1080 ((p0 + 3).toNat) (-2147483648) 2147483647 rfl rfl
  refine zz_iald (z := S0 1080 ((p0 + 3).toNat)) zd_14_27_49 zT_1080 rfl (zz_ltn hn rfl) (by decide) (by omega) rfl ?_
  refine zz_bipush (by decide) zd_14_27_50 ?_
  refine zz_ishl zd_14_27_52 (fun v12 hv12 ev12 => ?_)
  refine zz_ior (by omega) (by omega) zd_14_27_53 (fun v13 hv13 av13 ev13 => ?_)
  exact zz_iret zd_14_27_54 rfl (Nat.zero_le _) (Nat.zero_le _) ⟨_, _, rfl, rfl, by omega⟩
abbrev zy_doPlace_14_28 : mm_Y := (⟨"TensorForgeModel", "doPlace", "(II)V"⟩, prog_14_method_28_code, 8, none)
theorem zyw_doPlace_14_28 : mm_Yw zy_doPlace_14_28 2 := ⟨mm_tb_1 1979 (by decide +kernel) rfl, mm_tb_1 12 (by decide +kernel) rfl, ⟨by decide, by decide⟩, by decide +kernel⟩
theorem zd_14_28_61 : zz_W zy_doPlace_14_28 61 350 1 8 #[47, 63, 79, 89, 108, 219, 308, 334] := ⟨47, by decide +kernel⟩
theorem zk_Md_258 : mm_Vl "TensorForgeModel" 258 11 1 zy_intAt_14_27 := ⟨zyw_intAt_14_27, (R_Md, F_Md, 69), rfl, mm_tb_1 1980 (by decide +kernel) rfl, mm_tb_1 1982 (by decide +kernel) rfl, mm_tb_s 107 (by decide +kernel) rfl⟩
theorem zk_Md_261 : mm_Sl "TensorForgeModel" 261 2 zy_narrowed_14_26 := ⟨zyw_narrowed_14_26, mm_tb_1 1984 (by decide +kernel) rfl, mm_tb_1 1985 (by decide +kernel) rfl⟩
theorem zg_14_28_0 : zq_at zy_doPlace_14_28.2.1 0 42 ∧ zq_at zy_doPlace_14_28.2.1 1 180 ∧ zq_at zy_doPlace_14_28.2.1 2 0 ∧ zq_at zy_doPlace_14_28.2.1 3 36 ∧ zq_at zy_doPlace_14_28.2.1 4 16 ∧ zq_at zy_doPlace_14_28.2.1 5 8 ∧ zq_at zy_doPlace_14_28.2.1 6 46 ∧ zq_at zy_doPlace_14_28.2.1 7 27 ∧ zq_at zy_doPlace_14_28.2.1 8 42 ∧ zq_at zy_doPlace_14_28.2.1 9 180 ∧ zq_at zy_doPlace_14_28.2.1 10 0 ∧ zq_at zy_doPlace_14_28.2.1 11 7 ∧ zq_at zy_doPlace_14_28.2.1 12 104 ∧ zq_at zy_doPlace_14_28.2.1 13 96 ∧ zq_at zy_doPlace_14_28.2.1 14 28 ∧ zq_at zy_doPlace_14_28.2.1 15 96 ∧ zq_at zy_doPlace_14_28.2.1 16 62 ∧ zq_at zy_doPlace_14_28.2.1 17 42 ∧ zq_at zy_doPlace_14_28.2.1 18 180 ∧ zq_at zy_doPlace_14_28.2.1 19 0 ∧ zq_at zy_doPlace_14_28.2.1 20 36 ∧ zq_at zy_doPlace_14_28.2.1 21 16 ∧ zq_at zy_doPlace_14_28.2.1 22 9 ∧ zq_at zy_doPlace_14_28.2.1 23 46 := by decide +kernel
theorem zd_14_28_0 : zz_D zy_doPlace_14_28 0 (.aload_n 0) 1 1 := ⟨zq_42 zg_14_28_0.1, rfl⟩
theorem zd_14_28_1 : zz_D zy_doPlace_14_28 1 (.getfield 36) 3 4 := ⟨zq_180 zg_14_28_0.2.1 zg_14_28_0.2.2.1 zg_14_28_0.2.2.2.1 rfl, rfl⟩
theorem zd_14_28_4 : zz_D zy_doPlace_14_28 4 (.bipush 8) 2 6 := ⟨zq_16 zg_14_28_0.2.2.2.2.1 zg_14_28_0.2.2.2.2.2.1 (by decide), rfl⟩
theorem zd_14_28_6 : zz_D zy_doPlace_14_28 6 (.iaload) 1 7 := ⟨zq_46 zg_14_28_0.2.2.2.2.2.2.1, rfl⟩
theorem zd_14_28_7 : zz_D zy_doPlace_14_28 7 (.iload_n 1) 1 8 := ⟨zq_27 zg_14_28_0.2.2.2.2.2.2.2.1, rfl⟩
theorem zd_14_28_8 : zz_D zy_doPlace_14_28 8 (.aload_n 0) 1 9 := ⟨zq_42 zg_14_28_0.2.2.2.2.2.2.2.2.1, rfl⟩
theorem zd_14_28_9 : zz_D zy_doPlace_14_28 9 (.getfield 7) 3 12 := ⟨zq_180 zg_14_28_0.2.2.2.2.2.2.2.2.2.1 zg_14_28_0.2.2.2.2.2.2.2.2.2.2.1 zg_14_28_0.2.2.2.2.2.2.2.2.2.2.2.1 rfl, rfl⟩
theorem zd_14_28_12 : zz_D zy_doPlace_14_28 12 (.imul) 1 13 := ⟨zq_104 zg_14_28_0.2.2.2.2.2.2.2.2.2.2.2.2.1, rfl⟩
theorem zd_14_28_13 : zz_D zy_doPlace_14_28 13 (.iadd) 1 14 := ⟨zq_96 zg_14_28_0.2.2.2.2.2.2.2.2.2.2.2.2.2.1, rfl⟩
theorem zd_14_28_14 : zz_D zy_doPlace_14_28 14 (.iload_n 2) 1 15 := ⟨zq_28 zg_14_28_0.2.2.2.2.2.2.2.2.2.2.2.2.2.2.1, rfl⟩
theorem zd_14_28_15 : zz_D zy_doPlace_14_28 15 (.iadd) 1 16 := ⟨zq_96 zg_14_28_0.2.2.2.2.2.2.2.2.2.2.2.2.2.2.2.1, rfl⟩
theorem zd_14_28_16 : zz_D zy_doPlace_14_28 16 (.istore_n 3) 1 17 := ⟨zq_62 zg_14_28_0.2.2.2.2.2.2.2.2.2.2.2.2.2.2.2.2.1, rfl⟩
theorem zd_14_28_17 : zz_D zy_doPlace_14_28 17 (.aload_n 0) 1 18 := ⟨zq_42 zg_14_28_0.2.2.2.2.2.2.2.2.2.2.2.2.2.2.2.2.2.1, rfl⟩
theorem zd_14_28_18 : zz_D zy_doPlace_14_28 18 (.getfield 36) 3 21 := ⟨zq_180 zg_14_28_0.2.2.2.2.2.2.2.2.2.2.2.2.2.2.2.2.2.2.1 zg_14_28_0.2.2.2.2.2.2.2.2.2.2.2.2.2.2.2.2.2.2.2.1 zg_14_28_0.2.2.2.2.2.2.2.2.2.2.2.2.2.2.2.2.2.2.2.2.1 rfl, rfl⟩
theorem zd_14_28_21 : zz_D zy_doPlace_14_28 21 (.bipush 9) 2 23 := ⟨zq_16 zg_14_28_0.2.2.2.2.2.2.2.2.2.2.2.2.2.2.2.2.2.2.2.2.2.1 zg_14_28_0.2.2.2.2.2.2.2.2.2.2.2.2.2.2.2.2.2.2.2.2.2.2.1 (by decide), rfl⟩
theorem zd_14_28_23 : zz_D zy_doPlace_14_28 23 (.iaload) 1 24 := ⟨zq_46 zg_14_28_0.2.2.2.2.2.2.2.2.2.2.2.2.2.2.2.2.2.2.2.2.2.2.2, rfl⟩
theorem zg_14_28_24 : zq_at zy_doPlace_14_28.2.1 24 27 ∧ zq_at zy_doPlace_14_28.2.1 25 42 ∧ zq_at zy_doPlace_14_28.2.1 26 180 ∧ zq_at zy_doPlace_14_28.2.1 27 0 ∧ zq_at zy_doPlace_14_28.2.1 28 7 ∧ zq_at zy_doPlace_14_28.2.1 29 104 ∧ zq_at zy_doPlace_14_28.2.1 30 96 ∧ zq_at zy_doPlace_14_28.2.1 31 28 ∧ zq_at zy_doPlace_14_28.2.1 32 96 ∧ zq_at zy_doPlace_14_28.2.1 33 54 ∧ zq_at zy_doPlace_14_28.2.1 34 4 ∧ zq_at zy_doPlace_14_28.2.1 35 42 ∧ zq_at zy_doPlace_14_28.2.1 36 180 ∧ zq_at zy_doPlace_14_28.2.1 37 0 ∧ zq_at zy_doPlace_14_28.2.1 38 36 ∧ zq_at zy_doPlace_14_28.2.1 39 8 ∧ zq_at zy_doPlace_14_28.2.1 40 46 ∧ zq_at zy_doPlace_14_28.2.1 41 27 ∧ zq_at zy_doPlace_14_28.2.1 42 42 ∧ zq_at zy_doPlace_14_28.2.1 43 180 ∧ zq_at zy_doPlace_14_28.2.1 44 0 ∧ zq_at zy_doPlace_14_28.2.1 45 36 ∧ zq_at zy_doPlace_14_28.2.1 46 16 ∧ zq_at zy_doPlace_14_28.2.1 47 10 := by decide +kernel
theorem zd_14_28_24 : zz_D zy_doPlace_14_28 24 (.iload_n 1) 1 25 := ⟨zq_27 zg_14_28_24.1, rfl⟩
theorem zd_14_28_25 : zz_D zy_doPlace_14_28 25 (.aload_n 0) 1 26 := ⟨zq_42 zg_14_28_24.2.1, rfl⟩
theorem zd_14_28_26 : zz_D zy_doPlace_14_28 26 (.getfield 7) 3 29 := ⟨zq_180 zg_14_28_24.2.2.1 zg_14_28_24.2.2.2.1 zg_14_28_24.2.2.2.2.1 rfl, rfl⟩
theorem zd_14_28_29 : zz_D zy_doPlace_14_28 29 (.imul) 1 30 := ⟨zq_104 zg_14_28_24.2.2.2.2.2.1, rfl⟩
theorem zd_14_28_30 : zz_D zy_doPlace_14_28 30 (.iadd) 1 31 := ⟨zq_96 zg_14_28_24.2.2.2.2.2.2.1, rfl⟩
theorem zd_14_28_31 : zz_D zy_doPlace_14_28 31 (.iload_n 2) 1 32 := ⟨zq_28 zg_14_28_24.2.2.2.2.2.2.2.1, rfl⟩
theorem zd_14_28_32 : zz_D zy_doPlace_14_28 32 (.iadd) 1 33 := ⟨zq_96 zg_14_28_24.2.2.2.2.2.2.2.2.1, rfl⟩
theorem zd_14_28_33 : zz_D zy_doPlace_14_28 33 (.istore 4) 2 35 := ⟨zq_54 zg_14_28_24.2.2.2.2.2.2.2.2.2.1 zg_14_28_24.2.2.2.2.2.2.2.2.2.2.1, rfl⟩
theorem zd_14_28_35 : zz_D zy_doPlace_14_28 35 (.aload_n 0) 1 36 := ⟨zq_42 zg_14_28_24.2.2.2.2.2.2.2.2.2.2.2.1, rfl⟩
theorem zd_14_28_36 : zz_D zy_doPlace_14_28 36 (.getfield 36) 3 39 := ⟨zq_180 zg_14_28_24.2.2.2.2.2.2.2.2.2.2.2.2.1 zg_14_28_24.2.2.2.2.2.2.2.2.2.2.2.2.2.1 zg_14_28_24.2.2.2.2.2.2.2.2.2.2.2.2.2.2.1 rfl, rfl⟩
theorem zd_14_28_39 : zz_D zy_doPlace_14_28 39 (.iconst 5) 1 40 := ⟨zq_8 zg_14_28_24.2.2.2.2.2.2.2.2.2.2.2.2.2.2.2.1, rfl⟩
theorem zd_14_28_40 : zz_D zy_doPlace_14_28 40 (.iaload) 1 41 := ⟨zq_46 zg_14_28_24.2.2.2.2.2.2.2.2.2.2.2.2.2.2.2.2.1, rfl⟩
theorem zd_14_28_41 : zz_D zy_doPlace_14_28 41 (.iload_n 1) 1 42 := ⟨zq_27 zg_14_28_24.2.2.2.2.2.2.2.2.2.2.2.2.2.2.2.2.2.1, rfl⟩
theorem zd_14_28_42 : zz_D zy_doPlace_14_28 42 (.aload_n 0) 1 43 := ⟨zq_42 zg_14_28_24.2.2.2.2.2.2.2.2.2.2.2.2.2.2.2.2.2.2.1, rfl⟩
theorem zd_14_28_43 : zz_D zy_doPlace_14_28 43 (.getfield 36) 3 46 := ⟨zq_180 zg_14_28_24.2.2.2.2.2.2.2.2.2.2.2.2.2.2.2.2.2.2.2.1 zg_14_28_24.2.2.2.2.2.2.2.2.2.2.2.2.2.2.2.2.2.2.2.2.1 zg_14_28_24.2.2.2.2.2.2.2.2.2.2.2.2.2.2.2.2.2.2.2.2.2.1 rfl, rfl⟩
theorem zd_14_28_46 : zz_D zy_doPlace_14_28 46 (.bipush 10) 2 48 := ⟨zq_16 zg_14_28_24.2.2.2.2.2.2.2.2.2.2.2.2.2.2.2.2.2.2.2.2.2.2.1 zg_14_28_24.2.2.2.2.2.2.2.2.2.2.2.2.2.2.2.2.2.2.2.2.2.2.2 (by decide), rfl⟩
theorem zg_14_28_48 : zq_at zy_doPlace_14_28.2.1 48 46 ∧ zq_at zy_doPlace_14_28.2.1 49 104 ∧ zq_at zy_doPlace_14_28.2.1 50 96 ∧ zq_at zy_doPlace_14_28.2.1 51 28 ∧ zq_at zy_doPlace_14_28.2.1 52 96 ∧ zq_at zy_doPlace_14_28.2.1 53 54 ∧ zq_at zy_doPlace_14_28.2.1 54 5 ∧ zq_at zy_doPlace_14_28.2.1 55 42 ∧ zq_at zy_doPlace_14_28.2.1 56 180 ∧ zq_at zy_doPlace_14_28.2.1 57 0 ∧ zq_at zy_doPlace_14_28.2.1 58 36 ∧ zq_at zy_doPlace_14_28.2.1 59 3 ∧ zq_at zy_doPlace_14_28.2.1 60 46 ∧ zq_at zy_doPlace_14_28.2.1 108 42 ∧ zq_at zy_doPlace_14_28.2.1 109 180 ∧ zq_at zy_doPlace_14_28.2.1 110 0 ∧ zq_at zy_doPlace_14_28.2.1 111 17 ∧ zq_at zy_doPlace_14_28.2.1 112 29 ∧ zq_at zy_doPlace_14_28.2.1 113 42 ∧ zq_at zy_doPlace_14_28.2.1 114 180 ∧ zq_at zy_doPlace_14_28.2.1 115 0 ∧ zq_at zy_doPlace_14_28.2.1 116 13 ∧ zq_at zy_doPlace_14_28.2.1 117 21 ∧ zq_at zy_doPlace_14_28.2.1 118 5 := by decide +kernel
theorem zd_14_28_48 : zz_D zy_doPlace_14_28 48 (.iaload) 1 49 := ⟨zq_46 zg_14_28_48.1, rfl⟩
theorem zd_14_28_49 : zz_D zy_doPlace_14_28 49 (.imul) 1 50 := ⟨zq_104 zg_14_28_48.2.1, rfl⟩
theorem zd_14_28_50 : zz_D zy_doPlace_14_28 50 (.iadd) 1 51 := ⟨zq_96 zg_14_28_48.2.2.1, rfl⟩
theorem zd_14_28_51 : zz_D zy_doPlace_14_28 51 (.iload_n 2) 1 52 := ⟨zq_28 zg_14_28_48.2.2.2.1, rfl⟩
theorem zd_14_28_52 : zz_D zy_doPlace_14_28 52 (.iadd) 1 53 := ⟨zq_96 zg_14_28_48.2.2.2.2.1, rfl⟩
theorem zd_14_28_53 : zz_D zy_doPlace_14_28 53 (.istore 5) 2 55 := ⟨zq_54 zg_14_28_48.2.2.2.2.2.1 zg_14_28_48.2.2.2.2.2.2.1, rfl⟩
theorem zd_14_28_55 : zz_D zy_doPlace_14_28 55 (.aload_n 0) 1 56 := ⟨zq_42 zg_14_28_48.2.2.2.2.2.2.2.1, rfl⟩
theorem zd_14_28_56 : zz_D zy_doPlace_14_28 56 (.getfield 36) 3 59 := ⟨zq_180 zg_14_28_48.2.2.2.2.2.2.2.2.1 zg_14_28_48.2.2.2.2.2.2.2.2.2.1 zg_14_28_48.2.2.2.2.2.2.2.2.2.2.1 rfl, rfl⟩
theorem zd_14_28_59 : zz_D zy_doPlace_14_28 59 (.iconst 0) 1 60 := ⟨zq_3 zg_14_28_48.2.2.2.2.2.2.2.2.2.2.2.1, rfl⟩
theorem zd_14_28_60 : zz_D zy_doPlace_14_28 60 (.iaload) 1 61 := ⟨zq_46 zg_14_28_48.2.2.2.2.2.2.2.2.2.2.2.2.1, rfl⟩
theorem zd_14_28_108 : zz_D zy_doPlace_14_28 108 (.aload_n 0) 1 109 := ⟨zq_42 zg_14_28_48.2.2.2.2.2.2.2.2.2.2.2.2.2.1, rfl⟩
theorem zd_14_28_109 : zz_D zy_doPlace_14_28 109 (.getfield 17) 3 112 := ⟨zq_180 zg_14_28_48.2.2.2.2.2.2.2.2.2.2.2.2.2.2.1 zg_14_28_48.2.2.2.2.2.2.2.2.2.2.2.2.2.2.2.1 zg_14_28_48.2.2.2.2.2.2.2.2.2.2.2.2.2.2.2.2.1 rfl, rfl⟩
theorem zd_14_28_112 : zz_D zy_doPlace_14_28 112 (.iload_n 3) 1 113 := ⟨zq_29 zg_14_28_48.2.2.2.2.2.2.2.2.2.2.2.2.2.2.2.2.2.1, rfl⟩
theorem zd_14_28_113 : zz_D zy_doPlace_14_28 113 (.aload_n 0) 1 114 := ⟨zq_42 zg_14_28_48.2.2.2.2.2.2.2.2.2.2.2.2.2.2.2.2.2.2.1, rfl⟩
theorem zd_14_28_114 : zz_D zy_doPlace_14_28 114 (.getfield 13) 3 117 := ⟨zq_180 zg_14_28_48.2.2.2.2.2.2.2.2.2.2.2.2.2.2.2.2.2.2.2.1 zg_14_28_48.2.2.2.2.2.2.2.2.2.2.2.2.2.2.2.2.2.2.2.2.1 zg_14_28_48.2.2.2.2.2.2.2.2.2.2.2.2.2.2.2.2.2.2.2.2.2.1 rfl, rfl⟩
theorem zd_14_28_117 : zz_D zy_doPlace_14_28 117 (.iload 5) 2 119 := ⟨zq_21 zg_14_28_48.2.2.2.2.2.2.2.2.2.2.2.2.2.2.2.2.2.2.2.2.2.2.1 zg_14_28_48.2.2.2.2.2.2.2.2.2.2.2.2.2.2.2.2.2.2.2.2.2.2.2, rfl⟩
theorem zg_14_28_119 : zq_at zy_doPlace_14_28.2.1 119 46 ∧ zq_at zy_doPlace_14_28.2.1 120 79 ∧ zq_at zy_doPlace_14_28.2.1 121 167 ∧ zq_at zy_doPlace_14_28.2.1 122 1 ∧ zq_at zy_doPlace_14_28.2.1 123 34 ∧ zq_at zy_doPlace_14_28.2.1 411 177 ∧ zq_at zy_doPlace_14_28.2.1 124 42 ∧ zq_at zy_doPlace_14_28.2.1 125 180 ∧ zq_at zy_doPlace_14_28.2.1 126 0 ∧ zq_at zy_doPlace_14_28.2.1 127 20 ∧ zq_at zy_doPlace_14_28.2.1 128 29 ∧ zq_at zy_doPlace_14_28.2.1 129 42 ∧ zq_at zy_doPlace_14_28.2.1 130 180 ∧ zq_at zy_doPlace_14_28.2.1 131 0 ∧ zq_at zy_doPlace_14_28.2.1 132 13 ∧ zq_at zy_doPlace_14_28.2.1 133 21 ∧ zq_at zy_doPlace_14_28.2.1 134 5 ∧ zq_at zy_doPlace_14_28.2.1 135 46 ∧ zq_at zy_doPlace_14_28.2.1 136 79 ∧ zq_at zy_doPlace_14_28.2.1 137 167 ∧ zq_at zy_doPlace_14_28.2.1 138 1 ∧ zq_at zy_doPlace_14_28.2.1 139 18 ∧ zq_at zy_doPlace_14_28.2.1 140 42 := by decide +kernel
theorem zd_14_28_119 : zz_D zy_doPlace_14_28 119 (.iaload) 1 120 := ⟨zq_46 zg_14_28_119.1, rfl⟩
theorem zd_14_28_120 : zz_D zy_doPlace_14_28 120 (.iastore) 1 121 := ⟨zq_79 zg_14_28_119.2.1, rfl⟩
theorem zd_14_28_121 : zz_B zy_doPlace_14_28 121 Instr.goto 411 124 := ⟨290, zq_167 zg_14_28_119.2.2.1 zg_14_28_119.2.2.2.1 zg_14_28_119.2.2.2.2.1 (by decide), rfl, rfl⟩
theorem zd_14_28_411 : zz_D zy_doPlace_14_28 411 (.return_) 1 412 := ⟨zq_177 zg_14_28_119.2.2.2.2.2.1, rfl⟩
theorem zd_14_28_124 : zz_D zy_doPlace_14_28 124 (.aload_n 0) 1 125 := ⟨zq_42 zg_14_28_119.2.2.2.2.2.2.1, rfl⟩
theorem zd_14_28_125 : zz_D zy_doPlace_14_28 125 (.getfield 20) 3 128 := ⟨zq_180 zg_14_28_119.2.2.2.2.2.2.2.1 zg_14_28_119.2.2.2.2.2.2.2.2.1 zg_14_28_119.2.2.2.2.2.2.2.2.2.1 rfl, rfl⟩
theorem zd_14_28_128 : zz_D zy_doPlace_14_28 128 (.iload_n 3) 1 129 := ⟨zq_29 zg_14_28_119.2.2.2.2.2.2.2.2.2.2.1, rfl⟩
theorem zd_14_28_129 : zz_D zy_doPlace_14_28 129 (.aload_n 0) 1 130 := ⟨zq_42 zg_14_28_119.2.2.2.2.2.2.2.2.2.2.2.1, rfl⟩
theorem zd_14_28_130 : zz_D zy_doPlace_14_28 130 (.getfield 13) 3 133 := ⟨zq_180 zg_14_28_119.2.2.2.2.2.2.2.2.2.2.2.2.1 zg_14_28_119.2.2.2.2.2.2.2.2.2.2.2.2.2.1 zg_14_28_119.2.2.2.2.2.2.2.2.2.2.2.2.2.2.1 rfl, rfl⟩
theorem zd_14_28_133 : zz_D zy_doPlace_14_28 133 (.iload 5) 2 135 := ⟨zq_21 zg_14_28_119.2.2.2.2.2.2.2.2.2.2.2.2.2.2.2.1 zg_14_28_119.2.2.2.2.2.2.2.2.2.2.2.2.2.2.2.2.1, rfl⟩
theorem zd_14_28_135 : zz_D zy_doPlace_14_28 135 (.iaload) 1 136 := ⟨zq_46 zg_14_28_119.2.2.2.2.2.2.2.2.2.2.2.2.2.2.2.2.2.1, rfl⟩
theorem zd_14_28_136 : zz_D zy_doPlace_14_28 136 (.iastore) 1 137 := ⟨zq_79 zg_14_28_119.2.2.2.2.2.2.2.2.2.2.2.2.2.2.2.2.2.2.1, rfl⟩
theorem zd_14_28_137 : zz_B zy_doPlace_14_28 137 Instr.goto 411 140 := ⟨274, zq_167 zg_14_28_119.2.2.2.2.2.2.2.2.2.2.2.2.2.2.2.2.2.2.2.1 zg_14_28_119.2.2.2.2.2.2.2.2.2.2.2.2.2.2.2.2.2.2.2.2.1 zg_14_28_119.2.2.2.2.2.2.2.2.2.2.2.2.2.2.2.2.2.2.2.2.2.1 (by decide), rfl, rfl⟩
theorem zd_14_28_140 : zz_D zy_doPlace_14_28 140 (.aload_n 0) 1 141 := ⟨zq_42 zg_14_28_119.2.2.2.2.2.2.2.2.2.2.2.2.2.2.2.2.2.2.2.2.2.2, rfl⟩
theorem zg_14_28_141 : zq_at zy_doPlace_14_28.2.1 141 180 ∧ zq_at zy_doPlace_14_28.2.1 142 0 ∧ zq_at zy_doPlace_14_28.2.1 143 17 ∧ zq_at zy_doPlace_14_28.2.1 144 29 ∧ zq_at zy_doPlace_14_28.2.1 145 3 ∧ zq_at zy_doPlace_14_28.2.1 146 79 ∧ zq_at zy_doPlace_14_28.2.1 147 167 ∧ zq_at zy_doPlace_14_28.2.1 148 1 ∧ zq_at zy_doPlace_14_28.2.1 149 8 ∧ zq_at zy_doPlace_14_28.2.1 150 42 ∧ zq_at zy_doPlace_14_28.2.1 151 180 ∧ zq_at zy_doPlace_14_28.2.1 152 0 ∧ zq_at zy_doPlace_14_28.2.1 153 23 ∧ zq_at zy_doPlace_14_28.2.1 154 29 ∧ zq_at zy_doPlace_14_28.2.1 155 42 ∧ zq_at zy_doPlace_14_28.2.1 156 21 ∧ zq_at zy_doPlace_14_28.2.1 157 5 ∧ zq_at zy_doPlace_14_28.2.1 158 6 ∧ zq_at zy_doPlace_14_28.2.1 159 28 ∧ zq_at zy_doPlace_14_28.2.1 160 104 ∧ zq_at zy_doPlace_14_28.2.1 161 96 ∧ zq_at zy_doPlace_14_28.2.1 162 182 ∧ zq_at zy_doPlace_14_28.2.1 163 1 ∧ zq_at zy_doPlace_14_28.2.1 164 2 := by decide +kernel
theorem zd_14_28_141 : zz_D zy_doPlace_14_28 141 (.getfield 17) 3 144 := ⟨zq_180 zg_14_28_141.1 zg_14_28_141.2.1 zg_14_28_141.2.2.1 rfl, rfl⟩
theorem zd_14_28_144 : zz_D zy_doPlace_14_28 144 (.iload_n 3) 1 145 := ⟨zq_29 zg_14_28_141.2.2.2.1, rfl⟩
theorem zd_14_28_145 : zz_D zy_doPlace_14_28 145 (.iconst 0) 1 146 := ⟨zq_3 zg_14_28_141.2.2.2.2.1, rfl⟩
theorem zd_14_28_146 : zz_D zy_doPlace_14_28 146 (.iastore) 1 147 := ⟨zq_79 zg_14_28_141.2.2.2.2.2.1, rfl⟩
theorem zd_14_28_147 : zz_B zy_doPlace_14_28 147 Instr.goto 411 150 := ⟨264, zq_167 zg_14_28_141.2.2.2.2.2.2.1 zg_14_28_141.2.2.2.2.2.2.2.1 zg_14_28_141.2.2.2.2.2.2.2.2.1 (by decide), rfl, rfl⟩
theorem zd_14_28_150 : zz_D zy_doPlace_14_28 150 (.aload_n 0) 1 151 := ⟨zq_42 zg_14_28_141.2.2.2.2.2.2.2.2.2.1, rfl⟩
theorem zd_14_28_151 : zz_D zy_doPlace_14_28 151 (.getfield 23) 3 154 := ⟨zq_180 zg_14_28_141.2.2.2.2.2.2.2.2.2.2.1 zg_14_28_141.2.2.2.2.2.2.2.2.2.2.2.1 zg_14_28_141.2.2.2.2.2.2.2.2.2.2.2.2.1 rfl, rfl⟩
theorem zd_14_28_154 : zz_D zy_doPlace_14_28 154 (.iload_n 3) 1 155 := ⟨zq_29 zg_14_28_141.2.2.2.2.2.2.2.2.2.2.2.2.2.1, rfl⟩
theorem zd_14_28_155 : zz_D zy_doPlace_14_28 155 (.aload_n 0) 1 156 := ⟨zq_42 zg_14_28_141.2.2.2.2.2.2.2.2.2.2.2.2.2.2.1, rfl⟩
theorem zd_14_28_156 : zz_D zy_doPlace_14_28 156 (.iload 5) 2 158 := ⟨zq_21 zg_14_28_141.2.2.2.2.2.2.2.2.2.2.2.2.2.2.2.1 zg_14_28_141.2.2.2.2.2.2.2.2.2.2.2.2.2.2.2.2.1, rfl⟩
theorem zd_14_28_158 : zz_D zy_doPlace_14_28 158 (.iconst 3) 1 159 := ⟨zq_6 zg_14_28_141.2.2.2.2.2.2.2.2.2.2.2.2.2.2.2.2.2.1, rfl⟩
theorem zd_14_28_159 : zz_D zy_doPlace_14_28 159 (.iload_n 2) 1 160 := ⟨zq_28 zg_14_28_141.2.2.2.2.2.2.2.2.2.2.2.2.2.2.2.2.2.2.1, rfl⟩
theorem zd_14_28_160 : zz_D zy_doPlace_14_28 160 (.imul) 1 161 := ⟨zq_104 zg_14_28_141.2.2.2.2.2.2.2.2.2.2.2.2.2.2.2.2.2.2.2.1, rfl⟩
theorem zd_14_28_161 : zz_D zy_doPlace_14_28 161 (.iadd) 1 162 := ⟨zq_96 zg_14_28_141.2.2.2.2.2.2.2.2.2.2.2.2.2.2.2.2.2.2.2.2.1, rfl⟩
theorem zd_14_28_162 : zz_D zy_doPlace_14_28 162 (.invokevirtual 258) 3 165 := ⟨zq_182 zg_14_28_141.2.2.2.2.2.2.2.2.2.2.2.2.2.2.2.2.2.2.2.2.2.1 zg_14_28_141.2.2.2.2.2.2.2.2.2.2.2.2.2.2.2.2.2.2.2.2.2.2.1 zg_14_28_141.2.2.2.2.2.2.2.2.2.2.2.2.2.2.2.2.2.2.2.2.2.2.2 rfl, rfl⟩
theorem zg_14_28_165 : zq_at zy_doPlace_14_28.2.1 165 79 ∧ zq_at zy_doPlace_14_28.2.1 166 167 ∧ zq_at zy_doPlace_14_28.2.1 167 0 ∧ zq_at zy_doPlace_14_28.2.1 168 245 ∧ zq_at zy_doPlace_14_28.2.1 169 42 ∧ zq_at zy_doPlace_14_28.2.1 170 180 ∧ zq_at zy_doPlace_14_28.2.1 171 0 ∧ zq_at zy_doPlace_14_28.2.1 172 36 ∧ zq_at zy_doPlace_14_28.2.1 173 16 ∧ zq_at zy_doPlace_14_28.2.1 174 11 ∧ zq_at zy_doPlace_14_28.2.1 175 46 ∧ zq_at zy_doPlace_14_28.2.1 176 5 ∧ zq_at zy_doPlace_14_28.2.1 177 112 ∧ zq_at zy_doPlace_14_28.2.1 178 4 ∧ zq_at zy_doPlace_14_28.2.1 179 160 ∧ zq_at zy_doPlace_14_28.2.1 180 0 ∧ zq_at zy_doPlace_14_28.2.1 181 13 ∧ zq_at zy_doPlace_14_28.2.1 192 3 ∧ zq_at zy_doPlace_14_28.2.1 193 54 ∧ zq_at zy_doPlace_14_28.2.1 194 6 ∧ zq_at zy_doPlace_14_28.2.1 195 3 ∧ zq_at zy_doPlace_14_28.2.1 196 54 ∧ zq_at zy_doPlace_14_28.2.1 197 7 ∧ zq_at zy_doPlace_14_28.2.1 182 42 := by decide +kernel
theorem zd_14_28_165 : zz_D zy_doPlace_14_28 165 (.iastore) 1 166 := ⟨zq_79 zg_14_28_165.1, rfl⟩
theorem zd_14_28_166 : zz_B zy_doPlace_14_28 166 Instr.goto 411 169 := ⟨245, zq_167 zg_14_28_165.2.1 zg_14_28_165.2.2.1 zg_14_28_165.2.2.2.1 (by decide), rfl, rfl⟩
theorem zd_14_28_169 : zz_D zy_doPlace_14_28 169 (.aload_n 0) 1 170 := ⟨zq_42 zg_14_28_165.2.2.2.2.1, rfl⟩
theorem zd_14_28_170 : zz_D zy_doPlace_14_28 170 (.getfield 36) 3 173 := ⟨zq_180 zg_14_28_165.2.2.2.2.2.1 zg_14_28_165.2.2.2.2.2.2.1 zg_14_28_165.2.2.2.2.2.2.2.1 rfl, rfl⟩
theorem zd_14_28_173 : zz_D zy_doPlace_14_28 173 (.bipush 11) 2 175 := ⟨zq_16 zg_14_28_165.2.2.2.2.2.2.2.2.1 zg_14_28_165.2.2.2.2.2.2.2.2.2.1 (by decide), rfl⟩
theorem zd_14_28_175 : zz_D zy_doPlace_14_28 175 (.iaload) 1 176 := ⟨zq_46 zg_14_28_165.2.2.2.2.2.2.2.2.2.2.1, rfl⟩
theorem zd_14_28_176 : zz_D zy_doPlace_14_28 176 (.iconst 2) 1 177 := ⟨zq_5 zg_14_28_165.2.2.2.2.2.2.2.2.2.2.2.1, rfl⟩
theorem zd_14_28_177 : zz_D zy_doPlace_14_28 177 (.irem) 1 178 := ⟨zq_112 zg_14_28_165.2.2.2.2.2.2.2.2.2.2.2.2.1, rfl⟩
theorem zd_14_28_178 : zz_D zy_doPlace_14_28 178 (.iconst 1) 1 179 := ⟨zq_4 zg_14_28_165.2.2.2.2.2.2.2.2.2.2.2.2.2.1, rfl⟩
theorem zd_14_28_179 : zz_B zy_doPlace_14_28 179 (Instr.if_icmp .ne) 192 182 := ⟨13, zq_160 zg_14_28_165.2.2.2.2.2.2.2.2.2.2.2.2.2.2.1 zg_14_28_165.2.2.2.2.2.2.2.2.2.2.2.2.2.2.2.1 zg_14_28_165.2.2.2.2.2.2.2.2.2.2.2.2.2.2.2.2.1 (by decide), rfl, rfl⟩
theorem zd_14_28_192 : zz_D zy_doPlace_14_28 192 (.iconst 0) 1 193 := ⟨zq_3 zg_14_28_165.2.2.2.2.2.2.2.2.2.2.2.2.2.2.2.2.2.1, rfl⟩
theorem zd_14_28_193 : zz_D zy_doPlace_14_28 193 (.istore 6) 2 195 := ⟨zq_54 zg_14_28_165.2.2.2.2.2.2.2.2.2.2.2.2.2.2.2.2.2.2.1 zg_14_28_165.2.2.2.2.2.2.2.2.2.2.2.2.2.2.2.2.2.2.2.1, rfl⟩
theorem zd_14_28_195 : zz_D zy_doPlace_14_28 195 (.iconst 0) 1 196 := ⟨zq_3 zg_14_28_165.2.2.2.2.2.2.2.2.2.2.2.2.2.2.2.2.2.2.2.2.1, rfl⟩
theorem zd_14_28_196 : zz_D zy_doPlace_14_28 196 (.istore 7) 2 198 := ⟨zq_54 zg_14_28_165.2.2.2.2.2.2.2.2.2.2.2.2.2.2.2.2.2.2.2.2.2.1 zg_14_28_165.2.2.2.2.2.2.2.2.2.2.2.2.2.2.2.2.2.2.2.2.2.2.1, rfl⟩
theorem zd_14_28_182 : zz_D zy_doPlace_14_28 182 (.aload_n 0) 1 183 := ⟨zq_42 zg_14_28_165.2.2.2.2.2.2.2.2.2.2.2.2.2.2.2.2.2.2.2.2.2.2.2, rfl⟩
theorem zg_14_28_183 : zq_at zy_doPlace_14_28.2.1 183 180 ∧ zq_at zy_doPlace_14_28.2.1 184 0 ∧ zq_at zy_doPlace_14_28.2.1 185 23 ∧ zq_at zy_doPlace_14_28.2.1 186 21 ∧ zq_at zy_doPlace_14_28.2.1 187 4 ∧ zq_at zy_doPlace_14_28.2.1 188 46 ∧ zq_at zy_doPlace_14_28.2.1 189 167 ∧ zq_at zy_doPlace_14_28.2.1 190 0 ∧ zq_at zy_doPlace_14_28.2.1 191 4 ∧ zq_at zy_doPlace_14_28.2.1 280 42 ∧ zq_at zy_doPlace_14_28.2.1 281 180 ∧ zq_at zy_doPlace_14_28.2.1 282 0 ∧ zq_at zy_doPlace_14_28.2.1 283 23 ∧ zq_at zy_doPlace_14_28.2.1 284 21 ∧ zq_at zy_doPlace_14_28.2.1 285 4 ∧ zq_at zy_doPlace_14_28.2.1 286 42 ∧ zq_at zy_doPlace_14_28.2.1 287 180 ∧ zq_at zy_doPlace_14_28.2.1 288 0 ∧ zq_at zy_doPlace_14_28.2.1 289 36 ∧ zq_at zy_doPlace_14_28.2.1 290 16 ∧ zq_at zy_doPlace_14_28.2.1 291 11 ∧ zq_at zy_doPlace_14_28.2.1 292 46 := by decide +kernel
theorem zd_14_28_183 : zz_D zy_doPlace_14_28 183 (.getfield 23) 3 186 := ⟨zq_180 zg_14_28_183.1 zg_14_28_183.2.1 zg_14_28_183.2.2.1 rfl, rfl⟩
theorem zd_14_28_186 : zz_D zy_doPlace_14_28 186 (.iload 4) 2 188 := ⟨zq_21 zg_14_28_183.2.2.2.1 zg_14_28_183.2.2.2.2.1, rfl⟩
theorem zd_14_28_188 : zz_D zy_doPlace_14_28 188 (.iaload) 1 189 := ⟨zq_46 zg_14_28_183.2.2.2.2.2.1, rfl⟩
theorem zd_14_28_189 : zz_B zy_doPlace_14_28 189 Instr.goto 193 192 := ⟨4, zq_167 zg_14_28_183.2.2.2.2.2.2.1 zg_14_28_183.2.2.2.2.2.2.2.1 zg_14_28_183.2.2.2.2.2.2.2.2.1 (by decide), rfl, rfl⟩
theorem zd_14_28_280 : zz_D zy_doPlace_14_28 280 (.aload_n 0) 1 281 := ⟨zq_42 zg_14_28_183.2.2.2.2.2.2.2.2.2.1, rfl⟩
theorem zd_14_28_281 : zz_D zy_doPlace_14_28 281 (.getfield 23) 3 284 := ⟨zq_180 zg_14_28_183.2.2.2.2.2.2.2.2.2.2.1 zg_14_28_183.2.2.2.2.2.2.2.2.2.2.2.1 zg_14_28_183.2.2.2.2.2.2.2.2.2.2.2.2.1 rfl, rfl⟩
theorem zd_14_28_284 : zz_D zy_doPlace_14_28 284 (.iload 4) 2 286 := ⟨zq_21 zg_14_28_183.2.2.2.2.2.2.2.2.2.2.2.2.2.1 zg_14_28_183.2.2.2.2.2.2.2.2.2.2.2.2.2.2.1, rfl⟩
theorem zd_14_28_286 : zz_D zy_doPlace_14_28 286 (.aload_n 0) 1 287 := ⟨zq_42 zg_14_28_183.2.2.2.2.2.2.2.2.2.2.2.2.2.2.2.1, rfl⟩
theorem zd_14_28_287 : zz_D zy_doPlace_14_28 287 (.getfield 36) 3 290 := ⟨zq_180 zg_14_28_183.2.2.2.2.2.2.2.2.2.2.2.2.2.2.2.2.1 zg_14_28_183.2.2.2.2.2.2.2.2.2.2.2.2.2.2.2.2.2.1 zg_14_28_183.2.2.2.2.2.2.2.2.2.2.2.2.2.2.2.2.2.2.1 rfl, rfl⟩
theorem zd_14_28_290 : zz_D zy_doPlace_14_28 290 (.bipush 11) 2 292 := ⟨zq_16 zg_14_28_183.2.2.2.2.2.2.2.2.2.2.2.2.2.2.2.2.2.2.2.1 zg_14_28_183.2.2.2.2.2.2.2.2.2.2.2.2.2.2.2.2.2.2.2.2.1 (by decide), rfl⟩
theorem zd_14_28_292 : zz_D zy_doPlace_14_28 292 (.iaload) 1 293 := ⟨zq_46 zg_14_28_183.2.2.2.2.2.2.2.2.2.2.2.2.2.2.2.2.2.2.2.2.2, rfl⟩
theorem zg_14_28_293 : zq_at zy_doPlace_14_28.2.1 293 154 ∧ zq_at zy_doPlace_14_28.2.1 294 0 ∧ zq_at zy_doPlace_14_28.2.1 295 12 ∧ zq_at zy_doPlace_14_28.2.1 305 42 ∧ zq_at zy_doPlace_14_28.2.1 306 180 ∧ zq_at zy_doPlace_14_28.2.1 307 0 ∧ zq_at zy_doPlace_14_28.2.1 308 36 ∧ zq_at zy_doPlace_14_28.2.1 309 16 ∧ zq_at zy_doPlace_14_28.2.1 310 11 ∧ zq_at zy_doPlace_14_28.2.1 311 46 ∧ zq_at zy_doPlace_14_28.2.1 312 4 ∧ zq_at zy_doPlace_14_28.2.1 313 160 ∧ zq_at zy_doPlace_14_28.2.1 314 0 ∧ zq_at zy_doPlace_14_28.2.1 315 20 ∧ zq_at zy_doPlace_14_28.2.1 333 42 ∧ zq_at zy_doPlace_14_28.2.1 334 180 ∧ zq_at zy_doPlace_14_28.2.1 335 0 ∧ zq_at zy_doPlace_14_28.2.1 336 23 ∧ zq_at zy_doPlace_14_28.2.1 337 21 ∧ zq_at zy_doPlace_14_28.2.1 338 4 ∧ zq_at zy_doPlace_14_28.2.1 339 46 ∧ zq_at zy_doPlace_14_28.2.1 340 42 := by decide +kernel
theorem zd_14_28_293 : zz_B zy_doPlace_14_28 293 (Instr.ifCond .ne) 305 296 := ⟨12, zq_154 zg_14_28_293.1 zg_14_28_293.2.1 zg_14_28_293.2.2.1 (by decide), rfl, rfl⟩
theorem zd_14_28_305 : zz_D zy_doPlace_14_28 305 (.aload_n 0) 1 306 := ⟨zq_42 zg_14_28_293.2.2.2.1, rfl⟩
theorem zd_14_28_306 : zz_D zy_doPlace_14_28 306 (.getfield 36) 3 309 := ⟨zq_180 zg_14_28_293.2.2.2.2.1 zg_14_28_293.2.2.2.2.2.1 zg_14_28_293.2.2.2.2.2.2.1 rfl, rfl⟩
theorem zd_14_28_309 : zz_D zy_doPlace_14_28 309 (.bipush 11) 2 311 := ⟨zq_16 zg_14_28_293.2.2.2.2.2.2.2.1 zg_14_28_293.2.2.2.2.2.2.2.2.1 (by decide), rfl⟩
theorem zd_14_28_311 : zz_D zy_doPlace_14_28 311 (.iaload) 1 312 := ⟨zq_46 zg_14_28_293.2.2.2.2.2.2.2.2.2.1, rfl⟩
theorem zd_14_28_312 : zz_D zy_doPlace_14_28 312 (.iconst 1) 1 313 := ⟨zq_4 zg_14_28_293.2.2.2.2.2.2.2.2.2.2.1, rfl⟩
theorem zd_14_28_313 : zz_B zy_doPlace_14_28 313 (Instr.if_icmp .ne) 333 316 := ⟨20, zq_160 zg_14_28_293.2.2.2.2.2.2.2.2.2.2.2.1 zg_14_28_293.2.2.2.2.2.2.2.2.2.2.2.2.1 zg_14_28_293.2.2.2.2.2.2.2.2.2.2.2.2.2.1 (by decide), rfl, rfl⟩
theorem zd_14_28_333 : zz_D zy_doPlace_14_28 333 (.aload_n 0) 1 334 := ⟨zq_42 zg_14_28_293.2.2.2.2.2.2.2.2.2.2.2.2.2.2.1, rfl⟩
theorem zd_14_28_334 : zz_D zy_doPlace_14_28 334 (.getfield 23) 3 337 := ⟨zq_180 zg_14_28_293.2.2.2.2.2.2.2.2.2.2.2.2.2.2.2.1 zg_14_28_293.2.2.2.2.2.2.2.2.2.2.2.2.2.2.2.2.1 zg_14_28_293.2.2.2.2.2.2.2.2.2.2.2.2.2.2.2.2.2.1 rfl, rfl⟩
theorem zd_14_28_337 : zz_D zy_doPlace_14_28 337 (.iload 4) 2 339 := ⟨zq_21 zg_14_28_293.2.2.2.2.2.2.2.2.2.2.2.2.2.2.2.2.2.2.1 zg_14_28_293.2.2.2.2.2.2.2.2.2.2.2.2.2.2.2.2.2.2.2.1, rfl⟩
theorem zd_14_28_339 : zz_D zy_doPlace_14_28 339 (.iaload) 1 340 := ⟨zq_46 zg_14_28_293.2.2.2.2.2.2.2.2.2.2.2.2.2.2.2.2.2.2.2.2.1, rfl⟩
theorem zd_14_28_340 : zz_D zy_doPlace_14_28 340 (.aload_n 0) 1 341 := ⟨zq_42 zg_14_28_293.2.2.2.2.2.2.2.2.2.2.2.2.2.2.2.2.2.2.2.2.2, rfl⟩
theorem zg_14_28_341 : zq_at zy_doPlace_14_28.2.1 341 180 ∧ zq_at zy_doPlace_14_28.2.1 342 0 ∧ zq_at zy_doPlace_14_28.2.1 343 17 ∧ zq_at zy_doPlace_14_28.2.1 344 29 ∧ zq_at zy_doPlace_14_28.2.1 345 46 ∧ zq_at zy_doPlace_14_28.2.1 346 164 ∧ zq_at zy_doPlace_14_28.2.1 347 0 ∧ zq_at zy_doPlace_14_28.2.1 348 13 ∧ zq_at zy_doPlace_14_28.2.1 359 42 ∧ zq_at zy_doPlace_14_28.2.1 360 180 ∧ zq_at zy_doPlace_14_28.2.1 361 0 ∧ zq_at zy_doPlace_14_28.2.1 362 17 ∧ zq_at zy_doPlace_14_28.2.1 363 29 ∧ zq_at zy_doPlace_14_28.2.1 364 46 ∧ zq_at zy_doPlace_14_28.2.1 365 79 ∧ zq_at zy_doPlace_14_28.2.1 366 167 ∧ zq_at zy_doPlace_14_28.2.1 367 0 ∧ zq_at zy_doPlace_14_28.2.1 368 45 ∧ zq_at zy_doPlace_14_28.2.1 349 42 ∧ zq_at zy_doPlace_14_28.2.1 350 180 ∧ zq_at zy_doPlace_14_28.2.1 351 0 ∧ zq_at zy_doPlace_14_28.2.1 352 23 ∧ zq_at zy_doPlace_14_28.2.1 353 21 ∧ zq_at zy_doPlace_14_28.2.1 354 4 := by decide +kernel
theorem zd_14_28_341 : zz_D zy_doPlace_14_28 341 (.getfield 17) 3 344 := ⟨zq_180 zg_14_28_341.1 zg_14_28_341.2.1 zg_14_28_341.2.2.1 rfl, rfl⟩
theorem zd_14_28_344 : zz_D zy_doPlace_14_28 344 (.iload_n 3) 1 345 := ⟨zq_29 zg_14_28_341.2.2.2.1, rfl⟩
theorem zd_14_28_345 : zz_D zy_doPlace_14_28 345 (.iaload) 1 346 := ⟨zq_46 zg_14_28_341.2.2.2.2.1, rfl⟩
theorem zd_14_28_346 : zz_B zy_doPlace_14_28 346 (Instr.if_icmp .le) 359 349 := ⟨13, zq_164 zg_14_28_341.2.2.2.2.2.1 zg_14_28_341.2.2.2.2.2.2.1 zg_14_28_341.2.2.2.2.2.2.2.1 (by decide), rfl, rfl⟩
theorem zd_14_28_359 : zz_D zy_doPlace_14_28 359 (.aload_n 0) 1 360 := ⟨zq_42 zg_14_28_341.2.2.2.2.2.2.2.2.1, rfl⟩
theorem zd_14_28_360 : zz_D zy_doPlace_14_28 360 (.getfield 17) 3 363 := ⟨zq_180 zg_14_28_341.2.2.2.2.2.2.2.2.2.1 zg_14_28_341.2.2.2.2.2.2.2.2.2.2.1 zg_14_28_341.2.2.2.2.2.2.2.2.2.2.2.1 rfl, rfl⟩
theorem zd_14_28_363 : zz_D zy_doPlace_14_28 363 (.iload_n 3) 1 364 := ⟨zq_29 zg_14_28_341.2.2.2.2.2.2.2.2.2.2.2.2.1, rfl⟩
theorem zd_14_28_364 : zz_D zy_doPlace_14_28 364 (.iaload) 1 365 := ⟨zq_46 zg_14_28_341.2.2.2.2.2.2.2.2.2.2.2.2.2.1, rfl⟩
theorem zd_14_28_365 : zz_D zy_doPlace_14_28 365 (.iastore) 1 366 := ⟨zq_79 zg_14_28_341.2.2.2.2.2.2.2.2.2.2.2.2.2.2.1, rfl⟩
theorem zd_14_28_366 : zz_B zy_doPlace_14_28 366 Instr.goto 411 369 := ⟨45, zq_167 zg_14_28_341.2.2.2.2.2.2.2.2.2.2.2.2.2.2.2.1 zg_14_28_341.2.2.2.2.2.2.2.2.2.2.2.2.2.2.2.2.1 zg_14_28_341.2.2.2.2.2.2.2.2.2.2.2.2.2.2.2.2.2.1 (by decide), rfl, rfl⟩
theorem zd_14_28_349 : zz_D zy_doPlace_14_28 349 (.aload_n 0) 1 350 := ⟨zq_42 zg_14_28_341.2.2.2.2.2.2.2.2.2.2.2.2.2.2.2.2.2.2.1, rfl⟩
theorem zd_14_28_350 : zz_D zy_doPlace_14_28 350 (.getfield 23) 3 353 := ⟨zq_180 zg_14_28_341.2.2.2.2.2.2.2.2.2.2.2.2.2.2.2.2.2.2.2.1 zg_14_28_341.2.2.2.2.2.2.2.2.2.2.2.2.2.2.2.2.2.2.2.2.1 zg_14_28_341.2.2.2.2.2.2.2.2.2.2.2.2.2.2.2.2.2.2.2.2.2.1 rfl, rfl⟩
theorem zd_14_28_353 : zz_D zy_doPlace_14_28 353 (.iload 4) 2 355 := ⟨zq_21 zg_14_28_341.2.2.2.2.2.2.2.2.2.2.2.2.2.2.2.2.2.2.2.2.2.2.1 zg_14_28_341.2.2.2.2.2.2.2.2.2.2.2.2.2.2.2.2.2.2.2.2.2.2.2, rfl⟩
theorem zg_14_28_355 : zq_at zy_doPlace_14_28.2.1 355 46 ∧ zq_at zy_doPlace_14_28.2.1 356 167 ∧ zq_at zy_doPlace_14_28.2.1 357 0 ∧ zq_at zy_doPlace_14_28.2.1 358 9 ∧ zq_at zy_doPlace_14_28.2.1 316 42 ∧ zq_at zy_doPlace_14_28.2.1 317 180 ∧ zq_at zy_doPlace_14_28.2.1 318 0 ∧ zq_at zy_doPlace_14_28.2.1 319 23 ∧ zq_at zy_doPlace_14_28.2.1 320 21 ∧ zq_at zy_doPlace_14_28.2.1 321 4 ∧ zq_at zy_doPlace_14_28.2.1 322 46 ∧ zq_at zy_doPlace_14_28.2.1 323 42 ∧ zq_at zy_doPlace_14_28.2.1 324 180 ∧ zq_at zy_doPlace_14_28.2.1 325 0 ∧ zq_at zy_doPlace_14_28.2.1 326 17 ∧ zq_at zy_doPlace_14_28.2.1 327 29 ∧ zq_at zy_doPlace_14_28.2.1 328 46 ∧ zq_at zy_doPlace_14_28.2.1 329 96 ∧ zq_at zy_doPlace_14_28.2.1 330 167 ∧ zq_at zy_doPlace_14_28.2.1 331 0 ∧ zq_at zy_doPlace_14_28.2.1 332 35 ∧ zq_at zy_doPlace_14_28.2.1 296 42 := by decide +kernel
theorem zd_14_28_355 : zz_D zy_doPlace_14_28 355 (.iaload) 1 356 := ⟨zq_46 zg_14_28_355.1, rfl⟩
theorem zd_14_28_356 : zz_B zy_doPlace_14_28 356 Instr.goto 365 359 := ⟨9, zq_167 zg_14_28_355.2.1 zg_14_28_355.2.2.1 zg_14_28_355.2.2.2.1 (by decide), rfl, rfl⟩
theorem zd_14_28_316 : zz_D zy_doPlace_14_28 316 (.aload_n 0) 1 317 := ⟨zq_42 zg_14_28_355.2.2.2.2.1, rfl⟩
theorem zd_14_28_317 : zz_D zy_doPlace_14_28 317 (.getfield 23) 3 320 := ⟨zq_180 zg_14_28_355.2.2.2.2.2.1 zg_14_28_355.2.2.2.2.2.2.1 zg_14_28_355.2.2.2.2.2.2.2.1 rfl, rfl⟩
theorem zd_14_28_320 : zz_D zy_doPlace_14_28 320 (.iload 4) 2 322 := ⟨zq_21 zg_14_28_355.2.2.2.2.2.2.2.2.1 zg_14_28_355.2.2.2.2.2.2.2.2.2.1, rfl⟩
theorem zd_14_28_322 : zz_D zy_doPlace_14_28 322 (.iaload) 1 323 := ⟨zq_46 zg_14_28_355.2.2.2.2.2.2.2.2.2.2.1, rfl⟩
theorem zd_14_28_323 : zz_D zy_doPlace_14_28 323 (.aload_n 0) 1 324 := ⟨zq_42 zg_14_28_355.2.2.2.2.2.2.2.2.2.2.2.1, rfl⟩
theorem zd_14_28_324 : zz_D zy_doPlace_14_28 324 (.getfield 17) 3 327 := ⟨zq_180 zg_14_28_355.2.2.2.2.2.2.2.2.2.2.2.2.1 zg_14_28_355.2.2.2.2.2.2.2.2.2.2.2.2.2.1 zg_14_28_355.2.2.2.2.2.2.2.2.2.2.2.2.2.2.1 rfl, rfl⟩
theorem zd_14_28_327 : zz_D zy_doPlace_14_28 327 (.iload_n 3) 1 328 := ⟨zq_29 zg_14_28_355.2.2.2.2.2.2.2.2.2.2.2.2.2.2.2.1, rfl⟩
theorem zd_14_28_328 : zz_D zy_doPlace_14_28 328 (.iaload) 1 329 := ⟨zq_46 zg_14_28_355.2.2.2.2.2.2.2.2.2.2.2.2.2.2.2.2.1, rfl⟩
theorem zd_14_28_329 : zz_D zy_doPlace_14_28 329 (.iadd) 1 330 := ⟨zq_96 zg_14_28_355.2.2.2.2.2.2.2.2.2.2.2.2.2.2.2.2.2.1, rfl⟩
theorem zd_14_28_330 : zz_B zy_doPlace_14_28 330 Instr.goto 365 333 := ⟨35, zq_167 zg_14_28_355.2.2.2.2.2.2.2.2.2.2.2.2.2.2.2.2.2.2.1 zg_14_28_355.2.2.2.2.2.2.2.2.2.2.2.2.2.2.2.2.2.2.2.1 zg_14_28_355.2.2.2.2.2.2.2.2.2.2.2.2.2.2.2.2.2.2.2.2.1 (by decide), rfl, rfl⟩
theorem zd_14_28_296 : zz_D zy_doPlace_14_28 296 (.aload_n 0) 1 297 := ⟨zq_42 zg_14_28_355.2.2.2.2.2.2.2.2.2.2.2.2.2.2.2.2.2.2.2.2.2, rfl⟩
theorem zg_14_28_297 : zq_at zy_doPlace_14_28.2.1 297 180 ∧ zq_at zy_doPlace_14_28.2.1 298 0 ∧ zq_at zy_doPlace_14_28.2.1 299 17 ∧ zq_at zy_doPlace_14_28.2.1 300 29 ∧ zq_at zy_doPlace_14_28.2.1 301 46 ∧ zq_at zy_doPlace_14_28.2.1 302 167 ∧ zq_at zy_doPlace_14_28.2.1 303 0 ∧ zq_at zy_doPlace_14_28.2.1 304 63 ∧ zq_at zy_doPlace_14_28.2.1 369 42 ∧ zq_at zy_doPlace_14_28.2.1 370 180 ∧ zq_at zy_doPlace_14_28.2.1 371 0 ∧ zq_at zy_doPlace_14_28.2.1 372 26 ∧ zq_at zy_doPlace_14_28.2.1 373 21 ∧ zq_at zy_doPlace_14_28.2.1 374 4 ∧ zq_at zy_doPlace_14_28.2.1 375 42 ∧ zq_at zy_doPlace_14_28.2.1 376 180 ∧ zq_at zy_doPlace_14_28.2.1 377 0 ∧ zq_at zy_doPlace_14_28.2.1 378 23 ∧ zq_at zy_doPlace_14_28.2.1 379 29 ∧ zq_at zy_doPlace_14_28.2.1 380 46 ∧ zq_at zy_doPlace_14_28.2.1 381 42 ∧ zq_at zy_doPlace_14_28.2.1 382 180 ∧ zq_at zy_doPlace_14_28.2.1 383 0 ∧ zq_at zy_doPlace_14_28.2.1 384 36 := by decide +kernel
theorem zd_14_28_297 : zz_D zy_doPlace_14_28 297 (.getfield 17) 3 300 := ⟨zq_180 zg_14_28_297.1 zg_14_28_297.2.1 zg_14_28_297.2.2.1 rfl, rfl⟩
theorem zd_14_28_300 : zz_D zy_doPlace_14_28 300 (.iload_n 3) 1 301 := ⟨zq_29 zg_14_28_297.2.2.2.1, rfl⟩
theorem zd_14_28_301 : zz_D zy_doPlace_14_28 301 (.iaload) 1 302 := ⟨zq_46 zg_14_28_297.2.2.2.2.1, rfl⟩
theorem zd_14_28_302 : zz_B zy_doPlace_14_28 302 Instr.goto 365 305 := ⟨63, zq_167 zg_14_28_297.2.2.2.2.2.1 zg_14_28_297.2.2.2.2.2.2.1 zg_14_28_297.2.2.2.2.2.2.2.1 (by decide), rfl, rfl⟩
theorem zd_14_28_369 : zz_D zy_doPlace_14_28 369 (.aload_n 0) 1 370 := ⟨zq_42 zg_14_28_297.2.2.2.2.2.2.2.2.1, rfl⟩
theorem zd_14_28_370 : zz_D zy_doPlace_14_28 370 (.getfield 26) 3 373 := ⟨zq_180 zg_14_28_297.2.2.2.2.2.2.2.2.2.1 zg_14_28_297.2.2.2.2.2.2.2.2.2.2.1 zg_14_28_297.2.2.2.2.2.2.2.2.2.2.2.1 rfl, rfl⟩
theorem zd_14_28_373 : zz_D zy_doPlace_14_28 373 (.iload 4) 2 375 := ⟨zq_21 zg_14_28_297.2.2.2.2.2.2.2.2.2.2.2.2.1 zg_14_28_297.2.2.2.2.2.2.2.2.2.2.2.2.2.1, rfl⟩
theorem zd_14_28_375 : zz_D zy_doPlace_14_28 375 (.aload_n 0) 1 376 := ⟨zq_42 zg_14_28_297.2.2.2.2.2.2.2.2.2.2.2.2.2.2.1, rfl⟩
theorem zd_14_28_376 : zz_D zy_doPlace_14_28 376 (.getfield 23) 3 379 := ⟨zq_180 zg_14_28_297.2.2.2.2.2.2.2.2.2.2.2.2.2.2.2.1 zg_14_28_297.2.2.2.2.2.2.2.2.2.2.2.2.2.2.2.2.1 zg_14_28_297.2.2.2.2.2.2.2.2.2.2.2.2.2.2.2.2.2.1 rfl, rfl⟩
theorem zd_14_28_379 : zz_D zy_doPlace_14_28 379 (.iload_n 3) 1 380 := ⟨zq_29 zg_14_28_297.2.2.2.2.2.2.2.2.2.2.2.2.2.2.2.2.2.2.1, rfl⟩
theorem zd_14_28_380 : zz_D zy_doPlace_14_28 380 (.iaload) 1 381 := ⟨zq_46 zg_14_28_297.2.2.2.2.2.2.2.2.2.2.2.2.2.2.2.2.2.2.2.1, rfl⟩
theorem zd_14_28_381 : zz_D zy_doPlace_14_28 381 (.aload_n 0) 1 382 := ⟨zq_42 zg_14_28_297.2.2.2.2.2.2.2.2.2.2.2.2.2.2.2.2.2.2.2.2.1, rfl⟩
theorem zd_14_28_382 : zz_D zy_doPlace_14_28 382 (.getfield 36) 3 385 := ⟨zq_180 zg_14_28_297.2.2.2.2.2.2.2.2.2.2.2.2.2.2.2.2.2.2.2.2.2.1 zg_14_28_297.2.2.2.2.2.2.2.2.2.2.2.2.2.2.2.2.2.2.2.2.2.2.1 zg_14_28_297.2.2.2.2.2.2.2.2.2.2.2.2.2.2.2.2.2.2.2.2.2.2.2 rfl, rfl⟩
theorem zg_14_28_385 : zq_at zy_doPlace_14_28.2.1 385 16 ∧ zq_at zy_doPlace_14_28.2.1 386 11 ∧ zq_at zy_doPlace_14_28.2.1 387 46 ∧ zq_at zy_doPlace_14_28.2.1 388 184 ∧ zq_at zy_doPlace_14_28.2.1 389 1 ∧ zq_at zy_doPlace_14_28.2.1 390 5 ∧ zq_at zy_doPlace_14_28.2.1 391 79 ∧ zq_at zy_doPlace_14_28.2.1 392 167 ∧ zq_at zy_doPlace_14_28.2.1 393 0 ∧ zq_at zy_doPlace_14_28.2.1 394 19 ∧ zq_at zy_doPlace_14_28.2.1 395 42 ∧ zq_at zy_doPlace_14_28.2.1 396 180 ∧ zq_at zy_doPlace_14_28.2.1 397 0 ∧ zq_at zy_doPlace_14_28.2.1 398 13 ∧ zq_at zy_doPlace_14_28.2.1 399 21 ∧ zq_at zy_doPlace_14_28.2.1 400 5 ∧ zq_at zy_doPlace_14_28.2.1 401 42 ∧ zq_at zy_doPlace_14_28.2.1 402 180 ∧ zq_at zy_doPlace_14_28.2.1 403 0 ∧ zq_at zy_doPlace_14_28.2.1 404 26 ∧ zq_at zy_doPlace_14_28.2.1 405 29 ∧ zq_at zy_doPlace_14_28.2.1 406 46 ∧ zq_at zy_doPlace_14_28.2.1 407 79 := by decide +kernel
theorem zd_14_28_385 : zz_D zy_doPlace_14_28 385 (.bipush 11) 2 387 := ⟨zq_16 zg_14_28_385.1 zg_14_28_385.2.1 (by decide), rfl⟩
theorem zd_14_28_387 : zz_D zy_doPlace_14_28 387 (.iaload) 1 388 := ⟨zq_46 zg_14_28_385.2.2.1, rfl⟩
theorem zd_14_28_388 : zz_D zy_doPlace_14_28 388 (.invokestatic 261) 3 391 := ⟨zq_184 zg_14_28_385.2.2.2.1 zg_14_28_385.2.2.2.2.1 zg_14_28_385.2.2.2.2.2.1 rfl, rfl⟩
theorem zd_14_28_391 : zz_D zy_doPlace_14_28 391 (.iastore) 1 392 := ⟨zq_79 zg_14_28_385.2.2.2.2.2.2.1, rfl⟩
theorem zd_14_28_392 : zz_B zy_doPlace_14_28 392 Instr.goto 411 395 := ⟨19, zq_167 zg_14_28_385.2.2.2.2.2.2.2.1 zg_14_28_385.2.2.2.2.2.2.2.2.1 zg_14_28_385.2.2.2.2.2.2.2.2.2.1 (by decide), rfl, rfl⟩
theorem zd_14_28_395 : zz_D zy_doPlace_14_28 395 (.aload_n 0) 1 396 := ⟨zq_42 zg_14_28_385.2.2.2.2.2.2.2.2.2.2.1, rfl⟩
theorem zd_14_28_396 : zz_D zy_doPlace_14_28 396 (.getfield 13) 3 399 := ⟨zq_180 zg_14_28_385.2.2.2.2.2.2.2.2.2.2.2.1 zg_14_28_385.2.2.2.2.2.2.2.2.2.2.2.2.1 zg_14_28_385.2.2.2.2.2.2.2.2.2.2.2.2.2.1 rfl, rfl⟩
theorem zd_14_28_399 : zz_D zy_doPlace_14_28 399 (.iload 5) 2 401 := ⟨zq_21 zg_14_28_385.2.2.2.2.2.2.2.2.2.2.2.2.2.2.1 zg_14_28_385.2.2.2.2.2.2.2.2.2.2.2.2.2.2.2.1, rfl⟩
theorem zd_14_28_401 : zz_D zy_doPlace_14_28 401 (.aload_n 0) 1 402 := ⟨zq_42 zg_14_28_385.2.2.2.2.2.2.2.2.2.2.2.2.2.2.2.2.1, rfl⟩
theorem zd_14_28_402 : zz_D zy_doPlace_14_28 402 (.getfield 26) 3 405 := ⟨zq_180 zg_14_28_385.2.2.2.2.2.2.2.2.2.2.2.2.2.2.2.2.2.1 zg_14_28_385.2.2.2.2.2.2.2.2.2.2.2.2.2.2.2.2.2.2.1 zg_14_28_385.2.2.2.2.2.2.2.2.2.2.2.2.2.2.2.2.2.2.2.1 rfl, rfl⟩
theorem zd_14_28_405 : zz_D zy_doPlace_14_28 405 (.iload_n 3) 1 406 := ⟨zq_29 zg_14_28_385.2.2.2.2.2.2.2.2.2.2.2.2.2.2.2.2.2.2.2.2.1, rfl⟩
theorem zd_14_28_406 : zz_D zy_doPlace_14_28 406 (.iaload) 1 407 := ⟨zq_46 zg_14_28_385.2.2.2.2.2.2.2.2.2.2.2.2.2.2.2.2.2.2.2.2.2.1, rfl⟩
theorem zd_14_28_407 : zz_D zy_doPlace_14_28 407 (.iastore) 1 408 := ⟨zq_79 zg_14_28_385.2.2.2.2.2.2.2.2.2.2.2.2.2.2.2.2.2.2.2.2.2.2, rfl⟩
theorem zg_14_28_408 : zq_at zy_doPlace_14_28.2.1 408 167 ∧ zq_at zy_doPlace_14_28.2.1 409 0 ∧ zq_at zy_doPlace_14_28.2.1 410 3 ∧ zq_at zy_doPlace_14_28.2.1 198 21 ∧ zq_at zy_doPlace_14_28.2.1 199 7 ∧ zq_at zy_doPlace_14_28.2.1 200 42 ∧ zq_at zy_doPlace_14_28.2.1 201 180 ∧ zq_at zy_doPlace_14_28.2.1 202 0 ∧ zq_at zy_doPlace_14_28.2.1 203 36 ∧ zq_at zy_doPlace_14_28.2.1 204 16 ∧ zq_at zy_doPlace_14_28.2.1 205 11 ∧ zq_at zy_doPlace_14_28.2.1 206 46 ∧ zq_at zy_doPlace_14_28.2.1 207 5 ∧ zq_at zy_doPlace_14_28.2.1 208 108 ∧ zq_at zy_doPlace_14_28.2.1 209 162 ∧ zq_at zy_doPlace_14_28.2.1 210 0 ∧ zq_at zy_doPlace_14_28.2.1 211 59 ∧ zq_at zy_doPlace_14_28.2.1 268 42 ∧ zq_at zy_doPlace_14_28.2.1 269 180 ∧ zq_at zy_doPlace_14_28.2.1 270 0 ∧ zq_at zy_doPlace_14_28.2.1 271 23 ∧ zq_at zy_doPlace_14_28.2.1 272 21 ∧ zq_at zy_doPlace_14_28.2.1 273 4 := by decide +kernel
theorem zd_14_28_408 : zz_B zy_doPlace_14_28 408 Instr.goto 411 411 := ⟨3, zq_167 zg_14_28_408.1 zg_14_28_408.2.1 zg_14_28_408.2.2.1 (by decide), rfl, rfl⟩
theorem zd_14_28_198 : zz_D zy_doPlace_14_28 198 (.iload 7) 2 200 := ⟨zq_21 zg_14_28_408.2.2.2.1 zg_14_28_408.2.2.2.2.1, rfl⟩
theorem zd_14_28_200 : zz_D zy_doPlace_14_28 200 (.aload_n 0) 1 201 := ⟨zq_42 zg_14_28_408.2.2.2.2.2.1, rfl⟩
theorem zd_14_28_201 : zz_D zy_doPlace_14_28 201 (.getfield 36) 3 204 := ⟨zq_180 zg_14_28_408.2.2.2.2.2.2.1 zg_14_28_408.2.2.2.2.2.2.2.1 zg_14_28_408.2.2.2.2.2.2.2.2.1 rfl, rfl⟩
theorem zd_14_28_204 : zz_D zy_doPlace_14_28 204 (.bipush 11) 2 206 := ⟨zq_16 zg_14_28_408.2.2.2.2.2.2.2.2.2.1 zg_14_28_408.2.2.2.2.2.2.2.2.2.2.1 (by decide), rfl⟩
theorem zd_14_28_206 : zz_D zy_doPlace_14_28 206 (.iaload) 1 207 := ⟨zq_46 zg_14_28_408.2.2.2.2.2.2.2.2.2.2.2.1, rfl⟩
theorem zd_14_28_207 : zz_D zy_doPlace_14_28 207 (.iconst 2) 1 208 := ⟨zq_5 zg_14_28_408.2.2.2.2.2.2.2.2.2.2.2.2.1, rfl⟩
theorem zd_14_28_208 : zz_D zy_doPlace_14_28 208 (.idiv) 1 209 := ⟨zq_108 zg_14_28_408.2.2.2.2.2.2.2.2.2.2.2.2.2.1, rfl⟩
theorem zd_14_28_209 : zz_B zy_doPlace_14_28 209 (Instr.if_icmp .ge) 268 212 := ⟨59, zq_162 zg_14_28_408.2.2.2.2.2.2.2.2.2.2.2.2.2.2.1 zg_14_28_408.2.2.2.2.2.2.2.2.2.2.2.2.2.2.2.1 zg_14_28_408.2.2.2.2.2.2.2.2.2.2.2.2.2.2.2.2.1 (by decide), rfl, rfl⟩
theorem zd_14_28_268 : zz_D zy_doPlace_14_28 268 (.aload_n 0) 1 269 := ⟨zq_42 zg_14_28_408.2.2.2.2.2.2.2.2.2.2.2.2.2.2.2.2.2.1, rfl⟩
theorem zd_14_28_269 : zz_D zy_doPlace_14_28 269 (.getfield 23) 3 272 := ⟨zq_180 zg_14_28_408.2.2.2.2.2.2.2.2.2.2.2.2.2.2.2.2.2.2.1 zg_14_28_408.2.2.2.2.2.2.2.2.2.2.2.2.2.2.2.2.2.2.2.1 zg_14_28_408.2.2.2.2.2.2.2.2.2.2.2.2.2.2.2.2.2.2.2.2.1 rfl, rfl⟩
theorem zd_14_28_272 : zz_D zy_doPlace_14_28 272 (.iload 4) 2 274 := ⟨zq_21 zg_14_28_408.2.2.2.2.2.2.2.2.2.2.2.2.2.2.2.2.2.2.2.2.2.1 zg_14_28_408.2.2.2.2.2.2.2.2.2.2.2.2.2.2.2.2.2.2.2.2.2.2, rfl⟩
theorem zg_14_28_274 : zq_at zy_doPlace_14_28.2.1 274 21 ∧ zq_at zy_doPlace_14_28.2.1 275 6 ∧ zq_at zy_doPlace_14_28.2.1 276 79 ∧ zq_at zy_doPlace_14_28.2.1 277 167 ∧ zq_at zy_doPlace_14_28.2.1 278 0 ∧ zq_at zy_doPlace_14_28.2.1 279 134 ∧ zq_at zy_doPlace_14_28.2.1 212 21 ∧ zq_at zy_doPlace_14_28.2.1 213 6 ∧ zq_at zy_doPlace_14_28.2.1 214 42 ∧ zq_at zy_doPlace_14_28.2.1 215 180 ∧ zq_at zy_doPlace_14_28.2.1 216 0 ∧ zq_at zy_doPlace_14_28.2.1 217 17 ∧ zq_at zy_doPlace_14_28.2.1 218 42 ∧ zq_at zy_doPlace_14_28.2.1 219 180 ∧ zq_at zy_doPlace_14_28.2.1 220 0 ∧ zq_at zy_doPlace_14_28.2.1 221 36 ∧ zq_at zy_doPlace_14_28.2.1 222 16 ∧ zq_at zy_doPlace_14_28.2.1 223 8 ∧ zq_at zy_doPlace_14_28.2.1 224 46 ∧ zq_at zy_doPlace_14_28.2.1 225 27 ∧ zq_at zy_doPlace_14_28.2.1 226 42 ∧ zq_at zy_doPlace_14_28.2.1 227 180 ∧ zq_at zy_doPlace_14_28.2.1 228 0 ∧ zq_at zy_doPlace_14_28.2.1 229 7 := by decide +kernel
theorem zd_14_28_274 : zz_D zy_doPlace_14_28 274 (.iload 6) 2 276 := ⟨zq_21 zg_14_28_274.1 zg_14_28_274.2.1, rfl⟩
theorem zd_14_28_276 : zz_D zy_doPlace_14_28 276 (.iastore) 1 277 := ⟨zq_79 zg_14_28_274.2.2.1, rfl⟩
theorem zd_14_28_277 : zz_B zy_doPlace_14_28 277 Instr.goto 411 280 := ⟨134, zq_167 zg_14_28_274.2.2.2.1 zg_14_28_274.2.2.2.2.1 zg_14_28_274.2.2.2.2.2.1 (by decide), rfl, rfl⟩
theorem zd_14_28_212 : zz_D zy_doPlace_14_28 212 (.iload 6) 2 214 := ⟨zq_21 zg_14_28_274.2.2.2.2.2.2.1 zg_14_28_274.2.2.2.2.2.2.2.1, rfl⟩
theorem zd_14_28_214 : zz_D zy_doPlace_14_28 214 (.aload_n 0) 1 215 := ⟨zq_42 zg_14_28_274.2.2.2.2.2.2.2.2.1, rfl⟩
theorem zd_14_28_215 : zz_D zy_doPlace_14_28 215 (.getfield 17) 3 218 := ⟨zq_180 zg_14_28_274.2.2.2.2.2.2.2.2.2.1 zg_14_28_274.2.2.2.2.2.2.2.2.2.2.1 zg_14_28_274.2.2.2.2.2.2.2.2.2.2.2.1 rfl, rfl⟩
theorem zd_14_28_218 : zz_D zy_doPlace_14_28 218 (.aload_n 0) 1 219 := ⟨zq_42 zg_14_28_274.2.2.2.2.2.2.2.2.2.2.2.2.1, rfl⟩
theorem zd_14_28_219 : zz_D zy_doPlace_14_28 219 (.getfield 36) 3 222 := ⟨zq_180 zg_14_28_274.2.2.2.2.2.2.2.2.2.2.2.2.2.1 zg_14_28_274.2.2.2.2.2.2.2.2.2.2.2.2.2.2.1 zg_14_28_274.2.2.2.2.2.2.2.2.2.2.2.2.2.2.2.1 rfl, rfl⟩
theorem zd_14_28_222 : zz_D zy_doPlace_14_28 222 (.bipush 8) 2 224 := ⟨zq_16 zg_14_28_274.2.2.2.2.2.2.2.2.2.2.2.2.2.2.2.2.1 zg_14_28_274.2.2.2.2.2.2.2.2.2.2.2.2.2.2.2.2.2.1 (by decide), rfl⟩
theorem zd_14_28_224 : zz_D zy_doPlace_14_28 224 (.iaload) 1 225 := ⟨zq_46 zg_14_28_274.2.2.2.2.2.2.2.2.2.2.2.2.2.2.2.2.2.2.1, rfl⟩
theorem zd_14_28_225 : zz_D zy_doPlace_14_28 225 (.iload_n 1) 1 226 := ⟨zq_27 zg_14_28_274.2.2.2.2.2.2.2.2.2.2.2.2.2.2.2.2.2.2.2.1, rfl⟩
theorem zd_14_28_226 : zz_D zy_doPlace_14_28 226 (.aload_n 0) 1 227 := ⟨zq_42 zg_14_28_274.2.2.2.2.2.2.2.2.2.2.2.2.2.2.2.2.2.2.2.2.1, rfl⟩
theorem zd_14_28_227 : zz_D zy_doPlace_14_28 227 (.getfield 7) 3 230 := ⟨zq_180 zg_14_28_274.2.2.2.2.2.2.2.2.2.2.2.2.2.2.2.2.2.2.2.2.2.1 zg_14_28_274.2.2.2.2.2.2.2.2.2.2.2.2.2.2.2.2.2.2.2.2.2.2.1 zg_14_28_274.2.2.2.2.2.2.2.2.2.2.2.2.2.2.2.2.2.2.2.2.2.2.2 rfl, rfl⟩
theorem zg_14_28_230 : zq_at zy_doPlace_14_28.2.1 230 104 ∧ zq_at zy_doPlace_14_28.2.1 231 96 ∧ zq_at zy_doPlace_14_28.2.1 232 21 ∧ zq_at zy_doPlace_14_28.2.1 233 7 ∧ zq_at zy_doPlace_14_28.2.1 234 96 ∧ zq_at zy_doPlace_14_28.2.1 235 46 ∧ zq_at zy_doPlace_14_28.2.1 236 42 ∧ zq_at zy_doPlace_14_28.2.1 237 180 ∧ zq_at zy_doPlace_14_28.2.1 238 0 ∧ zq_at zy_doPlace_14_28.2.1 239 20 ∧ zq_at zy_doPlace_14_28.2.1 240 42 ∧ zq_at zy_doPlace_14_28.2.1 241 180 ∧ zq_at zy_doPlace_14_28.2.1 242 0 ∧ zq_at zy_doPlace_14_28.2.1 243 36 ∧ zq_at zy_doPlace_14_28.2.1 244 16 ∧ zq_at zy_doPlace_14_28.2.1 245 10 ∧ zq_at zy_doPlace_14_28.2.1 246 46 ∧ zq_at zy_doPlace_14_28.2.1 247 21 ∧ zq_at zy_doPlace_14_28.2.1 248 7 ∧ zq_at zy_doPlace_14_28.2.1 249 42 ∧ zq_at zy_doPlace_14_28.2.1 250 180 ∧ zq_at zy_doPlace_14_28.2.1 251 0 ∧ zq_at zy_doPlace_14_28.2.1 252 7 ∧ zq_at zy_doPlace_14_28.2.1 253 104 := by decide +kernel
theorem zd_14_28_230 : zz_D zy_doPlace_14_28 230 (.imul) 1 231 := ⟨zq_104 zg_14_28_230.1, rfl⟩
theorem zd_14_28_231 : zz_D zy_doPlace_14_28 231 (.iadd) 1 232 := ⟨zq_96 zg_14_28_230.2.1, rfl⟩
theorem zd_14_28_232 : zz_D zy_doPlace_14_28 232 (.iload 7) 2 234 := ⟨zq_21 zg_14_28_230.2.2.1 zg_14_28_230.2.2.2.1, rfl⟩
theorem zd_14_28_234 : zz_D zy_doPlace_14_28 234 (.iadd) 1 235 := ⟨zq_96 zg_14_28_230.2.2.2.2.1, rfl⟩
theorem zd_14_28_235 : zz_D zy_doPlace_14_28 235 (.iaload) 1 236 := ⟨zq_46 zg_14_28_230.2.2.2.2.2.1, rfl⟩
theorem zd_14_28_236 : zz_D zy_doPlace_14_28 236 (.aload_n 0) 1 237 := ⟨zq_42 zg_14_28_230.2.2.2.2.2.2.1, rfl⟩
theorem zd_14_28_237 : zz_D zy_doPlace_14_28 237 (.getfield 20) 3 240 := ⟨zq_180 zg_14_28_230.2.2.2.2.2.2.2.1 zg_14_28_230.2.2.2.2.2.2.2.2.1 zg_14_28_230.2.2.2.2.2.2.2.2.2.1 rfl, rfl⟩
theorem zd_14_28_240 : zz_D zy_doPlace_14_28 240 (.aload_n 0) 1 241 := ⟨zq_42 zg_14_28_230.2.2.2.2.2.2.2.2.2.2.1, rfl⟩
theorem zd_14_28_241 : zz_D zy_doPlace_14_28 241 (.getfield 36) 3 244 := ⟨zq_180 zg_14_28_230.2.2.2.2.2.2.2.2.2.2.2.1 zg_14_28_230.2.2.2.2.2.2.2.2.2.2.2.2.1 zg_14_28_230.2.2.2.2.2.2.2.2.2.2.2.2.2.1 rfl, rfl⟩
theorem zd_14_28_244 : zz_D zy_doPlace_14_28 244 (.bipush 10) 2 246 := ⟨zq_16 zg_14_28_230.2.2.2.2.2.2.2.2.2.2.2.2.2.2.1 zg_14_28_230.2.2.2.2.2.2.2.2.2.2.2.2.2.2.2.1 (by decide), rfl⟩
theorem zd_14_28_246 : zz_D zy_doPlace_14_28 246 (.iaload) 1 247 := ⟨zq_46 zg_14_28_230.2.2.2.2.2.2.2.2.2.2.2.2.2.2.2.2.1, rfl⟩
theorem zd_14_28_247 : zz_D zy_doPlace_14_28 247 (.iload 7) 2 249 := ⟨zq_21 zg_14_28_230.2.2.2.2.2.2.2.2.2.2.2.2.2.2.2.2.2.1 zg_14_28_230.2.2.2.2.2.2.2.2.2.2.2.2.2.2.2.2.2.2.1, rfl⟩
theorem zd_14_28_249 : zz_D zy_doPlace_14_28 249 (.aload_n 0) 1 250 := ⟨zq_42 zg_14_28_230.2.2.2.2.2.2.2.2.2.2.2.2.2.2.2.2.2.2.2.1, rfl⟩
theorem zd_14_28_250 : zz_D zy_doPlace_14_28 250 (.getfield 7) 3 253 := ⟨zq_180 zg_14_28_230.2.2.2.2.2.2.2.2.2.2.2.2.2.2.2.2.2.2.2.2.1 zg_14_28_230.2.2.2.2.2.2.2.2.2.2.2.2.2.2.2.2.2.2.2.2.2.1 zg_14_28_230.2.2.2.2.2.2.2.2.2.2.2.2.2.2.2.2.2.2.2.2.2.2.1 rfl, rfl⟩
theorem zd_14_28_253 : zz_D zy_doPlace_14_28 253 (.imul) 1 254 := ⟨zq_104 zg_14_28_230.2.2.2.2.2.2.2.2.2.2.2.2.2.2.2.2.2.2.2.2.2.2.2, rfl⟩
theorem zg_14_28_254 : zq_at zy_doPlace_14_28.2.1 254 96 ∧ zq_at zy_doPlace_14_28.2.1 255 28 ∧ zq_at zy_doPlace_14_28.2.1 256 96 ∧ zq_at zy_doPlace_14_28.2.1 257 46 ∧ zq_at zy_doPlace_14_28.2.1 258 104 ∧ zq_at zy_doPlace_14_28.2.1 259 96 ∧ zq_at zy_doPlace_14_28.2.1 260 54 ∧ zq_at zy_doPlace_14_28.2.1 261 6 ∧ zq_at zy_doPlace_14_28.2.1 262 132 ∧ zq_at zy_doPlace_14_28.2.1 263 7 ∧ zq_at zy_doPlace_14_28.2.1 264 1 ∧ zq_at zy_doPlace_14_28.2.1 265 167 ∧ zq_at zy_doPlace_14_28.2.1 266 255 ∧ zq_at zy_doPlace_14_28.2.1 267 189 := by decide +kernel
theorem zd_14_28_254 : zz_D zy_doPlace_14_28 254 (.iadd) 1 255 := ⟨zq_96 zg_14_28_254.1, rfl⟩
theorem zd_14_28_255 : zz_D zy_doPlace_14_28 255 (.iload_n 2) 1 256 := ⟨zq_28 zg_14_28_254.2.1, rfl⟩
theorem zd_14_28_256 : zz_D zy_doPlace_14_28 256 (.iadd) 1 257 := ⟨zq_96 zg_14_28_254.2.2.1, rfl⟩
theorem zd_14_28_257 : zz_D zy_doPlace_14_28 257 (.iaload) 1 258 := ⟨zq_46 zg_14_28_254.2.2.2.1, rfl⟩
theorem zd_14_28_258 : zz_D zy_doPlace_14_28 258 (.imul) 1 259 := ⟨zq_104 zg_14_28_254.2.2.2.2.1, rfl⟩
theorem zd_14_28_259 : zz_D zy_doPlace_14_28 259 (.iadd) 1 260 := ⟨zq_96 zg_14_28_254.2.2.2.2.2.1, rfl⟩
theorem zd_14_28_260 : zz_D zy_doPlace_14_28 260 (.istore 6) 2 262 := ⟨zq_54 zg_14_28_254.2.2.2.2.2.2.1 zg_14_28_254.2.2.2.2.2.2.2.1, rfl⟩
theorem zd_14_28_262 : zz_D zy_doPlace_14_28 262 (.iinc 7 1) 3 265 := ⟨zq_132 zg_14_28_254.2.2.2.2.2.2.2.2.1 zg_14_28_254.2.2.2.2.2.2.2.2.2.1 zg_14_28_254.2.2.2.2.2.2.2.2.2.2.1 (by decide), rfl⟩
theorem zd_14_28_265 : zz_B zy_doPlace_14_28 265 Instr.goto 198 268 := ⟨(-67), zq_167 zg_14_28_254.2.2.2.2.2.2.2.2.2.2.2.1 zg_14_28_254.2.2.2.2.2.2.2.2.2.2.2.2.1 zg_14_28_254.2.2.2.2.2.2.2.2.2.2.2.2.2 (by decide), rfl, rfl⟩
-- TensorForgeModel doPlace (II)V
abbrev zr_doPlace_14_28 : Room := { frames := 1, cells := 0, slots := 0, locals := 18 }
def zp_doPlace_14_28 (p0 : Int) (p1 : Int) (S0 : zz_S) : zz_S → Prop := fun S => zz_G S ∧ zz_fr [] [1080, 1081, 1082, 1083, 1084] (fun _ _ => False) S0 S
theorem zb_doPlace_14_28_198 {g : mm_G} {l : Launch} (p0 : Int) (p1 : Int) (S0 : zz_S) (n : Nat) (hn : zz_end ≤ n) (G_S0 : zz_G S0) (hp0 : 0 ≤ p0 ∧ p0 ≤ 62) (hp1 : 0 ≤ p1 ∧ p1 ≤ 30) (hsS0_1087_0 : 0 ≤ S0 1087 0 ∧ S0 1087 0 ≤ 15) (hsS0_1087_1 : 0 ≤ S0 1087 1 ∧ S0 1087 1 ≤ 1) (hsS0_1087_2 : 0 ≤ S0 1087 2 ∧ S0 1087 2 ≤ 1) (hsS0_1087_3 : 0 ≤ S0 1087 3 ∧ S0 1087 3 ≤ 1) (hsS0_1087_4 : 0 ≤ S0 1087 4 ∧ S0 1087 4 ≤ 1) (hsS0_1087_5 : 0 ≤ S0 1087 5 ∧ S0 1087 5 ≤ 4095) (hsS0_1087_6 : 0 ≤ S0 1087 6 ∧ S0 1087 6 ≤ 63) (hsS0_1087_7 : 0 ≤ S0 1087 7 ∧ S0 1087 7 ≤ 31) (hsS0_1087_8 : 0 ≤ S0 1087 8 ∧ S0 1087 8 ≤ 511) (hsS0_1087_9 : 0 ≤ S0 1087 9 ∧ S0 1087 9 ≤ 511) (hsS0_1087_10 : 0 ≤ S0 1087 10 ∧ S0 1087 10 ≤ 1023) (hsS0_1087_11 : 0 ≤ S0 1087 11 ∧ S0 1087 11 ≤ 31) (hl : zz_lg (S0 1087 0) (S0 1087 5) (S0 1087 6) (S0 1087 7) (S0 1087 8) (S0 1087 9) (S0 1087 10) (S0 1087 11) (S0 1079 1)) (hr : p0 < S0 1087 6) (hc : p1 < S0 1087 7) (x6 : Int) (x7 : Int) (S : zz_S) (G_S : zz_G S) (F_S : zz_fr [] [1080, 1081, 1082, 1083, 1084] (fun _ _ => False) S0 S) (i198_0 : (-2147483648) ≤ x6 ∧ x6 ≤ 2147483647) (i198_1 : 0 ≤ x7 ∧ x7 ≤ 15) (i198_2 : S0 1087 0 = 5) (i198_3 : S0 1087 0 ≠ 1) (i198_4 : S0 1087 0 ≠ 2) (i198_5 : S0 1087 0 ≠ 3) (i198_6 : S0 1087 0 ≠ 4) (R : Nat) (hR : (2147483647 - x7).toNat = R) (k198 : ∀ (x6 : Int) (x7 : Int) (S : zz_S), zz_G S → zz_fr [] [1080, 1081, 1082, 1083, 1084] (fun _ _ => False) S0 S → ((-2147483648) ≤ x6 ∧ x6 ≤ 2147483647) → (0 ≤ x7 ∧ x7 ≤ 15) → (S0 1087 0 = 5) → (S0 1087 0 ≠ 1) → (S0 1087 0 ≠ 2) → (S0 1087 0 ≠ 3) → (S0 1087 0 ≠ 4) → (2147483647 - x7).toNat < R → zz_E g l zy_doPlace_14_28 zr_doPlace_14_28 (zz_QV n (zp_doPlace_14_28 p0 p1 S0)) S n 198 [some (.ref 1079), some (zi p0), some (zi p1), none, some (zi (((S0 1087 9) + (p0 * (S0 1079 1))) + p1)), none, some (zi x6), some (zi x7)] [] 0 0) : zz_E g l zy_doPlace_14_28 zr_doPlace_14_28 (zz_QV n (zp_doPlace_14_28 p0 p1 S0)) S n 198 [some (.ref 1079), some (zi p0), some (zi p1), none, some (zi (((S0 1087 9) + (p0 * (S0 1079 1))) + p1)), none, some (zi x6), some (zi x7)] [] 0 0 := by
  have l9 := hl
  unfold zz_lg at l9
  have lk := l9.2.2.2.2.2.2.2.1 (by omega)
  have l2 := l9.2.1 (by omega)
  clear l9
  have gS := zz_G.r G_S0 1079 1 2 8 rfl rfl
  have m0 : 0 ≤ p0 * S0 1079 1 := Int.mul_nonneg (by omega) (by omega)
  have n0 : 0 ≤ p0 * S0 1087 10 := Int.mul_nonneg (by omega) (by omega)
  have m1 : p0 * S0 1079 1 ≤ (S0 1087 6 - 1) * S0 1079 1 := Int.mul_le_mul_of_nonneg_right (by omega) (by omega)
  have m2 : p0 * S0 1087 10 ≤ (S0 1087 6 - 1) * S0 1087 10 := Int.mul_le_mul_of_nonneg_right (by omega) (by omega)
  refine zz_iload (x := x7) rfl zd_14_28_198 ?_
  refine zz_aload_n (x := 1079) rfl zd_14_28_200 ?_
  refine zz_getr (kd := 0) (z := 1087) zd_14_28_201 zf_Md_36 zT_1079 rfl (zz_ltn hn rfl) (zz_G.eq G_S 1079 11 1087 rfl rfl) (by decide) 1087 rfl ?_
  refine zz_bipush (by decide) zd_14_28_204 ?_
  have g55 := zz_G.r G_S0 1087 11 (-2147483648) 2147483647 rfl rfl
  refine zz_iald (z := S0 1087 11) zd_14_28_206 zT_1087 rfl (zz_ltn hn rfl) (by decide) (by decide) (zz_rc F_S rfl rfl (fun h => h) rfl) ?_
  refine zz_iconst zd_14_28_207 ?_
  refine zz_idiv (by omega) (by omega) zd_14_28_208 (fun v56 hv56 av56 bv56 cv56 => ?_)
  obtain rfl : v56 = (S0 1087 11) / 2 := by omega
  refine zz_icmp_ge (by omega) (by omega) zd_14_28_209 (fun c57 => ?_) (fun c57 => ?_)
  · refine zz_aload_n (x := 1079) rfl zd_14_28_268 ?_
    refine zz_getr (kd := 0) (z := 1083) zd_14_28_269 zf_Md_23 zT_1079 rfl (zz_ltn hn rfl) (zz_G.eq G_S 1079 5 1083 rfl rfl) (by decide) 1083 rfl ?_
    refine zz_iload (x := ((S0 1087 9) + (p0 * (S0 1079 1))) + p1) rfl zd_14_28_272 ?_
    refine zz_iload (x := x6) rfl zd_14_28_274 ?_
    refine zz_iast zd_14_28_276 zT_1083 rfl (zz_ltn hn rfl) (by decide) (by omega) (fun S58 qS58 => ?_)
    have G_S58 := zz_G.put G_S qS58 (-2147483648) 2147483647 rfl (by omega)
    have F_S58 := zz_fr.putc F_S qS58 rfl
    refine zz_goto zd_14_28_277 ?_
    exact zz_vret zd_14_28_411 rfl (Nat.zero_le _) (Nat.zero_le _) ⟨_, rfl, G_S58, F_S58⟩
  · have m3 : x7 * S0 1079 1 ≤ (S0 1087 11 / 2 - 1) * S0 1079 1 := Int.mul_le_mul_of_nonneg_right (by omega) (by omega)
    have m4 : 0 ≤ x7 * S0 1079 1 := Int.mul_nonneg (by omega) (by omega)
    refine zz_iload (x := x6) rfl zd_14_28_212 ?_
    refine zz_aload_n (x := 1079) rfl zd_14_28_214 ?_
    refine zz_getr (kd := 0) (z := 1081) zd_14_28_215 zf_Md_17 zT_1079 rfl (zz_ltn hn rfl) (zz_G.eq G_S 1079 3 1081 rfl rfl) (by decide) 1081 rfl ?_
    refine zz_aload_n (x := 1079) rfl zd_14_28_218 ?_
    refine zz_getr (kd := 0) (z := 1087) zd_14_28_219 zf_Md_36 zT_1079 rfl (zz_ltn hn rfl) (zz_G.eq G_S 1079 11 1087 rfl rfl) (by decide) 1087 rfl ?_
    refine zz_bipush (by decide) zd_14_28_222 ?_
    have g59 := zz_G.r G_S0 1087 8 (-2147483648) 2147483647 rfl rfl
    refine zz_iald (z := S0 1087 8) zd_14_28_224 zT_1087 rfl (zz_ltn hn rfl) (by decide) (by decide) (zz_rc F_S rfl rfl (fun h => h) rfl) ?_
    refine zz_iload_n (x := p0) rfl zd_14_28_225 ?_
    refine zz_aload_n (x := 1079) rfl zd_14_28_226 ?_
    have g60 := zz_G.r G_S0 1079 1 2 8 rfl rfl
    refine zz_geti (z := S0 1079 1) zd_14_28_227 zf_Md_7 zT_1079 rfl (zz_ltn hn rfl) (zz_rc F_S rfl rfl (fun h => h) rfl) ?_
    refine zz_imul zd_14_28_230 ?_
    have m61 := zz_mulb (a := p0) (b := S0 1079 1) 62 8 496 (by omega) (by omega) (by decide)
    refine zz_iadd zd_14_28_231 ?_
    refine zz_iload (x := x7) rfl zd_14_28_232 ?_
    refine zz_iadd zd_14_28_234 ?_
    have g62 := zz_G.r G_S 1081 ((((S0 1087 8) + (p0 * (S0 1079 1))) + x7).toNat) (-2147483648) 2147483647 rfl rfl
    refine zz_iald (z := S 1081 ((((S0 1087 8) + (p0 * (S0 1079 1))) + x7).toNat)) zd_14_28_235 zT_1081 rfl (zz_ltn hn rfl) (by decide) (by omega) rfl ?_
    refine zz_aload_n (x := 1079) rfl zd_14_28_236 ?_
    refine zz_getr (kd := 0) (z := 1082) zd_14_28_237 zf_Md_20 zT_1079 rfl (zz_ltn hn rfl) (zz_G.eq G_S 1079 4 1082 rfl rfl) (by decide) 1082 rfl ?_
    refine zz_aload_n (x := 1079) rfl zd_14_28_240 ?_
    refine zz_getr (kd := 0) (z := 1087) zd_14_28_241 zf_Md_36 zT_1079 rfl (zz_ltn hn rfl) (zz_G.eq G_S 1079 11 1087 rfl rfl) (by decide) 1087 rfl ?_
    refine zz_bipush (by decide) zd_14_28_244 ?_
    have g63 := zz_G.r G_S0 1087 10 (-2147483648) 2147483647 rfl rfl
    refine zz_iald (z := S0 1087 10) zd_14_28_246 zT_1087 rfl (zz_ltn hn rfl) (by decide) (by decide) (zz_rc F_S rfl rfl (fun h => h) rfl) ?_
    refine zz_iload (x := x7) rfl zd_14_28_247 ?_
    refine zz_aload_n (x := 1079) rfl zd_14_28_249 ?_
    refine zz_geti (z := S0 1079 1) zd_14_28_250 zf_Md_7 zT_1079 rfl (zz_ltn hn rfl) (zz_rc F_S rfl rfl (fun h => h) rfl) ?_
    refine zz_imul zd_14_28_253 ?_
    have m64 := zz_mulb (a := x7) (b := S0 1079 1) 14 8 112 (by omega) (by omega) (by decide)
    refine zz_iadd zd_14_28_254 ?_
    refine zz_iload_n (x := p1) rfl zd_14_28_255 ?_
    refine zz_iadd zd_14_28_256 ?_
    have g65 := zz_G.r G_S 1082 ((((S0 1087 10) + (x7 * (S0 1079 1))) + p1).toNat) (-2147483648) 2147483647 rfl rfl
    refine zz_iald (z := S 1082 ((((S0 1087 10) + (x7 * (S0 1079 1))) + p1).toNat)) zd_14_28_257 zT_1082 rfl (zz_ltn hn rfl) (by decide) (by omega) rfl ?_
    refine zz_imul zd_14_28_258 ?_
    refine zz_nrm (fun v66 hv66 ev66 => ?_)
    refine zz_iadd zd_14_28_259 ?_
    refine zz_nrm (fun v67 hv67 ev67 => ?_)
    refine zz_istore [some (.ref 1079), some (zi p0), some (zi p1), none, some (zi (((S0 1087 9) + (p0 * (S0 1079 1))) + p1)), none, some (zi v67), some (zi x7)] zd_14_28_260 (by decide) rfl ?_
    refine zz_iinc [some (.ref 1079), some (zi p0), some (zi p1), none, some (zi (((S0 1087 9) + (p0 * (S0 1079 1))) + p1)), none, some (zi v67), some (zi (x7 + 1))] zd_14_28_262 rfl rfl ?_
    refine zz_goto zd_14_28_265 ?_
    refine zz_less (ls1 := [some (.ref 1079), some (zi p0), some (zi p1), none, some (zi (((S0 1087 9) + (p0 * (S0 1079 1))) + p1)), none, some (zi v67), some (zi (x7 + 1))]) ⟨rfl, ⟨rfl, ⟨rfl, ⟨rfl, ⟨rfl, ⟨rfl, trivial⟩⟩⟩⟩⟩⟩ ?_
    exact k198 v67 (x7 + 1) S G_S F_S (by omega) (by omega) (by omega) (by omega) (by omega) (by omega) (by omega) (by omega)
theorem zi_doPlace_14_28 {g : mm_G} {l : Launch} (p0 : Int) (p1 : Int) (S0 : zz_S) (n : Nat) (hn : zz_end ≤ n) (G_S0 : zz_G S0) (hp0 : 0 ≤ p0 ∧ p0 ≤ 62) (hp1 : 0 ≤ p1 ∧ p1 ≤ 30) (hsS0_1087_0 : 0 ≤ S0 1087 0 ∧ S0 1087 0 ≤ 15) (hsS0_1087_1 : 0 ≤ S0 1087 1 ∧ S0 1087 1 ≤ 1) (hsS0_1087_2 : 0 ≤ S0 1087 2 ∧ S0 1087 2 ≤ 1) (hsS0_1087_3 : 0 ≤ S0 1087 3 ∧ S0 1087 3 ≤ 1) (hsS0_1087_4 : 0 ≤ S0 1087 4 ∧ S0 1087 4 ≤ 1) (hsS0_1087_5 : 0 ≤ S0 1087 5 ∧ S0 1087 5 ≤ 4095) (hsS0_1087_6 : 0 ≤ S0 1087 6 ∧ S0 1087 6 ≤ 63) (hsS0_1087_7 : 0 ≤ S0 1087 7 ∧ S0 1087 7 ≤ 31) (hsS0_1087_8 : 0 ≤ S0 1087 8 ∧ S0 1087 8 ≤ 511) (hsS0_1087_9 : 0 ≤ S0 1087 9 ∧ S0 1087 9 ≤ 511) (hsS0_1087_10 : 0 ≤ S0 1087 10 ∧ S0 1087 10 ≤ 1023) (hsS0_1087_11 : 0 ≤ S0 1087 11 ∧ S0 1087 11 ≤ 31) (hl : zz_lg (S0 1087 0) (S0 1087 5) (S0 1087 6) (S0 1087 7) (S0 1087 8) (S0 1087 9) (S0 1087 10) (S0 1087 11) (S0 1079 1)) (hr : p0 < S0 1087 6) (hc : p1 < S0 1087 7) : ∀ N : Nat, (∀ (x6 : Int) (x7 : Int) (S : zz_S), zz_G S → zz_fr [] [1080, 1081, 1082, 1083, 1084] (fun _ _ => False) S0 S → ((-2147483648) ≤ x6 ∧ x6 ≤ 2147483647) → (0 ≤ x7 ∧ x7 ≤ 15) → (S0 1087 0 = 5) → (S0 1087 0 ≠ 1) → (S0 1087 0 ≠ 2) → (S0 1087 0 ≠ 3) → (S0 1087 0 ≠ 4) → (2147483647 - x7).toNat < N → zz_E g l zy_doPlace_14_28 zr_doPlace_14_28 (zz_QV n (zp_doPlace_14_28 p0 p1 S0)) S n 198 [some (.ref 1079), some (zi p0), some (zi p1), none, some (zi (((S0 1087 9) + (p0 * (S0 1079 1))) + p1)), none, some (zi x6), some (zi x7)] [] 0 0) := by
  intro N
  induction N with
  | zero => exact fun x6 x7 S _ _ _ _ _ _ _ _ _ h => absurd h (Nat.not_lt_zero _)
  | succ N ih =>
    exact fun x6 x7 S a b j0 j1 j2 j3 j4 j5 j6 hR => zb_doPlace_14_28_198 p0 p1 S0 n hn G_S0 hp0 hp1 hsS0_1087_0 hsS0_1087_1 hsS0_1087_2 hsS0_1087_3 hsS0_1087_4 hsS0_1087_5 hsS0_1087_6 hsS0_1087_7 hsS0_1087_8 hsS0_1087_9 hsS0_1087_10 hsS0_1087_11 hl hr hc x6 x7 S a b j0 j1 j2 j3 j4 j5 j6 _ rfl (fun x6 x7 S a b j0 j1 j2 j3 j4 j5 j6 h => ih x6 x7 S a b j0 j1 j2 j3 j4 j5 j6 (Nat.lt_of_lt_of_le h (Nat.le_of_lt_succ hR)))
theorem zc_doPlace_14_28 {g : mm_G} {l : Launch} (p0 : Int) (p1 : Int) (S0 : zz_S) (n : Nat) (hn : zz_end ≤ n) (G_S0 : zz_G S0) (hp0 : 0 ≤ p0 ∧ p0 ≤ 62) (hp1 : 0 ≤ p1 ∧ p1 ≤ 30) (hsS0_1087_0 : 0 ≤ S0 1087 0 ∧ S0 1087 0 ≤ 15) (hsS0_1087_1 : 0 ≤ S0 1087 1 ∧ S0 1087 1 ≤ 1) (hsS0_1087_2 : 0 ≤ S0 1087 2 ∧ S0 1087 2 ≤ 1) (hsS0_1087_3 : 0 ≤ S0 1087 3 ∧ S0 1087 3 ≤ 1) (hsS0_1087_4 : 0 ≤ S0 1087 4 ∧ S0 1087 4 ≤ 1) (hsS0_1087_5 : 0 ≤ S0 1087 5 ∧ S0 1087 5 ≤ 4095) (hsS0_1087_6 : 0 ≤ S0 1087 6 ∧ S0 1087 6 ≤ 63) (hsS0_1087_7 : 0 ≤ S0 1087 7 ∧ S0 1087 7 ≤ 31) (hsS0_1087_8 : 0 ≤ S0 1087 8 ∧ S0 1087 8 ≤ 511) (hsS0_1087_9 : 0 ≤ S0 1087 9 ∧ S0 1087 9 ≤ 511) (hsS0_1087_10 : 0 ≤ S0 1087 10 ∧ S0 1087 10 ≤ 1023) (hsS0_1087_11 : 0 ≤ S0 1087 11 ∧ S0 1087 11 ≤ 31) (hl : zz_lg (S0 1087 0) (S0 1087 5) (S0 1087 6) (S0 1087 7) (S0 1087 8) (S0 1087 9) (S0 1087 10) (S0 1087 11) (S0 1079 1)) (hr : p0 < S0 1087 6) (hc : p1 < S0 1087 7) : mm_Met g l zy_doPlace_14_28 zr_doPlace_14_28 [.ref 1079, zi p0, zi p1] (zz_M S0 n) n (zz_QV n (zp_doPlace_14_28 p0 p1 S0)) := by
  refine zz_enter (by decide) (Nat.le_of_ble_eq_true rfl) (zz_less (ls1 := [some (.ref 1079), some (zi p0), some (zi p1)]) ⟨rfl, ⟨rfl, ⟨rfl, trivial⟩⟩⟩ ?_)
  have F_S0 : zz_fr [] [1080, 1081, 1082, 1083, 1084] (fun _ _ => False) S0 S0 := zz_fr.refl
  have k198 : ∀ (x6 : Int) (x7 : Int) (S : zz_S), zz_G S → zz_fr [] [1080, 1081, 1082, 1083, 1084] (fun _ _ => False) S0 S → ((-2147483648) ≤ x6 ∧ x6 ≤ 2147483647) → (0 ≤ x7 ∧ x7 ≤ 15) → (S0 1087 0 = 5) → (S0 1087 0 ≠ 1) → (S0 1087 0 ≠ 2) → (S0 1087 0 ≠ 3) → (S0 1087 0 ≠ 4) → zz_E g l zy_doPlace_14_28 zr_doPlace_14_28 (zz_QV n (zp_doPlace_14_28 p0 p1 S0)) S n 198 [some (.ref 1079), some (zi p0), some (zi p1), none, some (zi (((S0 1087 9) + (p0 * (S0 1079 1))) + p1)), none, some (zi x6), some (zi x7)] [] 0 0 := fun x6 x7 S a b j0 j1 j2 j3 j4 j5 j6 => (zi_doPlace_14_28 (g := g) (l := l) p0 p1 S0 n hn G_S0 hp0 hp1 hsS0_1087_0 hsS0_1087_1 hsS0_1087_2 hsS0_1087_3 hsS0_1087_4 hsS0_1087_5 hsS0_1087_6 hsS0_1087_7 hsS0_1087_8 hsS0_1087_9 hsS0_1087_10 hsS0_1087_11 hl hr hc _) x6 x7 S a b j0 j1 j2 j3 j4 j5 j6 (Nat.lt_succ_self _)
  refine zz_aload_n (x := 1079) rfl zd_14_28_0 ?_
  refine zz_getr (kd := 0) (z := 1087) zd_14_28_1 zf_Md_36 zT_1079 rfl (zz_ltn hn rfl) (zz_G.eq G_S0 1079 11 1087 rfl rfl) (by decide) 1087 rfl ?_
  refine zz_bipush (by decide) zd_14_28_4 ?_
  have g1 := zz_G.r G_S0 1087 8 (-2147483648) 2147483647 rfl rfl
  refine zz_iald (z := S0 1087 8) zd_14_28_6 zT_1087 rfl (zz_ltn hn rfl) (by decide) (by decide) rfl ?_
  refine zz_iload_n (x := p0) rfl zd_14_28_7 ?_
  refine zz_aload_n (x := 1079) rfl zd_14_28_8 ?_
  have g2 := zz_G.r G_S0 1079 1 2 8 rfl rfl
  refine zz_geti (z := S0 1079 1) zd_14_28_9 zf_Md_7 zT_1079 rfl (zz_ltn hn rfl) rfl ?_
  refine zz_imul zd_14_28_12 ?_
  have m3 := zz_mulb (a := p0) (b := S0 1079 1) 62 8 496 (by omega) (by omega) (by decide)
  refine zz_iadd zd_14_28_13 ?_
  refine zz_iload_n (x := p1) rfl zd_14_28_14 ?_
  refine zz_iadd zd_14_28_15 ?_
  refine zz_istore_n [some (.ref 1079), some (zi p0), some (zi p1), some (zi (((S0 1087 8) + (p0 * (S0 1079 1))) + p1))] zd_14_28_16 (by decide) rfl ?_
  refine zz_aload_n (x := 1079) rfl zd_14_28_17 ?_
  refine zz_getr (kd := 0) (z := 1087) zd_14_28_18 zf_Md_36 zT_1079 rfl (zz_ltn hn rfl) (zz_G.eq G_S0 1079 11 1087 rfl rfl) (by decide) 1087 rfl ?_
  refine zz_bipush (by decide) zd_14_28_21 ?_
  have g4 := zz_G.r G_S0 1087 9 (-2147483648) 2147483647 rfl rfl
  refine zz_iald (z := S0 1087 9) zd_14_28_23 zT_1087 rfl (zz_ltn hn rfl) (by decide) (by decide) rfl ?_
  refine zz_iload_n (x := p0) rfl zd_14_28_24 ?_
  refine zz_aload_n (x := 1079) rfl zd_14_28_25 ?_
  refine zz_geti (z := S0 1079 1) zd_14_28_26 zf_Md_7 zT_1079 rfl (zz_ltn hn rfl) rfl ?_
  refine zz_imul zd_14_28_29 ?_
  have m5 := zz_mulb (a := p0) (b := S0 1079 1) 62 8 496 (by omega) (by omega) (by decide)
  refine zz_iadd zd_14_28_30 ?_
  refine zz_iload_n (x := p1) rfl zd_14_28_31 ?_
  refine zz_iadd zd_14_28_32 ?_
  refine zz_istore [some (.ref 1079), some (zi p0), some (zi p1), some (zi (((S0 1087 8) + (p0 * (S0 1079 1))) + p1)), some (zi (((S0 1087 9) + (p0 * (S0 1079 1))) + p1))] zd_14_28_33 (by decide) rfl ?_
  refine zz_aload_n (x := 1079) rfl zd_14_28_35 ?_
  refine zz_getr (kd := 0) (z := 1087) zd_14_28_36 zf_Md_36 zT_1079 rfl (zz_ltn hn rfl) (zz_G.eq G_S0 1079 11 1087 rfl rfl) (by decide) 1087 rfl ?_
  refine zz_iconst zd_14_28_39 ?_
  have g6 := zz_G.r G_S0 1087 5 (-2147483648) 2147483647 rfl rfl
  refine zz_iald (z := S0 1087 5) zd_14_28_40 zT_1087 rfl (zz_ltn hn rfl) (by decide) (by decide) rfl ?_
  refine zz_iload_n (x := p0) rfl zd_14_28_41 ?_
  refine zz_aload_n (x := 1079) rfl zd_14_28_42 ?_
  refine zz_getr (kd := 0) (z := 1087) zd_14_28_43 zf_Md_36 zT_1079 rfl (zz_ltn hn rfl) (zz_G.eq G_S0 1079 11 1087 rfl rfl) (by decide) 1087 rfl ?_
  refine zz_bipush (by decide) zd_14_28_46 ?_
  have g7 := zz_G.r G_S0 1087 10 (-2147483648) 2147483647 rfl rfl
  refine zz_iald (z := S0 1087 10) zd_14_28_48 zT_1087 rfl (zz_ltn hn rfl) (by decide) (by decide) rfl ?_
  refine zz_imul zd_14_28_49 ?_
  have m8 := zz_mulb (a := p0) (b := S0 1087 10) 62 1023 63426 (by omega) (by omega) (by decide)
  refine zz_iadd zd_14_28_50 ?_
  refine zz_iload_n (x := p1) rfl zd_14_28_51 ?_
  refine zz_iadd zd_14_28_52 ?_
  refine zz_istore [some (.ref 1079), some (zi p0), some (zi p1), some (zi (((S0 1087 8) + (p0 * (S0 1079 1))) + p1)), some (zi (((S0 1087 9) + (p0 * (S0 1079 1))) + p1)), some (zi (((S0 1087 5) + (p0 * (S0 1087 10))) + p1))] zd_14_28_53 (by decide) rfl ?_
  refine zz_aload_n (x := 1079) rfl zd_14_28_55 ?_
  refine zz_getr (kd := 0) (z := 1087) zd_14_28_56 zf_Md_36 zT_1079 rfl (zz_ltn hn rfl) (zz_G.eq G_S0 1079 11 1087 rfl rfl) (by decide) 1087 rfl ?_
  refine zz_iconst zd_14_28_59 ?_
  have g9 := zz_G.r G_S0 1087 0 (-2147483648) 2147483647 rfl rfl
  refine zz_iald (z := S0 1087 0) zd_14_28_60 zT_1087 rfl (zz_ltn hn rfl) (by decide) (by decide) rfl ?_
  by_cases c10 : S0 1087 0 = 1
  · refine zz_swIn 1 47 c10 (by decide) zd_14_28_61 rfl rfl ?_
    have l9 := hl
    unfold zz_lg at l9
    have lk := l9.2.2.2.1 (by omega)
    have l2 := l9.2.1 (by omega)
    clear l9
    have gS := zz_G.r G_S0 1079 1 2 8 rfl rfl
    have m0 : 0 ≤ p0 * S0 1079 1 := Int.mul_nonneg (by omega) (by omega)
    have n0 : 0 ≤ p0 * S0 1087 10 := Int.mul_nonneg (by omega) (by omega)
    have m1 : p0 * S0 1079 1 ≤ (S0 1087 6 - 1) * S0 1079 1 := Int.mul_le_mul_of_nonneg_right (by omega) (by omega)
    have m2 : p0 * S0 1087 10 ≤ (S0 1087 6 - 1) * S0 1087 10 := Int.mul_le_mul_of_nonneg_right (by omega) (by omega)
    refine zz_aload_n (x := 1079) rfl zd_14_28_108 ?_
    refine zz_getr (kd := 0) (z := 1081) zd_14_28_109 zf_Md_17 zT_1079 rfl (zz_ltn hn rfl) (zz_G.eq G_S0 1079 3 1081 rfl rfl) (by decide) 1081 rfl ?_
    refine zz_iload_n (x := ((S0 1087 8) + (p0 * (S0 1079 1))) + p1) rfl zd_14_28_112 ?_
    refine zz_aload_n (x := 1079) rfl zd_14_28_113 ?_
    refine zz_getr (kd := 0) (z := 1080) zd_14_28_114 zf_Md_13 zT_1079 rfl (zz_ltn hn rfl) (zz_G.eq G_S0 1079 2 1080 rfl rfl) (by decide) 1080 rfl ?_
    refine zz_iload (x := ((S0 1087 5) + (p0 * (S0 1087 10))) + p1) rfl zd_14_28_117 ?_
    have g11 := zz_G.r G_S0 1080 ((((S0 1087 5) + (p0 * (S0 1087 10))) + p1).toNat) (-2147483648) 2147483647 rfl rfl
    refine zz_iald (z := S0 1080 ((((S0 1087 5) + (p0 * (S0 1087 10))) + p1).toNat)) zd_14_28_119 zT_1080 rfl (zz_ltn hn rfl) (by decide) (by omega) rfl ?_
    refine zz_iast zd_14_28_120 zT_1081 rfl (zz_ltn hn rfl) (by decide) (by omega) (fun S12 qS12 => ?_)
    have G_S12 := zz_G.put G_S0 qS12 (-2147483648) 2147483647 rfl (by omega)
    have F_S12 := zz_fr.putc F_S0 qS12 rfl
    refine zz_goto zd_14_28_121 ?_
    exact zz_vret zd_14_28_411 rfl (Nat.zero_le _) (Nat.zero_le _) ⟨_, rfl, G_S12, F_S12⟩
  by_cases c13 : S0 1087 0 = 2
  · refine zz_swIn 2 63 c13 (by decide) zd_14_28_61 rfl rfl ?_
    have l9 := hl
    unfold zz_lg at l9
    have lk := l9.2.2.2.2.1 (by omega)
    have l2 := l9.2.1 (by omega)
    clear l9
    have gS := zz_G.r G_S0 1079 1 2 8 rfl rfl
    have m0 : 0 ≤ p0 * S0 1079 1 := Int.mul_nonneg (by omega) (by omega)
    have n0 : 0 ≤ p0 * S0 1087 10 := Int.mul_nonneg (by omega) (by omega)
    have m1 : p0 * S0 1079 1 ≤ (S0 1087 6 - 1) * S0 1079 1 := Int.mul_le_mul_of_nonneg_right (by omega) (by omega)
    have m2 : p0 * S0 1087 10 ≤ (S0 1087 6 - 1) * S0 1087 10 := Int.mul_le_mul_of_nonneg_right (by omega) (by omega)
    refine zz_aload_n (x := 1079) rfl zd_14_28_124 ?_
    refine zz_getr (kd := 0) (z := 1082) zd_14_28_125 zf_Md_20 zT_1079 rfl (zz_ltn hn rfl) (zz_G.eq G_S0 1079 4 1082 rfl rfl) (by decide) 1082 rfl ?_
    refine zz_iload_n (x := ((S0 1087 8) + (p0 * (S0 1079 1))) + p1) rfl zd_14_28_128 ?_
    refine zz_aload_n (x := 1079) rfl zd_14_28_129 ?_
    refine zz_getr (kd := 0) (z := 1080) zd_14_28_130 zf_Md_13 zT_1079 rfl (zz_ltn hn rfl) (zz_G.eq G_S0 1079 2 1080 rfl rfl) (by decide) 1080 rfl ?_
    refine zz_iload (x := ((S0 1087 5) + (p0 * (S0 1087 10))) + p1) rfl zd_14_28_133 ?_
    have g14 := zz_G.r G_S0 1080 ((((S0 1087 5) + (p0 * (S0 1087 10))) + p1).toNat) (-2147483648) 2147483647 rfl rfl
    refine zz_iald (z := S0 1080 ((((S0 1087 5) + (p0 * (S0 1087 10))) + p1).toNat)) zd_14_28_135 zT_1080 rfl (zz_ltn hn rfl) (by decide) (by omega) rfl ?_
    refine zz_iast zd_14_28_136 zT_1082 rfl (zz_ltn hn rfl) (by decide) (by omega) (fun S15 qS15 => ?_)
    have G_S15 := zz_G.put G_S0 qS15 (-2147483648) 2147483647 rfl (by omega)
    have F_S15 := zz_fr.putc F_S0 qS15 rfl
    refine zz_goto zd_14_28_137 ?_
    exact zz_vret zd_14_28_411 rfl (Nat.zero_le _) (Nat.zero_le _) ⟨_, rfl, G_S15, F_S15⟩
  by_cases c16 : S0 1087 0 = 3
  · refine zz_swIn 3 79 c16 (by decide) zd_14_28_61 rfl rfl ?_
    have l9 := hl
    unfold zz_lg at l9
    have lk := l9.2.2.2.2.2.1 (by omega)
    have l2 := l9.2.1 (by omega)
    clear l9
    have gS := zz_G.r G_S0 1079 1 2 8 rfl rfl
    have m0 : 0 ≤ p0 * S0 1079 1 := Int.mul_nonneg (by omega) (by omega)
    have n0 : 0 ≤ p0 * S0 1087 10 := Int.mul_nonneg (by omega) (by omega)
    have m1 : p0 * S0 1079 1 ≤ (S0 1087 6 - 1) * S0 1079 1 := Int.mul_le_mul_of_nonneg_right (by omega) (by omega)
    have m2 : p0 * S0 1087 10 ≤ (S0 1087 6 - 1) * S0 1087 10 := Int.mul_le_mul_of_nonneg_right (by omega) (by omega)
    refine zz_aload_n (x := 1079) rfl zd_14_28_140 ?_
    refine zz_getr (kd := 0) (z := 1081) zd_14_28_141 zf_Md_17 zT_1079 rfl (zz_ltn hn rfl) (zz_G.eq G_S0 1079 3 1081 rfl rfl) (by decide) 1081 rfl ?_
    refine zz_iload_n (x := ((S0 1087 8) + (p0 * (S0 1079 1))) + p1) rfl zd_14_28_144 ?_
    refine zz_iconst zd_14_28_145 ?_
    refine zz_iast zd_14_28_146 zT_1081 rfl (zz_ltn hn rfl) (by decide) (by omega) (fun S17 qS17 => ?_)
    have G_S17 := zz_G.put G_S0 qS17 (-2147483648) 2147483647 rfl (by omega)
    have F_S17 := zz_fr.putc F_S0 qS17 rfl
    refine zz_goto zd_14_28_147 ?_
    exact zz_vret zd_14_28_411 rfl (Nat.zero_le _) (Nat.zero_le _) ⟨_, rfl, G_S17, F_S17⟩
  by_cases c18 : S0 1087 0 = 4
  · refine zz_swIn 4 89 c18 (by decide) zd_14_28_61 rfl rfl ?_
    have l9 := hl
    unfold zz_lg at l9
    have lk := l9.2.2.2.2.2.2.1 (by omega)
    have l2 := l9.2.1 (by omega)
    clear l9
    have gS := zz_G.r G_S0 1079 1 2 8 rfl rfl
    have m0 : 0 ≤ p0 * S0 1079 1 := Int.mul_nonneg (by omega) (by omega)
    have n0 : 0 ≤ p0 * S0 1087 10 := Int.mul_nonneg (by omega) (by omega)
    have m1 : p0 * S0 1079 1 ≤ (S0 1087 6 - 1) * S0 1079 1 := Int.mul_le_mul_of_nonneg_right (by omega) (by omega)
    have m2 : p0 * S0 1087 10 ≤ (S0 1087 6 - 1) * S0 1087 10 := Int.mul_le_mul_of_nonneg_right (by omega) (by omega)
    refine zz_aload_n (x := 1079) rfl zd_14_28_150 ?_
    refine zz_getr (kd := 0) (z := 1083) zd_14_28_151 zf_Md_23 zT_1079 rfl (zz_ltn hn rfl) (zz_G.eq G_S0 1079 5 1083 rfl rfl) (by decide) 1083 rfl ?_
    refine zz_iload_n (x := ((S0 1087 8) + (p0 * (S0 1079 1))) + p1) rfl zd_14_28_154 ?_
    refine zz_aload_n (x := 1079) rfl zd_14_28_155 ?_
    refine zz_iload (x := ((S0 1087 5) + (p0 * (S0 1087 10))) + p1) rfl zd_14_28_156 ?_
    refine zz_iconst zd_14_28_158 ?_
    refine zz_iload_n (x := p1) rfl zd_14_28_159 ?_
    refine zz_imul zd_14_28_160 ?_
    refine zz_iadd zd_14_28_161 ?_
    refine zz_nme (fun v19 ev19 => ?_)
    refine zz_callVI [zi v19] zd_14_28_162 zk_Md_258 zT_1079 (zz_ltn hn rfl) rfl rfl ⟨Nat.le_of_ble_eq_true rfl, Nat.le_of_ble_eq_true rfl⟩ ⟨rfl, rfl⟩ (Nat.zero_le _) (Nat.zero_le _) (zc_intAt_14_27 v19 S0 n hn G_S0 (by omega)) (fun v21 S20 hP => ?_)
    obtain ⟨rfl, o22⟩ := hP
    refine zz_iast zd_14_28_165 zT_1083 rfl (zz_ltn hn rfl) (by decide) (by omega) (fun S23 qS23 => ?_)
    have G_S23 := zz_G.put G_S0 qS23 (-2147483648) 2147483647 rfl (by omega)
    have F_S23 := zz_fr.putc F_S0 qS23 rfl
    refine zz_goto zd_14_28_166 ?_
    exact zz_vret zd_14_28_411 rfl (Nat.zero_le _) (Nat.zero_le _) ⟨_, rfl, G_S23, F_S23⟩
  by_cases c24 : S0 1087 0 = 5
  · refine zz_swIn 5 108 c24 (by decide) zd_14_28_61 rfl rfl ?_
    have l9 := hl
    unfold zz_lg at l9
    have lk := l9.2.2.2.2.2.2.2.1 (by omega)
    have l2 := l9.2.1 (by omega)
    clear l9
    have gS := zz_G.r G_S0 1079 1 2 8 rfl rfl
    have m0 : 0 ≤ p0 * S0 1079 1 := Int.mul_nonneg (by omega) (by omega)
    have n0 : 0 ≤ p0 * S0 1087 10 := Int.mul_nonneg (by omega) (by omega)
    have m1 : p0 * S0 1079 1 ≤ (S0 1087 6 - 1) * S0 1079 1 := Int.mul_le_mul_of_nonneg_right (by omega) (by omega)
    have m2 : p0 * S0 1087 10 ≤ (S0 1087 6 - 1) * S0 1087 10 := Int.mul_le_mul_of_nonneg_right (by omega) (by omega)
    refine zz_aload_n (x := 1079) rfl zd_14_28_169 ?_
    refine zz_getr (kd := 0) (z := 1087) zd_14_28_170 zf_Md_36 zT_1079 rfl (zz_ltn hn rfl) (zz_G.eq G_S0 1079 11 1087 rfl rfl) (by decide) 1087 rfl ?_
    refine zz_bipush (by decide) zd_14_28_173 ?_
    have g25 := zz_G.r G_S0 1087 11 (-2147483648) 2147483647 rfl rfl
    refine zz_iald (z := S0 1087 11) zd_14_28_175 zT_1087 rfl (zz_ltn hn rfl) (by decide) (by decide) rfl ?_
    refine zz_iconst zd_14_28_176 ?_
    refine zz_irem (by omega) (by omega) zd_14_28_177 (fun v26 hv26 av26 bv26 cv26 => ?_)
    refine zz_iconst zd_14_28_178 ?_
    refine zz_icmp_ne (by omega) (by omega) zd_14_28_179 (fun c27 => ?_) (fun c27 => ?_)
    · refine zz_iconst zd_14_28_192 ?_
      refine zz_istore [some (.ref 1079), some (zi p0), some (zi p1), some (zi (((S0 1087 8) + (p0 * (S0 1079 1))) + p1)), some (zi (((S0 1087 9) + (p0 * (S0 1079 1))) + p1)), some (zi (((S0 1087 5) + (p0 * (S0 1087 10))) + p1)), some (zi 0)] zd_14_28_193 (by decide) rfl ?_
      refine zz_iconst zd_14_28_195 ?_
      refine zz_istore [some (.ref 1079), some (zi p0), some (zi p1), some (zi (((S0 1087 8) + (p0 * (S0 1079 1))) + p1)), some (zi (((S0 1087 9) + (p0 * (S0 1079 1))) + p1)), some (zi (((S0 1087 5) + (p0 * (S0 1087 10))) + p1)), some (zi 0), some (zi 0)] zd_14_28_196 (by decide) rfl ?_
      refine zz_less (ls1 := [some (.ref 1079), some (zi p0), some (zi p1), none, some (zi (((S0 1087 9) + (p0 * (S0 1079 1))) + p1)), none, some (zi 0), some (zi 0)]) ⟨rfl, ⟨rfl, ⟨rfl, ⟨rfl, ⟨rfl, ⟨rfl, trivial⟩⟩⟩⟩⟩⟩ ?_
      exact k198 0 0 S0 G_S0 F_S0 (by omega) (by omega) (by omega) (by omega) (by omega) (by omega) (by omega)
    · refine zz_aload_n (x := 1079) rfl zd_14_28_182 ?_
      refine zz_getr (kd := 0) (z := 1083) zd_14_28_183 zf_Md_23 zT_1079 rfl (zz_ltn hn rfl) (zz_G.eq G_S0 1079 5 1083 rfl rfl) (by decide) 1083 rfl ?_
      refine zz_iload (x := ((S0 1087 9) + (p0 * (S0 1079 1))) + p1) rfl zd_14_28_186 ?_
      have g28 := zz_G.r G_S0 1083 ((((S0 1087 9) + (p0 * (S0 1079 1))) + p1).toNat) (-2147483648) 2147483647 rfl rfl
      refine zz_iald (z := S0 1083 ((((S0 1087 9) + (p0 * (S0 1079 1))) + p1).toNat)) zd_14_28_188 zT_1083 rfl (zz_ltn hn rfl) (by decide) (by omega) rfl ?_
      refine zz_goto zd_14_28_189 ?_
      refine zz_istore [some (.ref 1079), some (zi p0), some (zi p1), some (zi (((S0 1087 8) + (p0 * (S0 1079 1))) + p1)), some (zi (((S0 1087 9) + (p0 * (S0 1079 1))) + p1)), some (zi (((S0 1087 5) + (p0 * (S0 1087 10))) + p1)), some (zi (S0 1083 ((((S0 1087 9) + (p0 * (S0 1079 1))) + p1).toNat)))] zd_14_28_193 (by decide) rfl ?_
      refine zz_iconst zd_14_28_195 ?_
      refine zz_istore [some (.ref 1079), some (zi p0), some (zi p1), some (zi (((S0 1087 8) + (p0 * (S0 1079 1))) + p1)), some (zi (((S0 1087 9) + (p0 * (S0 1079 1))) + p1)), some (zi (((S0 1087 5) + (p0 * (S0 1087 10))) + p1)), some (zi (S0 1083 ((((S0 1087 9) + (p0 * (S0 1079 1))) + p1).toNat))), some (zi 0)] zd_14_28_196 (by decide) rfl ?_
      refine zz_less (ls1 := [some (.ref 1079), some (zi p0), some (zi p1), none, some (zi (((S0 1087 9) + (p0 * (S0 1079 1))) + p1)), none, some (zi (S0 1083 ((((S0 1087 9) + (p0 * (S0 1079 1))) + p1).toNat))), some (zi 0)]) ⟨rfl, ⟨rfl, ⟨rfl, ⟨rfl, ⟨rfl, ⟨rfl, trivial⟩⟩⟩⟩⟩⟩ ?_
      exact k198 (S0 1083 ((((S0 1087 9) + (p0 * (S0 1079 1))) + p1).toNat)) 0 S0 G_S0 F_S0 (by omega) (by omega) (by omega) (by omega) (by omega) (by omega) (by omega)
  by_cases c29 : S0 1087 0 = 6
  · refine zz_swIn 6 219 c29 (by decide) zd_14_28_61 rfl rfl ?_
    have l9 := hl
    unfold zz_lg at l9
    have lk := l9.2.2.2.2.2.2.2.2.1 (by omega)
    have l2 := l9.2.1 (by omega)
    clear l9
    have gS := zz_G.r G_S0 1079 1 2 8 rfl rfl
    have m0 : 0 ≤ p0 * S0 1079 1 := Int.mul_nonneg (by omega) (by omega)
    have n0 : 0 ≤ p0 * S0 1087 10 := Int.mul_nonneg (by omega) (by omega)
    have m1 : p0 * S0 1079 1 ≤ (S0 1087 6 - 1) * S0 1079 1 := Int.mul_le_mul_of_nonneg_right (by omega) (by omega)
    have m2 : p0 * S0 1087 10 ≤ (S0 1087 6 - 1) * S0 1087 10 := Int.mul_le_mul_of_nonneg_right (by omega) (by omega)
    refine zz_aload_n (x := 1079) rfl zd_14_28_280 ?_
    refine zz_getr (kd := 0) (z := 1083) zd_14_28_281 zf_Md_23 zT_1079 rfl (zz_ltn hn rfl) (zz_G.eq G_S0 1079 5 1083 rfl rfl) (by decide) 1083 rfl ?_
    refine zz_iload (x := ((S0 1087 9) + (p0 * (S0 1079 1))) + p1) rfl zd_14_28_284 ?_
    refine zz_aload_n (x := 1079) rfl zd_14_28_286 ?_
    refine zz_getr (kd := 0) (z := 1087) zd_14_28_287 zf_Md_36 zT_1079 rfl (zz_ltn hn rfl) (zz_G.eq G_S0 1079 11 1087 rfl rfl) (by decide) 1087 rfl ?_
    refine zz_bipush (by decide) zd_14_28_290 ?_
    have g30 := zz_G.r G_S0 1087 11 (-2147483648) 2147483647 rfl rfl
    refine zz_iald (z := S0 1087 11) zd_14_28_292 zT_1087 rfl (zz_ltn hn rfl) (by decide) (by decide) rfl ?_
    refine zz_if_ne (by omega) zd_14_28_293 (fun c31 => ?_) (fun c31 => ?_)
    · refine zz_aload_n (x := 1079) rfl zd_14_28_305 ?_
      refine zz_getr (kd := 0) (z := 1087) zd_14_28_306 zf_Md_36 zT_1079 rfl (zz_ltn hn rfl) (zz_G.eq G_S0 1079 11 1087 rfl rfl) (by decide) 1087 rfl ?_
      refine zz_bipush (by decide) zd_14_28_309 ?_
      refine zz_iald (z := S0 1087 11) zd_14_28_311 zT_1087 rfl (zz_ltn hn rfl) (by decide) (by decide) rfl ?_
      refine zz_iconst zd_14_28_312 ?_
      refine zz_icmp_ne (by omega) (by omega) zd_14_28_313 (fun c32 => ?_) (fun c32 => ?_)
      · refine zz_aload_n (x := 1079) rfl zd_14_28_333 ?_
        refine zz_getr (kd := 0) (z := 1083) zd_14_28_334 zf_Md_23 zT_1079 rfl (zz_ltn hn rfl) (zz_G.eq G_S0 1079 5 1083 rfl rfl) (by decide) 1083 rfl ?_
        refine zz_iload (x := ((S0 1087 9) + (p0 * (S0 1079 1))) + p1) rfl zd_14_28_337 ?_
        have g33 := zz_G.r G_S0 1083 ((((S0 1087 9) + (p0 * (S0 1079 1))) + p1).toNat) (-2147483648) 2147483647 rfl rfl
        refine zz_iald (z := S0 1083 ((((S0 1087 9) + (p0 * (S0 1079 1))) + p1).toNat)) zd_14_28_339 zT_1083 rfl (zz_ltn hn rfl) (by decide) (by omega) rfl ?_
        refine zz_aload_n (x := 1079) rfl zd_14_28_340 ?_
        refine zz_getr (kd := 0) (z := 1081) zd_14_28_341 zf_Md_17 zT_1079 rfl (zz_ltn hn rfl) (zz_G.eq G_S0 1079 3 1081 rfl rfl) (by decide) 1081 rfl ?_
        refine zz_iload_n (x := ((S0 1087 8) + (p0 * (S0 1079 1))) + p1) rfl zd_14_28_344 ?_
        have g34 := zz_G.r G_S0 1081 ((((S0 1087 8) + (p0 * (S0 1079 1))) + p1).toNat) (-2147483648) 2147483647 rfl rfl
        refine zz_iald (z := S0 1081 ((((S0 1087 8) + (p0 * (S0 1079 1))) + p1).toNat)) zd_14_28_345 zT_1081 rfl (zz_ltn hn rfl) (by decide) (by omega) rfl ?_
        refine zz_icmp_le (by omega) (by omega) zd_14_28_346 (fun c35 => ?_) (fun c35 => ?_)
        · refine zz_aload_n (x := 1079) rfl zd_14_28_359 ?_
          refine zz_getr (kd := 0) (z := 1081) zd_14_28_360 zf_Md_17 zT_1079 rfl (zz_ltn hn rfl) (zz_G.eq G_S0 1079 3 1081 rfl rfl) (by decide) 1081 rfl ?_
          refine zz_iload_n (x := ((S0 1087 8) + (p0 * (S0 1079 1))) + p1) rfl zd_14_28_363 ?_
          refine zz_iald (z := S0 1081 ((((S0 1087 8) + (p0 * (S0 1079 1))) + p1).toNat)) zd_14_28_364 zT_1081 rfl (zz_ltn hn rfl) (by decide) (by omega) rfl ?_
          refine zz_iast zd_14_28_365 zT_1083 rfl (zz_ltn hn rfl) (by decide) (by omega) (fun S36 qS36 => ?_)
          have G_S36 := zz_G.put G_S0 qS36 (-2147483648) 2147483647 rfl (by omega)
          have F_S36 := zz_fr.putc F_S0 qS36 rfl
          refine zz_goto zd_14_28_366 ?_
          exact zz_vret zd_14_28_411 rfl (Nat.zero_le _) (Nat.zero_le _) ⟨_, rfl, G_S36, F_S36⟩
        · refine zz_aload_n (x := 1079) rfl zd_14_28_349 ?_
          refine zz_getr (kd := 0) (z := 1083) zd_14_28_350 zf_Md_23 zT_1079 rfl (zz_ltn hn rfl) (zz_G.eq G_S0 1079 5 1083 rfl rfl) (by decide) 1083 rfl ?_
          refine zz_iload (x := ((S0 1087 9) + (p0 * (S0 1079 1))) + p1) rfl zd_14_28_353 ?_
          refine zz_iald (z := S0 1083 ((((S0 1087 9) + (p0 * (S0 1079 1))) + p1).toNat)) zd_14_28_355 zT_1083 rfl (zz_ltn hn rfl) (by decide) (by omega) rfl ?_
          refine zz_goto zd_14_28_356 ?_
          refine zz_iast zd_14_28_365 zT_1083 rfl (zz_ltn hn rfl) (by decide) (by omega) (fun S37 qS37 => ?_)
          have G_S37 := zz_G.put G_S0 qS37 (-2147483648) 2147483647 rfl (by omega)
          have F_S37 := zz_fr.putc F_S0 qS37 rfl
          refine zz_goto zd_14_28_366 ?_
          exact zz_vret zd_14_28_411 rfl (Nat.zero_le _) (Nat.zero_le _) ⟨_, rfl, G_S37, F_S37⟩
      · refine zz_aload_n (x := 1079) rfl zd_14_28_316 ?_
        refine zz_getr (kd := 0) (z := 1083) zd_14_28_317 zf_Md_23 zT_1079 rfl (zz_ltn hn rfl) (zz_G.eq G_S0 1079 5 1083 rfl rfl) (by decide) 1083 rfl ?_
        refine zz_iload (x := ((S0 1087 9) + (p0 * (S0 1079 1))) + p1) rfl zd_14_28_320 ?_
        have g38 := zz_G.r G_S0 1083 ((((S0 1087 9) + (p0 * (S0 1079 1))) + p1).toNat) (-2147483648) 2147483647 rfl rfl
        refine zz_iald (z := S0 1083 ((((S0 1087 9) + (p0 * (S0 1079 1))) + p1).toNat)) zd_14_28_322 zT_1083 rfl (zz_ltn hn rfl) (by decide) (by omega) rfl ?_
        refine zz_aload_n (x := 1079) rfl zd_14_28_323 ?_
        refine zz_getr (kd := 0) (z := 1081) zd_14_28_324 zf_Md_17 zT_1079 rfl (zz_ltn hn rfl) (zz_G.eq G_S0 1079 3 1081 rfl rfl) (by decide) 1081 rfl ?_
        refine zz_iload_n (x := ((S0 1087 8) + (p0 * (S0 1079 1))) + p1) rfl zd_14_28_327 ?_
        have g39 := zz_G.r G_S0 1081 ((((S0 1087 8) + (p0 * (S0 1079 1))) + p1).toNat) (-2147483648) 2147483647 rfl rfl
        refine zz_iald (z := S0 1081 ((((S0 1087 8) + (p0 * (S0 1079 1))) + p1).toNat)) zd_14_28_328 zT_1081 rfl (zz_ltn hn rfl) (by decide) (by omega) rfl ?_
        refine zz_iadd zd_14_28_329 ?_
        refine zz_nrm (fun v40 hv40 ev40 => ?_)
        refine zz_goto zd_14_28_330 ?_
        refine zz_iast zd_14_28_365 zT_1083 rfl (zz_ltn hn rfl) (by decide) (by omega) (fun S41 qS41 => ?_)
        have G_S41 := zz_G.put G_S0 qS41 (-2147483648) 2147483647 rfl (by omega)
        have F_S41 := zz_fr.putc F_S0 qS41 rfl
        refine zz_goto zd_14_28_366 ?_
        exact zz_vret zd_14_28_411 rfl (Nat.zero_le _) (Nat.zero_le _) ⟨_, rfl, G_S41, F_S41⟩
    · refine zz_aload_n (x := 1079) rfl zd_14_28_296 ?_
      refine zz_getr (kd := 0) (z := 1081) zd_14_28_297 zf_Md_17 zT_1079 rfl (zz_ltn hn rfl) (zz_G.eq G_S0 1079 3 1081 rfl rfl) (by decide) 1081 rfl ?_
      refine zz_iload_n (x := ((S0 1087 8) + (p0 * (S0 1079 1))) + p1) rfl zd_14_28_300 ?_
      have g42 := zz_G.r G_S0 1081 ((((S0 1087 8) + (p0 * (S0 1079 1))) + p1).toNat) (-2147483648) 2147483647 rfl rfl
      refine zz_iald (z := S0 1081 ((((S0 1087 8) + (p0 * (S0 1079 1))) + p1).toNat)) zd_14_28_301 zT_1081 rfl (zz_ltn hn rfl) (by decide) (by omega) rfl ?_
      refine zz_goto zd_14_28_302 ?_
      refine zz_iast zd_14_28_365 zT_1083 rfl (zz_ltn hn rfl) (by decide) (by omega) (fun S43 qS43 => ?_)
      have G_S43 := zz_G.put G_S0 qS43 (-2147483648) 2147483647 rfl (by omega)
      have F_S43 := zz_fr.putc F_S0 qS43 rfl
      refine zz_goto zd_14_28_366 ?_
      exact zz_vret zd_14_28_411 rfl (Nat.zero_le _) (Nat.zero_le _) ⟨_, rfl, G_S43, F_S43⟩
  by_cases c44 : S0 1087 0 = 7
  · refine zz_swIn 7 308 c44 (by decide) zd_14_28_61 rfl rfl ?_
    have l9 := hl
    unfold zz_lg at l9
    have lk := l9.2.2.2.2.2.2.2.2.2.1 (by omega)
    have l2 := l9.2.1 (by omega)
    clear l9
    have gS := zz_G.r G_S0 1079 1 2 8 rfl rfl
    have m0 : 0 ≤ p0 * S0 1079 1 := Int.mul_nonneg (by omega) (by omega)
    have n0 : 0 ≤ p0 * S0 1087 10 := Int.mul_nonneg (by omega) (by omega)
    have m1 : p0 * S0 1079 1 ≤ (S0 1087 6 - 1) * S0 1079 1 := Int.mul_le_mul_of_nonneg_right (by omega) (by omega)
    have m2 : p0 * S0 1087 10 ≤ (S0 1087 6 - 1) * S0 1087 10 := Int.mul_le_mul_of_nonneg_right (by omega) (by omega)
    refine zz_aload_n (x := 1079) rfl zd_14_28_369 ?_
    refine zz_getr (kd := 0) (z := 1084) zd_14_28_370 zf_Md_26 zT_1079 rfl (zz_ltn hn rfl) (zz_G.eq G_S0 1079 6 1084 rfl rfl) (by decide) 1084 rfl ?_
    refine zz_iload (x := ((S0 1087 9) + (p0 * (S0 1079 1))) + p1) rfl zd_14_28_373 ?_
    refine zz_aload_n (x := 1079) rfl zd_14_28_375 ?_
    refine zz_getr (kd := 0) (z := 1083) zd_14_28_376 zf_Md_23 zT_1079 rfl (zz_ltn hn rfl) (zz_G.eq G_S0 1079 5 1083 rfl rfl) (by decide) 1083 rfl ?_
    refine zz_iload_n (x := ((S0 1087 8) + (p0 * (S0 1079 1))) + p1) rfl zd_14_28_379 ?_
    have g45 := zz_G.r G_S0 1083 ((((S0 1087 8) + (p0 * (S0 1079 1))) + p1).toNat) (-2147483648) 2147483647 rfl rfl
    refine zz_iald (z := S0 1083 ((((S0 1087 8) + (p0 * (S0 1079 1))) + p1).toNat)) zd_14_28_380 zT_1083 rfl (zz_ltn hn rfl) (by decide) (by omega) rfl ?_
    refine zz_aload_n (x := 1079) rfl zd_14_28_381 ?_
    refine zz_getr (kd := 0) (z := 1087) zd_14_28_382 zf_Md_36 zT_1079 rfl (zz_ltn hn rfl) (zz_G.eq G_S0 1079 11 1087 rfl rfl) (by decide) 1087 rfl ?_
    refine zz_bipush (by decide) zd_14_28_385 ?_
    have g46 := zz_G.r G_S0 1087 11 (-2147483648) 2147483647 rfl rfl
    refine zz_iald (z := S0 1087 11) zd_14_28_387 zT_1087 rfl (zz_ltn hn rfl) (by decide) (by decide) rfl ?_
    refine zz_callSI [zi (S0 1083 ((((S0 1087 8) + (p0 * (S0 1079 1))) + p1).toNat)), zi (S0 1087 11)] zd_14_28_388 zk_Md_261 rfl rfl ⟨Nat.le_of_ble_eq_true rfl, Nat.le_of_ble_eq_true rfl⟩ ⟨rfl, rfl⟩ (Nat.zero_le _) (Nat.zero_le _) (zc_narrowed_14_26 (S0 1083 ((((S0 1087 8) + (p0 * (S0 1079 1))) + p1).toNat)) (S0 1087 11) S0 n hn G_S0 (by omega) (by omega)) (fun v48 S47 hP => ?_)
    obtain ⟨rfl, o49⟩ := hP
    refine zz_iast zd_14_28_391 zT_1084 rfl (zz_ltn hn rfl) (by decide) (by omega) (fun S50 qS50 => ?_)
    have G_S50 := zz_G.put G_S0 qS50 (-2147483648) 2147483647 rfl (by omega)
    have F_S50 := zz_fr.putc F_S0 qS50 rfl
    refine zz_goto zd_14_28_392 ?_
    exact zz_vret zd_14_28_411 rfl (Nat.zero_le _) (Nat.zero_le _) ⟨_, rfl, G_S50, F_S50⟩
  by_cases c51 : S0 1087 0 = 8
  · refine zz_swIn 8 334 c51 (by decide) zd_14_28_61 rfl rfl ?_
    have l9 := hl
    unfold zz_lg at l9
    have lk := l9.2.2.2.2.2.2.2.2.2.2 (by omega)
    have l2 := l9.2.1 (by omega)
    clear l9
    have gS := zz_G.r G_S0 1079 1 2 8 rfl rfl
    have m0 : 0 ≤ p0 * S0 1079 1 := Int.mul_nonneg (by omega) (by omega)
    have n0 : 0 ≤ p0 * S0 1087 10 := Int.mul_nonneg (by omega) (by omega)
    have m1 : p0 * S0 1079 1 ≤ (S0 1087 6 - 1) * S0 1079 1 := Int.mul_le_mul_of_nonneg_right (by omega) (by omega)
    have m2 : p0 * S0 1087 10 ≤ (S0 1087 6 - 1) * S0 1087 10 := Int.mul_le_mul_of_nonneg_right (by omega) (by omega)
    refine zz_aload_n (x := 1079) rfl zd_14_28_395 ?_
    refine zz_getr (kd := 0) (z := 1080) zd_14_28_396 zf_Md_13 zT_1079 rfl (zz_ltn hn rfl) (zz_G.eq G_S0 1079 2 1080 rfl rfl) (by decide) 1080 rfl ?_
    refine zz_iload (x := ((S0 1087 5) + (p0 * (S0 1087 10))) + p1) rfl zd_14_28_399 ?_
    refine zz_aload_n (x := 1079) rfl zd_14_28_401 ?_
    refine zz_getr (kd := 0) (z := 1084) zd_14_28_402 zf_Md_26 zT_1079 rfl (zz_ltn hn rfl) (zz_G.eq G_S0 1079 6 1084 rfl rfl) (by decide) 1084 rfl ?_
    refine zz_iload_n (x := ((S0 1087 8) + (p0 * (S0 1079 1))) + p1) rfl zd_14_28_405 ?_
    have g52 := zz_G.r G_S0 1084 ((((S0 1087 8) + (p0 * (S0 1079 1))) + p1).toNat) (-2147483648) 2147483647 rfl rfl
    refine zz_iald (z := S0 1084 ((((S0 1087 8) + (p0 * (S0 1079 1))) + p1).toNat)) zd_14_28_406 zT_1084 rfl (zz_ltn hn rfl) (by decide) (by omega) rfl ?_
    refine zz_iast zd_14_28_407 zT_1080 rfl (zz_ltn hn rfl) (by decide) (by omega) (fun S53 qS53 => ?_)
    have G_S53 := zz_G.put G_S0 qS53 (-2147483648) 2147483647 rfl (by omega)
    have F_S53 := zz_fr.putc F_S0 qS53 rfl
    refine zz_goto zd_14_28_408 ?_
    exact zz_vret zd_14_28_411 rfl (Nat.zero_le _) (Nat.zero_le _) ⟨_, rfl, G_S53, F_S53⟩
  refine zz_swOut (by omega) (by omega) zd_14_28_61 rfl ?_
  exact zz_vret zd_14_28_411 rfl (Nat.zero_le _) (Nat.zero_le _) ⟨_, rfl, G_S0, F_S0⟩
abbrev zy_doWord_14_29 : mm_Y := (⟨"TensorForgeModel", "doWord", "()V"⟩, prog_14_method_29_code, 3, none)
theorem zyw_doWord_14_29 : mm_Yw zy_doWord_14_29 0 := ⟨mm_tb_1 1975 (by decide +kernel) rfl, mm_tb_1 12 (by decide +kernel) rfl, ⟨by decide, by decide⟩, by decide +kernel⟩
theorem zk_Md_264 : mm_Vl "TensorForgeModel" 264 11 2 zy_doPlace_14_28 := ⟨zyw_doPlace_14_28, (R_Md, F_Md, 69), rfl, mm_tb_1 1976 (by decide +kernel) rfl, mm_tb_1 1978 (by decide +kernel) rfl, mm_tb_s 106 (by decide +kernel) rfl⟩
theorem zg_14_29_0 : zq_at zy_doWord_14_29.2.1 0 3 ∧ zq_at zy_doWord_14_29.2.1 1 60 ∧ zq_at zy_doWord_14_29.2.1 2 27 ∧ zq_at zy_doWord_14_29.2.1 3 42 ∧ zq_at zy_doWord_14_29.2.1 4 180 ∧ zq_at zy_doWord_14_29.2.1 5 0 ∧ zq_at zy_doWord_14_29.2.1 6 36 ∧ zq_at zy_doWord_14_29.2.1 7 16 ∧ zq_at zy_doWord_14_29.2.1 8 6 ∧ zq_at zy_doWord_14_29.2.1 9 46 ∧ zq_at zy_doWord_14_29.2.1 10 162 ∧ zq_at zy_doWord_14_29.2.1 11 0 ∧ zq_at zy_doWord_14_29.2.1 12 34 ∧ zq_at zy_doWord_14_29.2.1 44 177 ∧ zq_at zy_doWord_14_29.2.1 13 3 ∧ zq_at zy_doWord_14_29.2.1 14 61 ∧ zq_at zy_doWord_14_29.2.1 15 28 ∧ zq_at zy_doWord_14_29.2.1 16 42 ∧ zq_at zy_doWord_14_29.2.1 17 180 ∧ zq_at zy_doWord_14_29.2.1 18 0 ∧ zq_at zy_doWord_14_29.2.1 19 36 ∧ zq_at zy_doWord_14_29.2.1 20 16 ∧ zq_at zy_doWord_14_29.2.1 21 7 ∧ zq_at zy_doWord_14_29.2.1 22 46 := by decide +kernel
theorem zd_14_29_0 : zz_D zy_doWord_14_29 0 (.iconst 0) 1 1 := ⟨zq_3 zg_14_29_0.1, rfl⟩
theorem zd_14_29_1 : zz_D zy_doWord_14_29 1 (.istore_n 1) 1 2 := ⟨zq_60 zg_14_29_0.2.1, rfl⟩
theorem zd_14_29_2 : zz_D zy_doWord_14_29 2 (.iload_n 1) 1 3 := ⟨zq_27 zg_14_29_0.2.2.1, rfl⟩
theorem zd_14_29_3 : zz_D zy_doWord_14_29 3 (.aload_n 0) 1 4 := ⟨zq_42 zg_14_29_0.2.2.2.1, rfl⟩
theorem zd_14_29_4 : zz_D zy_doWord_14_29 4 (.getfield 36) 3 7 := ⟨zq_180 zg_14_29_0.2.2.2.2.1 zg_14_29_0.2.2.2.2.2.1 zg_14_29_0.2.2.2.2.2.2.1 rfl, rfl⟩
theorem zd_14_29_7 : zz_D zy_doWord_14_29 7 (.bipush 6) 2 9 := ⟨zq_16 zg_14_29_0.2.2.2.2.2.2.2.1 zg_14_29_0.2.2.2.2.2.2.2.2.1 (by decide), rfl⟩
theorem zd_14_29_9 : zz_D zy_doWord_14_29 9 (.iaload) 1 10 := ⟨zq_46 zg_14_29_0.2.2.2.2.2.2.2.2.2.1, rfl⟩
theorem zd_14_29_10 : zz_B zy_doWord_14_29 10 (Instr.if_icmp .ge) 44 13 := ⟨34, zq_162 zg_14_29_0.2.2.2.2.2.2.2.2.2.2.1 zg_14_29_0.2.2.2.2.2.2.2.2.2.2.2.1 zg_14_29_0.2.2.2.2.2.2.2.2.2.2.2.2.1 (by decide), rfl, rfl⟩
theorem zd_14_29_44 : zz_D zy_doWord_14_29 44 (.return_) 1 45 := ⟨zq_177 zg_14_29_0.2.2.2.2.2.2.2.2.2.2.2.2.2.1, rfl⟩
theorem zd_14_29_13 : zz_D zy_doWord_14_29 13 (.iconst 0) 1 14 := ⟨zq_3 zg_14_29_0.2.2.2.2.2.2.2.2.2.2.2.2.2.2.1, rfl⟩
theorem zd_14_29_14 : zz_D zy_doWord_14_29 14 (.istore_n 2) 1 15 := ⟨zq_61 zg_14_29_0.2.2.2.2.2.2.2.2.2.2.2.2.2.2.2.1, rfl⟩
theorem zd_14_29_15 : zz_D zy_doWord_14_29 15 (.iload_n 2) 1 16 := ⟨zq_28 zg_14_29_0.2.2.2.2.2.2.2.2.2.2.2.2.2.2.2.2.1, rfl⟩
theorem zd_14_29_16 : zz_D zy_doWord_14_29 16 (.aload_n 0) 1 17 := ⟨zq_42 zg_14_29_0.2.2.2.2.2.2.2.2.2.2.2.2.2.2.2.2.2.1, rfl⟩
theorem zd_14_29_17 : zz_D zy_doWord_14_29 17 (.getfield 36) 3 20 := ⟨zq_180 zg_14_29_0.2.2.2.2.2.2.2.2.2.2.2.2.2.2.2.2.2.2.1 zg_14_29_0.2.2.2.2.2.2.2.2.2.2.2.2.2.2.2.2.2.2.2.1 zg_14_29_0.2.2.2.2.2.2.2.2.2.2.2.2.2.2.2.2.2.2.2.2.1 rfl, rfl⟩
theorem zd_14_29_20 : zz_D zy_doWord_14_29 20 (.bipush 7) 2 22 := ⟨zq_16 zg_14_29_0.2.2.2.2.2.2.2.2.2.2.2.2.2.2.2.2.2.2.2.2.2.1 zg_14_29_0.2.2.2.2.2.2.2.2.2.2.2.2.2.2.2.2.2.2.2.2.2.2.1 (by decide), rfl⟩
theorem zd_14_29_22 : zz_D zy_doWord_14_29 22 (.iaload) 1 23 := ⟨zq_46 zg_14_29_0.2.2.2.2.2.2.2.2.2.2.2.2.2.2.2.2.2.2.2.2.2.2.2, rfl⟩
theorem zg_14_29_23 : zq_at zy_doWord_14_29.2.1 23 162 ∧ zq_at zy_doWord_14_29.2.1 24 0 ∧ zq_at zy_doWord_14_29.2.1 25 15 ∧ zq_at zy_doWord_14_29.2.1 38 132 ∧ zq_at zy_doWord_14_29.2.1 39 1 ∧ zq_at zy_doWord_14_29.2.1 40 1 ∧ zq_at zy_doWord_14_29.2.1 41 167 ∧ zq_at zy_doWord_14_29.2.1 42 255 ∧ zq_at zy_doWord_14_29.2.1 43 217 ∧ zq_at zy_doWord_14_29.2.1 26 42 ∧ zq_at zy_doWord_14_29.2.1 27 27 ∧ zq_at zy_doWord_14_29.2.1 28 28 ∧ zq_at zy_doWord_14_29.2.1 29 182 ∧ zq_at zy_doWord_14_29.2.1 30 1 ∧ zq_at zy_doWord_14_29.2.1 31 8 ∧ zq_at zy_doWord_14_29.2.1 32 132 ∧ zq_at zy_doWord_14_29.2.1 33 2 ∧ zq_at zy_doWord_14_29.2.1 34 1 ∧ zq_at zy_doWord_14_29.2.1 35 167 ∧ zq_at zy_doWord_14_29.2.1 36 255 ∧ zq_at zy_doWord_14_29.2.1 37 236 := by decide +kernel
theorem zd_14_29_23 : zz_B zy_doWord_14_29 23 (Instr.if_icmp .ge) 38 26 := ⟨15, zq_162 zg_14_29_23.1 zg_14_29_23.2.1 zg_14_29_23.2.2.1 (by decide), rfl, rfl⟩
theorem zd_14_29_38 : zz_D zy_doWord_14_29 38 (.iinc 1 1) 3 41 := ⟨zq_132 zg_14_29_23.2.2.2.1 zg_14_29_23.2.2.2.2.1 zg_14_29_23.2.2.2.2.2.1 (by decide), rfl⟩
theorem zd_14_29_41 : zz_B zy_doWord_14_29 41 Instr.goto 2 44 := ⟨(-39), zq_167 zg_14_29_23.2.2.2.2.2.2.1 zg_14_29_23.2.2.2.2.2.2.2.1 zg_14_29_23.2.2.2.2.2.2.2.2.1 (by decide), rfl, rfl⟩
theorem zd_14_29_26 : zz_D zy_doWord_14_29 26 (.aload_n 0) 1 27 := ⟨zq_42 zg_14_29_23.2.2.2.2.2.2.2.2.2.1, rfl⟩
theorem zd_14_29_27 : zz_D zy_doWord_14_29 27 (.iload_n 1) 1 28 := ⟨zq_27 zg_14_29_23.2.2.2.2.2.2.2.2.2.2.1, rfl⟩
theorem zd_14_29_28 : zz_D zy_doWord_14_29 28 (.iload_n 2) 1 29 := ⟨zq_28 zg_14_29_23.2.2.2.2.2.2.2.2.2.2.2.1, rfl⟩
theorem zd_14_29_29 : zz_D zy_doWord_14_29 29 (.invokevirtual 264) 3 32 := ⟨zq_182 zg_14_29_23.2.2.2.2.2.2.2.2.2.2.2.2.1 zg_14_29_23.2.2.2.2.2.2.2.2.2.2.2.2.2.1 zg_14_29_23.2.2.2.2.2.2.2.2.2.2.2.2.2.2.1 rfl, rfl⟩
theorem zd_14_29_32 : zz_D zy_doWord_14_29 32 (.iinc 2 1) 3 35 := ⟨zq_132 zg_14_29_23.2.2.2.2.2.2.2.2.2.2.2.2.2.2.2.1 zg_14_29_23.2.2.2.2.2.2.2.2.2.2.2.2.2.2.2.2.1 zg_14_29_23.2.2.2.2.2.2.2.2.2.2.2.2.2.2.2.2.2.1 (by decide), rfl⟩
theorem zd_14_29_35 : zz_B zy_doWord_14_29 35 Instr.goto 15 38 := ⟨(-20), zq_167 zg_14_29_23.2.2.2.2.2.2.2.2.2.2.2.2.2.2.2.2.2.2.1 zg_14_29_23.2.2.2.2.2.2.2.2.2.2.2.2.2.2.2.2.2.2.2.1 zg_14_29_23.2.2.2.2.2.2.2.2.2.2.2.2.2.2.2.2.2.2.2.2 (by decide), rfl, rfl⟩
-- TensorForgeModel doWord ()V
abbrev zr_doWord_14_29 : Room := { frames := 2, cells := 0, slots := 0, locals := 37 }
def zp_doWord_14_29  (S0 : zz_S) : zz_S → Prop := fun S => zz_G S ∧ zz_fr [] [1080, 1081, 1082, 1083, 1084] (fun _ _ => False) S0 S
theorem zb_doWord_14_29_2 {g : mm_G} {l : Launch}  (S0 : zz_S) (n : Nat) (hn : zz_end ≤ n) (G_S0 : zz_G S0) (hsS0_1087_0 : 0 ≤ S0 1087 0 ∧ S0 1087 0 ≤ 15) (hsS0_1087_1 : 0 ≤ S0 1087 1 ∧ S0 1087 1 ≤ 1) (hsS0_1087_2 : 0 ≤ S0 1087 2 ∧ S0 1087 2 ≤ 1) (hsS0_1087_3 : 0 ≤ S0 1087 3 ∧ S0 1087 3 ≤ 1) (hsS0_1087_4 : 0 ≤ S0 1087 4 ∧ S0 1087 4 ≤ 1) (hsS0_1087_5 : 0 ≤ S0 1087 5 ∧ S0 1087 5 ≤ 4095) (hsS0_1087_6 : 0 ≤ S0 1087 6 ∧ S0 1087 6 ≤ 63) (hsS0_1087_7 : 0 ≤ S0 1087 7 ∧ S0 1087 7 ≤ 31) (hsS0_1087_8 : 0 ≤ S0 1087 8 ∧ S0 1087 8 ≤ 511) (hsS0_1087_9 : 0 ≤ S0 1087 9 ∧ S0 1087 9 ≤ 511) (hsS0_1087_10 : 0 ≤ S0 1087 10 ∧ S0 1087 10 ≤ 1023) (hsS0_1087_11 : 0 ≤ S0 1087 11 ∧ S0 1087 11 ≤ 31) (hl : zz_lg (S0 1087 0) (S0 1087 5) (S0 1087 6) (S0 1087 7) (S0 1087 8) (S0 1087 9) (S0 1087 10) (S0 1087 11) (S0 1079 1)) (x1 : Int) (S : zz_S) (G_S : zz_G S) (F_S : zz_fr [] [1080, 1081, 1082, 1083, 1084] (fun _ _ => False) S0 S) (i2_0 : 0 ≤ x1 ∧ x1 ≤ 63) (R : Nat) (hR : (34359738368 + (2147483647 - x1).toNat) * 1099511627776 + 1099511627775 = R) (k15 : ∀ (x1 : Int) (x2 : Int) (S : zz_S), zz_G S → zz_fr [] [1080, 1081, 1082, 1083, 1084] (fun _ _ => False) S0 S → (0 ≤ x1 ∧ x1 ≤ 62) → (0 ≤ x2 ∧ x2 ≤ 31) → (0 ≤ x1 ∧ x1 ≤ 63) → (x1 < S0 1087 6) → (34359738368 + (2147483647 - x1).toNat) * 1099511627776 + (17179869184 + (2147483647 - x2).toNat) < R → zz_E g l zy_doWord_14_29 zr_doWord_14_29 (zz_QV n (zp_doWord_14_29  S0)) S n 15 [some (.ref 1079), some (zi x1), some (zi x2)] [] 0 0) : zz_E g l zy_doWord_14_29 zr_doWord_14_29 (zz_QV n (zp_doWord_14_29  S0)) S n 2 [some (.ref 1079), some (zi x1)] [] 0 0 := by
  refine zz_iload_n (x := x1) rfl zd_14_29_2 ?_
  refine zz_aload_n (x := 1079) rfl zd_14_29_3 ?_
  refine zz_getr (kd := 0) (z := 1087) zd_14_29_4 zf_Md_36 zT_1079 rfl (zz_ltn hn rfl) (zz_G.eq G_S 1079 11 1087 rfl rfl) (by decide) 1087 rfl ?_
  refine zz_bipush (by decide) zd_14_29_7 ?_
  have g1 := zz_G.r G_S0 1087 6 (-2147483648) 2147483647 rfl rfl
  refine zz_iald (z := S0 1087 6) zd_14_29_9 zT_1087 rfl (zz_ltn hn rfl) (by decide) (by decide) (zz_rc F_S rfl rfl (fun h => h) rfl) ?_
  refine zz_icmp_ge (by omega) (by omega) zd_14_29_10 (fun c2 => ?_) (fun c2 => ?_)
  · exact zz_vret zd_14_29_44 rfl (Nat.zero_le _) (Nat.zero_le _) ⟨_, rfl, G_S, F_S⟩
  · refine zz_iconst zd_14_29_13 ?_
    refine zz_istore_n [some (.ref 1079), some (zi x1), some (zi 0)] zd_14_29_14 (by decide) rfl ?_
    refine zz_less (ls1 := [some (.ref 1079), some (zi x1), some (zi 0)]) ⟨rfl, ⟨rfl, ⟨rfl, trivial⟩⟩⟩ ?_
    exact k15 x1 0 S G_S F_S (by omega) (by omega) (by omega) (by omega) (by omega)
theorem zb_doWord_14_29_15 {g : mm_G} {l : Launch}  (S0 : zz_S) (n : Nat) (hn : zz_end ≤ n) (G_S0 : zz_G S0) (hsS0_1087_0 : 0 ≤ S0 1087 0 ∧ S0 1087 0 ≤ 15) (hsS0_1087_1 : 0 ≤ S0 1087 1 ∧ S0 1087 1 ≤ 1) (hsS0_1087_2 : 0 ≤ S0 1087 2 ∧ S0 1087 2 ≤ 1) (hsS0_1087_3 : 0 ≤ S0 1087 3 ∧ S0 1087 3 ≤ 1) (hsS0_1087_4 : 0 ≤ S0 1087 4 ∧ S0 1087 4 ≤ 1) (hsS0_1087_5 : 0 ≤ S0 1087 5 ∧ S0 1087 5 ≤ 4095) (hsS0_1087_6 : 0 ≤ S0 1087 6 ∧ S0 1087 6 ≤ 63) (hsS0_1087_7 : 0 ≤ S0 1087 7 ∧ S0 1087 7 ≤ 31) (hsS0_1087_8 : 0 ≤ S0 1087 8 ∧ S0 1087 8 ≤ 511) (hsS0_1087_9 : 0 ≤ S0 1087 9 ∧ S0 1087 9 ≤ 511) (hsS0_1087_10 : 0 ≤ S0 1087 10 ∧ S0 1087 10 ≤ 1023) (hsS0_1087_11 : 0 ≤ S0 1087 11 ∧ S0 1087 11 ≤ 31) (hl : zz_lg (S0 1087 0) (S0 1087 5) (S0 1087 6) (S0 1087 7) (S0 1087 8) (S0 1087 9) (S0 1087 10) (S0 1087 11) (S0 1079 1)) (x1 : Int) (x2 : Int) (S : zz_S) (G_S : zz_G S) (F_S : zz_fr [] [1080, 1081, 1082, 1083, 1084] (fun _ _ => False) S0 S) (i15_0 : 0 ≤ x1 ∧ x1 ≤ 62) (i15_1 : 0 ≤ x2 ∧ x2 ≤ 31) (i15_2 : 0 ≤ x1 ∧ x1 ≤ 63) (i15_3 : x1 < S0 1087 6) (R : Nat) (hR : (34359738368 + (2147483647 - x1).toNat) * 1099511627776 + (17179869184 + (2147483647 - x2).toNat) = R) (k2 : ∀ (x1 : Int) (S : zz_S), zz_G S → zz_fr [] [1080, 1081, 1082, 1083, 1084] (fun _ _ => False) S0 S → (0 ≤ x1 ∧ x1 ≤ 63) → (34359738368 + (2147483647 - x1).toNat) * 1099511627776 + 1099511627775 < R → zz_E g l zy_doWord_14_29 zr_doWord_14_29 (zz_QV n (zp_doWord_14_29  S0)) S n 2 [some (.ref 1079), some (zi x1)] [] 0 0) (k15 : ∀ (x1 : Int) (x2 : Int) (S : zz_S), zz_G S → zz_fr [] [1080, 1081, 1082, 1083, 1084] (fun _ _ => False) S0 S → (0 ≤ x1 ∧ x1 ≤ 62) → (0 ≤ x2 ∧ x2 ≤ 31) → (0 ≤ x1 ∧ x1 ≤ 63) → (x1 < S0 1087 6) → (34359738368 + (2147483647 - x1).toNat) * 1099511627776 + (17179869184 + (2147483647 - x2).toNat) < R → zz_E g l zy_doWord_14_29 zr_doWord_14_29 (zz_QV n (zp_doWord_14_29  S0)) S n 15 [some (.ref 1079), some (zi x1), some (zi x2)] [] 0 0) : zz_E g l zy_doWord_14_29 zr_doWord_14_29 (zz_QV n (zp_doWord_14_29  S0)) S n 15 [some (.ref 1079), some (zi x1), some (zi x2)] [] 0 0 := by
  refine zz_iload_n (x := x2) rfl zd_14_29_15 ?_
  refine zz_aload_n (x := 1079) rfl zd_14_29_16 ?_
  refine zz_getr (kd := 0) (z := 1087) zd_14_29_17 zf_Md_36 zT_1079 rfl (zz_ltn hn rfl) (zz_G.eq G_S 1079 11 1087 rfl rfl) (by decide) 1087 rfl ?_
  refine zz_bipush (by decide) zd_14_29_20 ?_
  have g3 := zz_G.r G_S0 1087 7 (-2147483648) 2147483647 rfl rfl
  refine zz_iald (z := S0 1087 7) zd_14_29_22 zT_1087 rfl (zz_ltn hn rfl) (by decide) (by decide) (zz_rc F_S rfl rfl (fun h => h) rfl) ?_
  refine zz_icmp_ge (by omega) (by omega) zd_14_29_23 (fun c4 => ?_) (fun c4 => ?_)
  · refine zz_iinc [some (.ref 1079), some (zi (x1 + 1)), some (zi x2)] zd_14_29_38 rfl rfl ?_
    refine zz_goto zd_14_29_41 ?_
    refine zz_less (ls1 := [some (.ref 1079), some (zi (x1 + 1))]) ⟨rfl, ⟨rfl, trivial⟩⟩ ?_
    exact k2 (x1 + 1) S G_S F_S (by omega) (by omega)
  · refine zz_aload_n (x := 1079) rfl zd_14_29_26 ?_
    refine zz_iload_n (x := x1) rfl zd_14_29_27 ?_
    refine zz_iload_n (x := x2) rfl zd_14_29_28 ?_
    have g5 := zz_G.r G_S0 1087 0 (-2147483648) 2147483647 rfl rfl
    have e6 : S 1087 0 = S0 1087 0 := (zz_rc F_S rfl rfl (fun h => h) rfl)
    have g7 := zz_G.r G_S0 1087 1 (-2147483648) 2147483647 rfl rfl
    have e8 : S 1087 1 = S0 1087 1 := (zz_rc F_S rfl rfl (fun h => h) rfl)
    have g9 := zz_G.r G_S0 1087 2 (-2147483648) 2147483647 rfl rfl
    have e10 : S 1087 2 = S0 1087 2 := (zz_rc F_S rfl rfl (fun h => h) rfl)
    have g11 := zz_G.r G_S0 1087 3 (-2147483648) 2147483647 rfl rfl
    have e12 : S 1087 3 = S0 1087 3 := (zz_rc F_S rfl rfl (fun h => h) rfl)
    have g13 := zz_G.r G_S0 1087 4 (-2147483648) 2147483647 rfl rfl
    have e14 : S 1087 4 = S0 1087 4 := (zz_rc F_S rfl rfl (fun h => h) rfl)
    have g15 := zz_G.r G_S0 1087 5 (-2147483648) 2147483647 rfl rfl
    have e16 : S 1087 5 = S0 1087 5 := (zz_rc F_S rfl rfl (fun h => h) rfl)
    have g17 := zz_G.r G_S0 1087 6 (-2147483648) 2147483647 rfl rfl
    have e18 : S 1087 6 = S0 1087 6 := (zz_rc F_S rfl rfl (fun h => h) rfl)
    have e19 : S 1087 7 = S0 1087 7 := (zz_rc F_S rfl rfl (fun h => h) rfl)
    have g20 := zz_G.r G_S0 1087 8 (-2147483648) 2147483647 rfl rfl
    have e21 : S 1087 8 = S0 1087 8 := (zz_rc F_S rfl rfl (fun h => h) rfl)
    have g22 := zz_G.r G_S0 1087 9 (-2147483648) 2147483647 rfl rfl
    have e23 : S 1087 9 = S0 1087 9 := (zz_rc F_S rfl rfl (fun h => h) rfl)
    have g24 := zz_G.r G_S0 1087 10 (-2147483648) 2147483647 rfl rfl
    have e25 : S 1087 10 = S0 1087 10 := (zz_rc F_S rfl rfl (fun h => h) rfl)
    have g26 := zz_G.r G_S0 1087 11 (-2147483648) 2147483647 rfl rfl
    have e27 : S 1087 11 = S0 1087 11 := (zz_rc F_S rfl rfl (fun h => h) rfl)
    have g28 := zz_G.r G_S0 1079 1 2 8 rfl rfl
    have e29 : S 1079 1 = S0 1079 1 := (zz_rc F_S rfl rfl (fun h => h) rfl)
    refine zz_callVV [zi x1, zi x2] zd_14_29_29 zk_Md_264 zT_1079 (zz_ltn hn rfl) rfl rfl ⟨Nat.le_of_ble_eq_true rfl, Nat.le_of_ble_eq_true rfl⟩ ⟨rfl, rfl⟩ (Nat.zero_le _) (Nat.zero_le _) (zc_doPlace_14_28 x1 x2 S n hn G_S (by omega) (by omega) (by omega) (by omega) (by omega) (by omega) (by omega) (by omega) (by omega) (by omega) (by omega) (by omega) (by omega) (by omega) (by rw [show S 1087 0 = S0 1087 0 by omega, show S 1087 5 = S0 1087 5 by omega, show S 1087 6 = S0 1087 6 by omega, show S 1087 7 = S0 1087 7 by omega, show S 1087 8 = S0 1087 8 by omega, show S 1087 9 = S0 1087 9 by omega, show S 1087 10 = S0 1087 10 by omega, show S 1087 11 = S0 1087 11 by omega, show S 1079 1 = S0 1079 1 by omega]; exact hl) (by omega) (by omega)) (fun S30 hP => ?_)
    obtain ⟨G_S30, fS30⟩ := hP
    have F_S30 := zz_fr.trans F_S fS30 rfl zz_nv
    refine zz_iinc [some (.ref 1079), some (zi x1), some (zi (x2 + 1))] zd_14_29_32 rfl rfl ?_
    refine zz_goto zd_14_29_35 ?_
    refine zz_less (ls1 := [some (.ref 1079), some (zi x1), some (zi (x2 + 1))]) ⟨rfl, ⟨rfl, ⟨rfl, trivial⟩⟩⟩ ?_
    exact k15 x1 (x2 + 1) S30 G_S30 F_S30 (by omega) (by omega) (by omega) (by omega) (by omega)
theorem zi_doWord_14_29 {g : mm_G} {l : Launch}  (S0 : zz_S) (n : Nat) (hn : zz_end ≤ n) (G_S0 : zz_G S0) (hsS0_1087_0 : 0 ≤ S0 1087 0 ∧ S0 1087 0 ≤ 15) (hsS0_1087_1 : 0 ≤ S0 1087 1 ∧ S0 1087 1 ≤ 1) (hsS0_1087_2 : 0 ≤ S0 1087 2 ∧ S0 1087 2 ≤ 1) (hsS0_1087_3 : 0 ≤ S0 1087 3 ∧ S0 1087 3 ≤ 1) (hsS0_1087_4 : 0 ≤ S0 1087 4 ∧ S0 1087 4 ≤ 1) (hsS0_1087_5 : 0 ≤ S0 1087 5 ∧ S0 1087 5 ≤ 4095) (hsS0_1087_6 : 0 ≤ S0 1087 6 ∧ S0 1087 6 ≤ 63) (hsS0_1087_7 : 0 ≤ S0 1087 7 ∧ S0 1087 7 ≤ 31) (hsS0_1087_8 : 0 ≤ S0 1087 8 ∧ S0 1087 8 ≤ 511) (hsS0_1087_9 : 0 ≤ S0 1087 9 ∧ S0 1087 9 ≤ 511) (hsS0_1087_10 : 0 ≤ S0 1087 10 ∧ S0 1087 10 ≤ 1023) (hsS0_1087_11 : 0 ≤ S0 1087 11 ∧ S0 1087 11 ≤ 31) (hl : zz_lg (S0 1087 0) (S0 1087 5) (S0 1087 6) (S0 1087 7) (S0 1087 8) (S0 1087 9) (S0 1087 10) (S0 1087 11) (S0 1079 1)) : ∀ N : Nat, (∀ (x1 : Int) (S : zz_S), zz_G S → zz_fr [] [1080, 1081, 1082, 1083, 1084] (fun _ _ => False) S0 S → (0 ≤ x1 ∧ x1 ≤ 63) → (34359738368 + (2147483647 - x1).toNat) * 1099511627776 + 1099511627775 < N → zz_E g l zy_doWord_14_29 zr_doWord_14_29 (zz_QV n (zp_doWord_14_29  S0)) S n 2 [some (.ref 1079), some (zi x1)] [] 0 0) ∧ (∀ (x1 : Int) (x2 : Int) (S : zz_S), zz_G S → zz_fr [] [1080, 1081, 1082, 1083, 1084] (fun _ _ => False) S0 S → (0 ≤ x1 ∧ x1 ≤ 62) → (0 ≤ x2 ∧ x2 ≤ 31) → (0 ≤ x1 ∧ x1 ≤ 63) → (x1 < S0 1087 6) → (34359738368 + (2147483647 - x1).toNat) * 1099511627776 + (17179869184 + (2147483647 - x2).toNat) < N → zz_E g l zy_doWord_14_29 zr_doWord_14_29 (zz_QV n (zp_doWord_14_29  S0)) S n 15 [some (.ref 1079), some (zi x1), some (zi x2)] [] 0 0) := by
  intro N
  induction N with
  | zero => exact ⟨fun x1 S _ _ _ h => absurd h (Nat.not_lt_zero _), fun x1 x2 S _ _ _ _ _ _ h => absurd h (Nat.not_lt_zero _)⟩
  | succ N ih =>
    exact ⟨fun x1 S a b j0 hR => zb_doWord_14_29_2  S0 n hn G_S0 hsS0_1087_0 hsS0_1087_1 hsS0_1087_2 hsS0_1087_3 hsS0_1087_4 hsS0_1087_5 hsS0_1087_6 hsS0_1087_7 hsS0_1087_8 hsS0_1087_9 hsS0_1087_10 hsS0_1087_11 hl x1 S a b j0 _ rfl (fun x1 x2 S a b j0 j1 j2 j3 h => ih.2 x1 x2 S a b j0 j1 j2 j3 (Nat.lt_of_lt_of_le h (Nat.le_of_lt_succ hR))),
      fun x1 x2 S a b j0 j1 j2 j3 hR => zb_doWord_14_29_15  S0 n hn G_S0 hsS0_1087_0 hsS0_1087_1 hsS0_1087_2 hsS0_1087_3 hsS0_1087_4 hsS0_1087_5 hsS0_1087_6 hsS0_1087_7 hsS0_1087_8 hsS0_1087_9 hsS0_1087_10 hsS0_1087_11 hl x1 x2 S a b j0 j1 j2 j3 _ rfl (fun x1 S a b j0 h => ih.1 x1 S a b j0 (Nat.lt_of_lt_of_le h (Nat.le_of_lt_succ hR))) (fun x1 x2 S a b j0 j1 j2 j3 h => ih.2 x1 x2 S a b j0 j1 j2 j3 (Nat.lt_of_lt_of_le h (Nat.le_of_lt_succ hR)))⟩
theorem zc_doWord_14_29 {g : mm_G} {l : Launch}  (S0 : zz_S) (n : Nat) (hn : zz_end ≤ n) (G_S0 : zz_G S0) (hsS0_1087_0 : 0 ≤ S0 1087 0 ∧ S0 1087 0 ≤ 15) (hsS0_1087_1 : 0 ≤ S0 1087 1 ∧ S0 1087 1 ≤ 1) (hsS0_1087_2 : 0 ≤ S0 1087 2 ∧ S0 1087 2 ≤ 1) (hsS0_1087_3 : 0 ≤ S0 1087 3 ∧ S0 1087 3 ≤ 1) (hsS0_1087_4 : 0 ≤ S0 1087 4 ∧ S0 1087 4 ≤ 1) (hsS0_1087_5 : 0 ≤ S0 1087 5 ∧ S0 1087 5 ≤ 4095) (hsS0_1087_6 : 0 ≤ S0 1087 6 ∧ S0 1087 6 ≤ 63) (hsS0_1087_7 : 0 ≤ S0 1087 7 ∧ S0 1087 7 ≤ 31) (hsS0_1087_8 : 0 ≤ S0 1087 8 ∧ S0 1087 8 ≤ 511) (hsS0_1087_9 : 0 ≤ S0 1087 9 ∧ S0 1087 9 ≤ 511) (hsS0_1087_10 : 0 ≤ S0 1087 10 ∧ S0 1087 10 ≤ 1023) (hsS0_1087_11 : 0 ≤ S0 1087 11 ∧ S0 1087 11 ≤ 31) (hl : zz_lg (S0 1087 0) (S0 1087 5) (S0 1087 6) (S0 1087 7) (S0 1087 8) (S0 1087 9) (S0 1087 10) (S0 1087 11) (S0 1079 1)) : mm_Met g l zy_doWord_14_29 zr_doWord_14_29 [.ref 1079] (zz_M S0 n) n (zz_QV n (zp_doWord_14_29  S0)) := by
  refine zz_enter (by decide) (Nat.le_of_ble_eq_true rfl) (zz_less (ls1 := [some (.ref 1079)]) ⟨rfl, trivial⟩ ?_)
  have F_S0 : zz_fr [] [1080, 1081, 1082, 1083, 1084] (fun _ _ => False) S0 S0 := zz_fr.refl
  have k2 : ∀ (x1 : Int) (S : zz_S), zz_G S → zz_fr [] [1080, 1081, 1082, 1083, 1084] (fun _ _ => False) S0 S → (0 ≤ x1 ∧ x1 ≤ 63) → zz_E g l zy_doWord_14_29 zr_doWord_14_29 (zz_QV n (zp_doWord_14_29  S0)) S n 2 [some (.ref 1079), some (zi x1)] [] 0 0 := fun x1 S a b j0 => (zi_doWord_14_29 (g := g) (l := l)  S0 n hn G_S0 hsS0_1087_0 hsS0_1087_1 hsS0_1087_2 hsS0_1087_3 hsS0_1087_4 hsS0_1087_5 hsS0_1087_6 hsS0_1087_7 hsS0_1087_8 hsS0_1087_9 hsS0_1087_10 hsS0_1087_11 hl _).1 x1 S a b j0 (Nat.lt_succ_self _)
  refine zz_iconst zd_14_29_0 ?_
  refine zz_istore_n [some (.ref 1079), some (zi 0)] zd_14_29_1 (by decide) rfl ?_
  refine zz_less (ls1 := [some (.ref 1079), some (zi 0)]) ⟨rfl, ⟨rfl, trivial⟩⟩ ?_
  exact k2 0 S0 G_S0 F_S0 (by omega)
abbrev zy_cycles_14_30 : mm_Y := (⟨"TensorForgeModel", "cycles", "()I"⟩, prog_14_method_30_code, 2, (some .int))
theorem zyw_cycles_14_30 : mm_Yw zy_cycles_14_30 0 := ⟨mm_tb_1 1971 (by decide +kernel) rfl, mm_tb_1 12 (by decide +kernel) rfl, ⟨by decide, by decide⟩, by decide +kernel⟩
theorem zg_14_30_0 : zq_at zy_cycles_14_30.2.1 0 42 ∧ zq_at zy_cycles_14_30.2.1 1 180 ∧ zq_at zy_cycles_14_30.2.1 2 0 ∧ zq_at zy_cycles_14_30.2.1 3 36 ∧ zq_at zy_cycles_14_30.2.1 4 16 ∧ zq_at zy_cycles_14_30.2.1 5 6 ∧ zq_at zy_cycles_14_30.2.1 6 46 ∧ zq_at zy_cycles_14_30.2.1 7 42 ∧ zq_at zy_cycles_14_30.2.1 8 180 ∧ zq_at zy_cycles_14_30.2.1 9 0 ∧ zq_at zy_cycles_14_30.2.1 10 36 ∧ zq_at zy_cycles_14_30.2.1 11 16 ∧ zq_at zy_cycles_14_30.2.1 12 7 ∧ zq_at zy_cycles_14_30.2.1 13 46 ∧ zq_at zy_cycles_14_30.2.1 14 104 ∧ zq_at zy_cycles_14_30.2.1 15 60 ∧ zq_at zy_cycles_14_30.2.1 16 42 ∧ zq_at zy_cycles_14_30.2.1 17 180 ∧ zq_at zy_cycles_14_30.2.1 18 0 ∧ zq_at zy_cycles_14_30.2.1 19 36 ∧ zq_at zy_cycles_14_30.2.1 20 3 ∧ zq_at zy_cycles_14_30.2.1 21 46 ∧ zq_at zy_cycles_14_30.2.1 22 16 ∧ zq_at zy_cycles_14_30.2.1 23 9 := by decide +kernel
theorem zd_14_30_0 : zz_D zy_cycles_14_30 0 (.aload_n 0) 1 1 := ⟨zq_42 zg_14_30_0.1, rfl⟩
theorem zd_14_30_1 : zz_D zy_cycles_14_30 1 (.getfield 36) 3 4 := ⟨zq_180 zg_14_30_0.2.1 zg_14_30_0.2.2.1 zg_14_30_0.2.2.2.1 rfl, rfl⟩
theorem zd_14_30_4 : zz_D zy_cycles_14_30 4 (.bipush 6) 2 6 := ⟨zq_16 zg_14_30_0.2.2.2.2.1 zg_14_30_0.2.2.2.2.2.1 (by decide), rfl⟩
theorem zd_14_30_6 : zz_D zy_cycles_14_30 6 (.iaload) 1 7 := ⟨zq_46 zg_14_30_0.2.2.2.2.2.2.1, rfl⟩
theorem zd_14_30_7 : zz_D zy_cycles_14_30 7 (.aload_n 0) 1 8 := ⟨zq_42 zg_14_30_0.2.2.2.2.2.2.2.1, rfl⟩
theorem zd_14_30_8 : zz_D zy_cycles_14_30 8 (.getfield 36) 3 11 := ⟨zq_180 zg_14_30_0.2.2.2.2.2.2.2.2.1 zg_14_30_0.2.2.2.2.2.2.2.2.2.1 zg_14_30_0.2.2.2.2.2.2.2.2.2.2.1 rfl, rfl⟩
theorem zd_14_30_11 : zz_D zy_cycles_14_30 11 (.bipush 7) 2 13 := ⟨zq_16 zg_14_30_0.2.2.2.2.2.2.2.2.2.2.2.1 zg_14_30_0.2.2.2.2.2.2.2.2.2.2.2.2.1 (by decide), rfl⟩
theorem zd_14_30_13 : zz_D zy_cycles_14_30 13 (.iaload) 1 14 := ⟨zq_46 zg_14_30_0.2.2.2.2.2.2.2.2.2.2.2.2.2.1, rfl⟩
theorem zd_14_30_14 : zz_D zy_cycles_14_30 14 (.imul) 1 15 := ⟨zq_104 zg_14_30_0.2.2.2.2.2.2.2.2.2.2.2.2.2.2.1, rfl⟩
theorem zd_14_30_15 : zz_D zy_cycles_14_30 15 (.istore_n 1) 1 16 := ⟨zq_60 zg_14_30_0.2.2.2.2.2.2.2.2.2.2.2.2.2.2.2.1, rfl⟩
theorem zd_14_30_16 : zz_D zy_cycles_14_30 16 (.aload_n 0) 1 17 := ⟨zq_42 zg_14_30_0.2.2.2.2.2.2.2.2.2.2.2.2.2.2.2.2.1, rfl⟩
theorem zd_14_30_17 : zz_D zy_cycles_14_30 17 (.getfield 36) 3 20 := ⟨zq_180 zg_14_30_0.2.2.2.2.2.2.2.2.2.2.2.2.2.2.2.2.2.1 zg_14_30_0.2.2.2.2.2.2.2.2.2.2.2.2.2.2.2.2.2.2.1 zg_14_30_0.2.2.2.2.2.2.2.2.2.2.2.2.2.2.2.2.2.2.2.1 rfl, rfl⟩
theorem zd_14_30_20 : zz_D zy_cycles_14_30 20 (.iconst 0) 1 21 := ⟨zq_3 zg_14_30_0.2.2.2.2.2.2.2.2.2.2.2.2.2.2.2.2.2.2.2.2.1, rfl⟩
theorem zd_14_30_21 : zz_D zy_cycles_14_30 21 (.iaload) 1 22 := ⟨zq_46 zg_14_30_0.2.2.2.2.2.2.2.2.2.2.2.2.2.2.2.2.2.2.2.2.2.1, rfl⟩
theorem zd_14_30_22 : zz_D zy_cycles_14_30 22 (.bipush 9) 2 24 := ⟨zq_16 zg_14_30_0.2.2.2.2.2.2.2.2.2.2.2.2.2.2.2.2.2.2.2.2.2.2.1 zg_14_30_0.2.2.2.2.2.2.2.2.2.2.2.2.2.2.2.2.2.2.2.2.2.2.2 (by decide), rfl⟩
theorem zg_14_30_24 : zq_at zy_cycles_14_30.2.1 24 160 ∧ zq_at zy_cycles_14_30.2.1 25 0 ∧ zq_at zy_cycles_14_30.2.1 26 7 ∧ zq_at zy_cycles_14_30.2.1 31 42 ∧ zq_at zy_cycles_14_30.2.1 32 180 ∧ zq_at zy_cycles_14_30.2.1 33 0 ∧ zq_at zy_cycles_14_30.2.1 34 36 ∧ zq_at zy_cycles_14_30.2.1 35 3 ∧ zq_at zy_cycles_14_30.2.1 36 46 ∧ zq_at zy_cycles_14_30.2.1 37 8 ∧ zq_at zy_cycles_14_30.2.1 38 160 ∧ zq_at zy_cycles_14_30.2.1 39 0 ∧ zq_at zy_cycles_14_30.2.1 40 22 ∧ zq_at zy_cycles_14_30.2.1 60 42 ∧ zq_at zy_cycles_14_30.2.1 61 180 ∧ zq_at zy_cycles_14_30.2.1 62 0 ∧ zq_at zy_cycles_14_30.2.1 63 36 ∧ zq_at zy_cycles_14_30.2.1 64 3 ∧ zq_at zy_cycles_14_30.2.1 65 46 ∧ zq_at zy_cycles_14_30.2.1 66 7 ∧ zq_at zy_cycles_14_30.2.1 67 160 ∧ zq_at zy_cycles_14_30.2.1 68 0 ∧ zq_at zy_cycles_14_30.2.1 69 9 ∧ zq_at zy_cycles_14_30.2.1 76 27 := by decide +kernel
theorem zd_14_30_24 : zz_B zy_cycles_14_30 24 (Instr.if_icmp .ne) 31 27 := ⟨7, zq_160 zg_14_30_24.1 zg_14_30_24.2.1 zg_14_30_24.2.2.1 (by decide), rfl, rfl⟩
theorem zd_14_30_31 : zz_D zy_cycles_14_30 31 (.aload_n 0) 1 32 := ⟨zq_42 zg_14_30_24.2.2.2.1, rfl⟩
theorem zd_14_30_32 : zz_D zy_cycles_14_30 32 (.getfield 36) 3 35 := ⟨zq_180 zg_14_30_24.2.2.2.2.1 zg_14_30_24.2.2.2.2.2.1 zg_14_30_24.2.2.2.2.2.2.1 rfl, rfl⟩
theorem zd_14_30_35 : zz_D zy_cycles_14_30 35 (.iconst 0) 1 36 := ⟨zq_3 zg_14_30_24.2.2.2.2.2.2.2.1, rfl⟩
theorem zd_14_30_36 : zz_D zy_cycles_14_30 36 (.iaload) 1 37 := ⟨zq_46 zg_14_30_24.2.2.2.2.2.2.2.2.1, rfl⟩
theorem zd_14_30_37 : zz_D zy_cycles_14_30 37 (.iconst 5) 1 38 := ⟨zq_8 zg_14_30_24.2.2.2.2.2.2.2.2.2.1, rfl⟩
theorem zd_14_30_38 : zz_B zy_cycles_14_30 38 (Instr.if_icmp .ne) 60 41 := ⟨22, zq_160 zg_14_30_24.2.2.2.2.2.2.2.2.2.2.1 zg_14_30_24.2.2.2.2.2.2.2.2.2.2.2.1 zg_14_30_24.2.2.2.2.2.2.2.2.2.2.2.2.1 (by decide), rfl, rfl⟩
theorem zd_14_30_60 : zz_D zy_cycles_14_30 60 (.aload_n 0) 1 61 := ⟨zq_42 zg_14_30_24.2.2.2.2.2.2.2.2.2.2.2.2.2.1, rfl⟩
theorem zd_14_30_61 : zz_D zy_cycles_14_30 61 (.getfield 36) 3 64 := ⟨zq_180 zg_14_30_24.2.2.2.2.2.2.2.2.2.2.2.2.2.2.1 zg_14_30_24.2.2.2.2.2.2.2.2.2.2.2.2.2.2.2.1 zg_14_30_24.2.2.2.2.2.2.2.2.2.2.2.2.2.2.2.2.1 rfl, rfl⟩
theorem zd_14_30_64 : zz_D zy_cycles_14_30 64 (.iconst 0) 1 65 := ⟨zq_3 zg_14_30_24.2.2.2.2.2.2.2.2.2.2.2.2.2.2.2.2.2.1, rfl⟩
theorem zd_14_30_65 : zz_D zy_cycles_14_30 65 (.iaload) 1 66 := ⟨zq_46 zg_14_30_24.2.2.2.2.2.2.2.2.2.2.2.2.2.2.2.2.2.2.1, rfl⟩
theorem zd_14_30_66 : zz_D zy_cycles_14_30 66 (.iconst 4) 1 67 := ⟨zq_7 zg_14_30_24.2.2.2.2.2.2.2.2.2.2.2.2.2.2.2.2.2.2.2.1, rfl⟩
theorem zd_14_30_67 : zz_B zy_cycles_14_30 67 (Instr.if_icmp .ne) 76 70 := ⟨9, zq_160 zg_14_30_24.2.2.2.2.2.2.2.2.2.2.2.2.2.2.2.2.2.2.2.2.1 zg_14_30_24.2.2.2.2.2.2.2.2.2.2.2.2.2.2.2.2.2.2.2.2.2.1 zg_14_30_24.2.2.2.2.2.2.2.2.2.2.2.2.2.2.2.2.2.2.2.2.2.2.1 (by decide), rfl, rfl⟩
theorem zd_14_30_76 : zz_D zy_cycles_14_30 76 (.iload_n 1) 1 77 := ⟨zq_27 zg_14_30_24.2.2.2.2.2.2.2.2.2.2.2.2.2.2.2.2.2.2.2.2.2.2.2, rfl⟩
theorem zg_14_30_77 : zq_at zy_cycles_14_30.2.1 77 172 ∧ zq_at zy_cycles_14_30.2.1 70 7 ∧ zq_at zy_cycles_14_30.2.1 71 27 ∧ zq_at zy_cycles_14_30.2.1 72 104 ∧ zq_at zy_cycles_14_30.2.1 73 167 ∧ zq_at zy_cycles_14_30.2.1 74 0 ∧ zq_at zy_cycles_14_30.2.1 75 4 ∧ zq_at zy_cycles_14_30.2.1 41 42 ∧ zq_at zy_cycles_14_30.2.1 42 180 ∧ zq_at zy_cycles_14_30.2.1 43 0 ∧ zq_at zy_cycles_14_30.2.1 44 36 ∧ zq_at zy_cycles_14_30.2.1 45 16 ∧ zq_at zy_cycles_14_30.2.1 46 6 ∧ zq_at zy_cycles_14_30.2.1 47 46 ∧ zq_at zy_cycles_14_30.2.1 48 5 ∧ zq_at zy_cycles_14_30.2.1 49 42 ∧ zq_at zy_cycles_14_30.2.1 50 180 ∧ zq_at zy_cycles_14_30.2.1 51 0 ∧ zq_at zy_cycles_14_30.2.1 52 7 ∧ zq_at zy_cycles_14_30.2.1 53 104 ∧ zq_at zy_cycles_14_30.2.1 54 96 ∧ zq_at zy_cycles_14_30.2.1 55 5 ∧ zq_at zy_cycles_14_30.2.1 56 100 := by decide +kernel
theorem zd_14_30_77 : zz_D zy_cycles_14_30 77 (.ireturn) 1 78 := ⟨zq_172 zg_14_30_77.1, rfl⟩
theorem zd_14_30_70 : zz_D zy_cycles_14_30 70 (.iconst 4) 1 71 := ⟨zq_7 zg_14_30_77.2.1, rfl⟩
theorem zd_14_30_71 : zz_D zy_cycles_14_30 71 (.iload_n 1) 1 72 := ⟨zq_27 zg_14_30_77.2.2.1, rfl⟩
theorem zd_14_30_72 : zz_D zy_cycles_14_30 72 (.imul) 1 73 := ⟨zq_104 zg_14_30_77.2.2.2.1, rfl⟩
theorem zd_14_30_73 : zz_B zy_cycles_14_30 73 Instr.goto 77 76 := ⟨4, zq_167 zg_14_30_77.2.2.2.2.1 zg_14_30_77.2.2.2.2.2.1 zg_14_30_77.2.2.2.2.2.2.1 (by decide), rfl, rfl⟩
theorem zd_14_30_41 : zz_D zy_cycles_14_30 41 (.aload_n 0) 1 42 := ⟨zq_42 zg_14_30_77.2.2.2.2.2.2.2.1, rfl⟩
theorem zd_14_30_42 : zz_D zy_cycles_14_30 42 (.getfield 36) 3 45 := ⟨zq_180 zg_14_30_77.2.2.2.2.2.2.2.2.1 zg_14_30_77.2.2.2.2.2.2.2.2.2.1 zg_14_30_77.2.2.2.2.2.2.2.2.2.2.1 rfl, rfl⟩
theorem zd_14_30_45 : zz_D zy_cycles_14_30 45 (.bipush 6) 2 47 := ⟨zq_16 zg_14_30_77.2.2.2.2.2.2.2.2.2.2.2.1 zg_14_30_77.2.2.2.2.2.2.2.2.2.2.2.2.1 (by decide), rfl⟩
theorem zd_14_30_47 : zz_D zy_cycles_14_30 47 (.iaload) 1 48 := ⟨zq_46 zg_14_30_77.2.2.2.2.2.2.2.2.2.2.2.2.2.1, rfl⟩
theorem zd_14_30_48 : zz_D zy_cycles_14_30 48 (.iconst 2) 1 49 := ⟨zq_5 zg_14_30_77.2.2.2.2.2.2.2.2.2.2.2.2.2.2.1, rfl⟩
theorem zd_14_30_49 : zz_D zy_cycles_14_30 49 (.aload_n 0) 1 50 := ⟨zq_42 zg_14_30_77.2.2.2.2.2.2.2.2.2.2.2.2.2.2.2.1, rfl⟩
theorem zd_14_30_50 : zz_D zy_cycles_14_30 50 (.getfield 7) 3 53 := ⟨zq_180 zg_14_30_77.2.2.2.2.2.2.2.2.2.2.2.2.2.2.2.2.1 zg_14_30_77.2.2.2.2.2.2.2.2.2.2.2.2.2.2.2.2.2.1 zg_14_30_77.2.2.2.2.2.2.2.2.2.2.2.2.2.2.2.2.2.2.1 rfl, rfl⟩
theorem zd_14_30_53 : zz_D zy_cycles_14_30 53 (.imul) 1 54 := ⟨zq_104 zg_14_30_77.2.2.2.2.2.2.2.2.2.2.2.2.2.2.2.2.2.2.2.1, rfl⟩
theorem zd_14_30_54 : zz_D zy_cycles_14_30 54 (.iadd) 1 55 := ⟨zq_96 zg_14_30_77.2.2.2.2.2.2.2.2.2.2.2.2.2.2.2.2.2.2.2.2.1, rfl⟩
theorem zd_14_30_55 : zz_D zy_cycles_14_30 55 (.iconst 2) 1 56 := ⟨zq_5 zg_14_30_77.2.2.2.2.2.2.2.2.2.2.2.2.2.2.2.2.2.2.2.2.2.1, rfl⟩
theorem zd_14_30_56 : zz_D zy_cycles_14_30 56 (.isub) 1 57 := ⟨zq_100 zg_14_30_77.2.2.2.2.2.2.2.2.2.2.2.2.2.2.2.2.2.2.2.2.2.2, rfl⟩
theorem zg_14_30_57 : zq_at zy_cycles_14_30.2.1 57 167 ∧ zq_at zy_cycles_14_30.2.1 58 0 ∧ zq_at zy_cycles_14_30.2.1 59 20 ∧ zq_at zy_cycles_14_30.2.1 27 4 ∧ zq_at zy_cycles_14_30.2.1 28 167 ∧ zq_at zy_cycles_14_30.2.1 29 0 ∧ zq_at zy_cycles_14_30.2.1 30 49 := by decide +kernel
theorem zd_14_30_57 : zz_B zy_cycles_14_30 57 Instr.goto 77 60 := ⟨20, zq_167 zg_14_30_57.1 zg_14_30_57.2.1 zg_14_30_57.2.2.1 (by decide), rfl, rfl⟩
theorem zd_14_30_27 : zz_D zy_cycles_14_30 27 (.iconst 1) 1 28 := ⟨zq_4 zg_14_30_57.2.2.2.1, rfl⟩
theorem zd_14_30_28 : zz_B zy_cycles_14_30 28 Instr.goto 77 31 := ⟨49, zq_167 zg_14_30_57.2.2.2.2.1 zg_14_30_57.2.2.2.2.2.1 zg_14_30_57.2.2.2.2.2.2 (by decide), rfl, rfl⟩
-- TensorForgeModel cycles ()I
abbrev zr_cycles_14_30 : Room := { frames := 0, cells := 0, slots := 0, locals := 0 }
def zp_cycles_14_30  (S0 : zz_S) : Int → zz_S → Prop := fun r S => S0 = S ∧ ((-2147483648) ≤ r ∧ r ≤ 2147483647)
theorem zc_cycles_14_30 {g : mm_G} {l : Launch}  (S0 : zz_S) (n : Nat) (hn : zz_end ≤ n) (G_S0 : zz_G S0)  : mm_Met g l zy_cycles_14_30 zr_cycles_14_30 [.ref 1079] (zz_M S0 n) n (zz_QI n (zp_cycles_14_30  S0)) := by
  refine zz_enter (by decide) (Nat.le_of_ble_eq_true rfl) (zz_less (ls1 := [some (.ref 1079)]) ⟨rfl, trivial⟩ ?_)
  refine zz_aload_n (x := 1079) rfl zd_14_30_0 ?_
  refine zz_getr (kd := 0) (z := 1087) zd_14_30_1 zf_Md_36 zT_1079 rfl (zz_ltn hn rfl) (zz_G.eq G_S0 1079 11 1087 rfl rfl) (by decide) 1087 rfl ?_
  refine zz_bipush (by decide) zd_14_30_4 ?_
  have g1 := zz_G.r G_S0 1087 6 (-2147483648) 2147483647 rfl rfl
  refine zz_iald (z := S0 1087 6) zd_14_30_6 zT_1087 rfl (zz_ltn hn rfl) (by decide) (by decide) rfl ?_
  refine zz_aload_n (x := 1079) rfl zd_14_30_7 ?_
  refine zz_getr (kd := 0) (z := 1087) zd_14_30_8 zf_Md_36 zT_1079 rfl (zz_ltn hn rfl) (zz_G.eq G_S0 1079 11 1087 rfl rfl) (by decide) 1087 rfl ?_
  refine zz_bipush (by decide) zd_14_30_11 ?_
  have g2 := zz_G.r G_S0 1087 7 (-2147483648) 2147483647 rfl rfl
  refine zz_iald (z := S0 1087 7) zd_14_30_13 zT_1087 rfl (zz_ltn hn rfl) (by decide) (by decide) rfl ?_
  refine zz_imul zd_14_30_14 ?_
  refine zz_nrm (fun v3 hv3 ev3 => ?_)
  refine zz_istore_n [some (.ref 1079), some (zi v3)] zd_14_30_15 (by decide) rfl ?_
  refine zz_aload_n (x := 1079) rfl zd_14_30_16 ?_
  refine zz_getr (kd := 0) (z := 1087) zd_14_30_17 zf_Md_36 zT_1079 rfl (zz_ltn hn rfl) (zz_G.eq G_S0 1079 11 1087 rfl rfl) (by decide) 1087 rfl ?_
  refine zz_iconst zd_14_30_20 ?_
  have g4 := zz_G.r G_S0 1087 0 (-2147483648) 2147483647 rfl rfl
  refine zz_iald (z := S0 1087 0) zd_14_30_21 zT_1087 rfl (zz_ltn hn rfl) (by decide) (by decide) rfl ?_
  refine zz_bipush (by decide) zd_14_30_22 ?_
  refine zz_icmp_ne (by omega) (by omega) zd_14_30_24 (fun c5 => ?_) (fun c5 => ?_)
  · refine zz_aload_n (x := 1079) rfl zd_14_30_31 ?_
    refine zz_getr (kd := 0) (z := 1087) zd_14_30_32 zf_Md_36 zT_1079 rfl (zz_ltn hn rfl) (zz_G.eq G_S0 1079 11 1087 rfl rfl) (by decide) 1087 rfl ?_
    refine zz_iconst zd_14_30_35 ?_
    refine zz_iald (z := S0 1087 0) zd_14_30_36 zT_1087 rfl (zz_ltn hn rfl) (by decide) (by decide) rfl ?_
    refine zz_iconst zd_14_30_37 ?_
    refine zz_icmp_ne (by omega) (by omega) zd_14_30_38 (fun c6 => ?_) (fun c6 => ?_)
    · refine zz_aload_n (x := 1079) rfl zd_14_30_60 ?_
      refine zz_getr (kd := 0) (z := 1087) zd_14_30_61 zf_Md_36 zT_1079 rfl (zz_ltn hn rfl) (zz_G.eq G_S0 1079 11 1087 rfl rfl) (by decide) 1087 rfl ?_
      refine zz_iconst zd_14_30_64 ?_
      refine zz_iald (z := S0 1087 0) zd_14_30_65 zT_1087 rfl (zz_ltn hn rfl) (by decide) (by decide) rfl ?_
      refine zz_iconst zd_14_30_66 ?_
      refine zz_icmp_ne (by omega) (by omega) zd_14_30_67 (fun c7 => ?_) (fun c7 => ?_)
      · refine zz_iload_n (x := v3) rfl zd_14_30_76 ?_
        exact zz_iret zd_14_30_77 rfl (Nat.zero_le _) (Nat.zero_le _) ⟨_, _, rfl, rfl, by omega⟩
      · refine zz_iconst zd_14_30_70 ?_
        refine zz_iload_n (x := v3) rfl zd_14_30_71 ?_
        refine zz_imul zd_14_30_72 ?_
        refine zz_nrm (fun v8 hv8 ev8 => ?_)
        refine zz_goto zd_14_30_73 ?_
        exact zz_iret zd_14_30_77 rfl (Nat.zero_le _) (Nat.zero_le _) ⟨_, _, rfl, rfl, by omega⟩
    · refine zz_aload_n (x := 1079) rfl zd_14_30_41 ?_
      refine zz_getr (kd := 0) (z := 1087) zd_14_30_42 zf_Md_36 zT_1079 rfl (zz_ltn hn rfl) (zz_G.eq G_S0 1079 11 1087 rfl rfl) (by decide) 1087 rfl ?_
      refine zz_bipush (by decide) zd_14_30_45 ?_
      refine zz_iald (z := S0 1087 6) zd_14_30_47 zT_1087 rfl (zz_ltn hn rfl) (by decide) (by decide) rfl ?_
      refine zz_iconst zd_14_30_48 ?_
      refine zz_aload_n (x := 1079) rfl zd_14_30_49 ?_
      have g9 := zz_G.r G_S0 1079 1 2 8 rfl rfl
      refine zz_geti (z := S0 1079 1) zd_14_30_50 zf_Md_7 zT_1079 rfl (zz_ltn hn rfl) rfl ?_
      refine zz_imul zd_14_30_53 ?_
      refine zz_iadd zd_14_30_54 ?_
      refine zz_nrm (fun v10 hv10 ev10 => ?_)
      refine zz_iconst zd_14_30_55 ?_
      refine zz_isub zd_14_30_56 ?_
      refine zz_nrm (fun v11 hv11 ev11 => ?_)
      refine zz_goto zd_14_30_57 ?_
      exact zz_iret zd_14_30_77 rfl (Nat.zero_le _) (Nat.zero_le _) ⟨_, _, rfl, rfl, by omega⟩
  · refine zz_iconst zd_14_30_27 ?_
    refine zz_goto zd_14_30_28 ?_
    exact zz_iret zd_14_30_77 rfl (Nat.zero_le _) (Nat.zero_le _) ⟨_, _, rfl, rfl, by omega⟩
abbrev zy_popped_14_31 : mm_Y := (⟨"TensorForgeModel", "popped", "(IZ)I"⟩, prog_14_method_31_code, 2, (some .int))
theorem zyw_popped_14_31 : mm_Yw zy_popped_14_31 2 := ⟨mm_tb_1 1956 (by decide +kernel) rfl, mm_tb_1 12 (by decide +kernel) rfl, ⟨by decide, by decide⟩, by decide +kernel⟩
theorem zg_14_31_0 : zq_at zy_popped_14_31.2.1 0 27 ∧ zq_at zy_popped_14_31.2.1 1 153 ∧ zq_at zy_popped_14_31.2.1 2 0 ∧ zq_at zy_popped_14_31.2.1 3 15 ∧ zq_at zy_popped_14_31.2.1 16 26 ∧ zq_at zy_popped_14_31.2.1 17 4 ∧ zq_at zy_popped_14_31.2.1 18 160 ∧ zq_at zy_popped_14_31.2.1 19 0 ∧ zq_at zy_popped_14_31.2.1 20 7 ∧ zq_at zy_popped_14_31.2.1 25 5 ∧ zq_at zy_popped_14_31.2.1 26 172 ∧ zq_at zy_popped_14_31.2.1 21 3 ∧ zq_at zy_popped_14_31.2.1 22 167 ∧ zq_at zy_popped_14_31.2.1 23 0 ∧ zq_at zy_popped_14_31.2.1 24 4 ∧ zq_at zy_popped_14_31.2.1 4 26 ∧ zq_at zy_popped_14_31.2.1 5 154 ∧ zq_at zy_popped_14_31.2.1 6 0 ∧ zq_at zy_popped_14_31.2.1 7 7 ∧ zq_at zy_popped_14_31.2.1 12 6 ∧ zq_at zy_popped_14_31.2.1 13 167 ∧ zq_at zy_popped_14_31.2.1 14 0 ∧ zq_at zy_popped_14_31.2.1 15 13 ∧ zq_at zy_popped_14_31.2.1 8 4 := by decide +kernel
theorem zd_14_31_0 : zz_D zy_popped_14_31 0 (.iload_n 1) 1 1 := ⟨zq_27 zg_14_31_0.1, rfl⟩
theorem zd_14_31_1 : zz_B zy_popped_14_31 1 (Instr.ifCond .eq) 16 4 := ⟨15, zq_153 zg_14_31_0.2.1 zg_14_31_0.2.2.1 zg_14_31_0.2.2.2.1 (by decide), rfl, rfl⟩
theorem zd_14_31_16 : zz_D zy_popped_14_31 16 (.iload_n 0) 1 17 := ⟨zq_26 zg_14_31_0.2.2.2.2.1, rfl⟩
theorem zd_14_31_17 : zz_D zy_popped_14_31 17 (.iconst 1) 1 18 := ⟨zq_4 zg_14_31_0.2.2.2.2.2.1, rfl⟩
theorem zd_14_31_18 : zz_B zy_popped_14_31 18 (Instr.if_icmp .ne) 25 21 := ⟨7, zq_160 zg_14_31_0.2.2.2.2.2.2.1 zg_14_31_0.2.2.2.2.2.2.2.1 zg_14_31_0.2.2.2.2.2.2.2.2.1 (by decide), rfl, rfl⟩
theorem zd_14_31_25 : zz_D zy_popped_14_31 25 (.iconst 2) 1 26 := ⟨zq_5 zg_14_31_0.2.2.2.2.2.2.2.2.2.1, rfl⟩
theorem zd_14_31_26 : zz_D zy_popped_14_31 26 (.ireturn) 1 27 := ⟨zq_172 zg_14_31_0.2.2.2.2.2.2.2.2.2.2.1, rfl⟩
theorem zd_14_31_21 : zz_D zy_popped_14_31 21 (.iconst 0) 1 22 := ⟨zq_3 zg_14_31_0.2.2.2.2.2.2.2.2.2.2.2.1, rfl⟩
theorem zd_14_31_22 : zz_B zy_popped_14_31 22 Instr.goto 26 25 := ⟨4, zq_167 zg_14_31_0.2.2.2.2.2.2.2.2.2.2.2.2.1 zg_14_31_0.2.2.2.2.2.2.2.2.2.2.2.2.2.1 zg_14_31_0.2.2.2.2.2.2.2.2.2.2.2.2.2.2.1 (by decide), rfl, rfl⟩
theorem zd_14_31_4 : zz_D zy_popped_14_31 4 (.iload_n 0) 1 5 := ⟨zq_26 zg_14_31_0.2.2.2.2.2.2.2.2.2.2.2.2.2.2.2.1, rfl⟩
theorem zd_14_31_5 : zz_B zy_popped_14_31 5 (Instr.ifCond .ne) 12 8 := ⟨7, zq_154 zg_14_31_0.2.2.2.2.2.2.2.2.2.2.2.2.2.2.2.2.1 zg_14_31_0.2.2.2.2.2.2.2.2.2.2.2.2.2.2.2.2.2.1 zg_14_31_0.2.2.2.2.2.2.2.2.2.2.2.2.2.2.2.2.2.2.1 (by decide), rfl, rfl⟩
theorem zd_14_31_12 : zz_D zy_popped_14_31 12 (.iconst 3) 1 13 := ⟨zq_6 zg_14_31_0.2.2.2.2.2.2.2.2.2.2.2.2.2.2.2.2.2.2.2.1, rfl⟩
theorem zd_14_31_13 : zz_B zy_popped_14_31 13 Instr.goto 26 16 := ⟨13, zq_167 zg_14_31_0.2.2.2.2.2.2.2.2.2.2.2.2.2.2.2.2.2.2.2.2.1 zg_14_31_0.2.2.2.2.2.2.2.2.2.2.2.2.2.2.2.2.2.2.2.2.2.1 zg_14_31_0.2.2.2.2.2.2.2.2.2.2.2.2.2.2.2.2.2.2.2.2.2.2.1 (by decide), rfl, rfl⟩
theorem zd_14_31_8 : zz_D zy_popped_14_31 8 (.iconst 1) 1 9 := ⟨zq_4 zg_14_31_0.2.2.2.2.2.2.2.2.2.2.2.2.2.2.2.2.2.2.2.2.2.2.2, rfl⟩
theorem zg_14_31_9 : zq_at zy_popped_14_31.2.1 9 167 ∧ zq_at zy_popped_14_31.2.1 10 0 ∧ zq_at zy_popped_14_31.2.1 11 17 := by decide +kernel
theorem zd_14_31_9 : zz_B zy_popped_14_31 9 Instr.goto 26 12 := ⟨17, zq_167 zg_14_31_9.1 zg_14_31_9.2.1 zg_14_31_9.2.2 (by decide), rfl, rfl⟩
-- TensorForgeModel popped (IZ)I
abbrev zr_popped_14_31 : Room := { frames := 0, cells := 0, slots := 0, locals := 0 }
def zp_popped_14_31 (p0 : Int) (p1 : Int) (S0 : zz_S) : Int → zz_S → Prop := fun r S => S0 = S ∧ (0 ≤ r ∧ r ≤ 3)
theorem zc_popped_14_31 {g : mm_G} {l : Launch} (p0 : Int) (p1 : Int) (S0 : zz_S) (n : Nat) (hn : zz_end ≤ n) (G_S0 : zz_G S0) (hp0 : (-2147483648) ≤ p0 ∧ p0 ≤ 2147483647) (hp1 : 0 ≤ p1 ∧ p1 ≤ 1) : mm_Met g l zy_popped_14_31 zr_popped_14_31 [zi p0, zi p1] (zz_M S0 n) n (zz_QI n (zp_popped_14_31 p0 p1 S0)) := by
  refine zz_enter (by decide) (Nat.le_of_ble_eq_true rfl) (zz_less (ls1 := [some (zi p0), some (zi p1)]) ⟨rfl, ⟨rfl, trivial⟩⟩ ?_)
  refine zz_iload_n (x := p1) rfl zd_14_31_0 ?_
  refine zz_if_eq (by omega) zd_14_31_1 (fun c1 => ?_) (fun c1 => ?_)
  · refine zz_iload_n (x := p0) rfl zd_14_31_16 ?_
    refine zz_iconst zd_14_31_17 ?_
    refine zz_icmp_ne (by omega) (by omega) zd_14_31_18 (fun c2 => ?_) (fun c2 => ?_)
    · refine zz_iconst zd_14_31_25 ?_
      exact zz_iret zd_14_31_26 rfl (Nat.zero_le _) (Nat.zero_le _) ⟨_, _, rfl, rfl, by omega⟩
    · refine zz_iconst zd_14_31_21 ?_
      refine zz_goto zd_14_31_22 ?_
      exact zz_iret zd_14_31_26 rfl (Nat.zero_le _) (Nat.zero_le _) ⟨_, _, rfl, rfl, by omega⟩
  · refine zz_iload_n (x := p0) rfl zd_14_31_4 ?_
    refine zz_if_ne (by omega) zd_14_31_5 (fun c3 => ?_) (fun c3 => ?_)
    · refine zz_iconst zd_14_31_12 ?_
      refine zz_goto zd_14_31_13 ?_
      exact zz_iret zd_14_31_26 rfl (Nat.zero_le _) (Nat.zero_le _) ⟨_, _, rfl, rfl, by omega⟩
    · refine zz_iconst zd_14_31_8 ?_
      refine zz_goto zd_14_31_9 ?_
      exact zz_iret zd_14_31_26 rfl (Nat.zero_le _) (Nat.zero_le _) ⟨_, _, rfl, rfl, by omega⟩
abbrev zy_pushes_14_32 : mm_Y := (⟨"TensorForgeModel", "pushes", "(IZ)I"⟩, prog_14_method_32_code, 2, (some .int))
theorem zyw_pushes_14_32 : mm_Yw zy_pushes_14_32 2 := ⟨mm_tb_1 1945 (by decide +kernel) rfl, mm_tb_1 12 (by decide +kernel) rfl, ⟨by decide, by decide⟩, by decide +kernel⟩
theorem zg_14_32_0 : zq_at zy_pushes_14_32.2.1 0 27 ∧ zq_at zy_pushes_14_32.2.1 1 153 ∧ zq_at zy_pushes_14_32.2.1 2 0 ∧ zq_at zy_pushes_14_32.2.1 3 15 ∧ zq_at zy_pushes_14_32.2.1 16 26 ∧ zq_at zy_pushes_14_32.2.1 17 4 ∧ zq_at zy_pushes_14_32.2.1 18 160 ∧ zq_at zy_pushes_14_32.2.1 19 0 ∧ zq_at zy_pushes_14_32.2.1 20 7 ∧ zq_at zy_pushes_14_32.2.1 25 6 ∧ zq_at zy_pushes_14_32.2.1 26 172 ∧ zq_at zy_pushes_14_32.2.1 21 4 ∧ zq_at zy_pushes_14_32.2.1 22 167 ∧ zq_at zy_pushes_14_32.2.1 23 0 ∧ zq_at zy_pushes_14_32.2.1 24 4 ∧ zq_at zy_pushes_14_32.2.1 4 26 ∧ zq_at zy_pushes_14_32.2.1 5 154 ∧ zq_at zy_pushes_14_32.2.1 6 0 ∧ zq_at zy_pushes_14_32.2.1 7 7 ∧ zq_at zy_pushes_14_32.2.1 12 5 ∧ zq_at zy_pushes_14_32.2.1 13 167 ∧ zq_at zy_pushes_14_32.2.1 14 0 ∧ zq_at zy_pushes_14_32.2.1 15 13 ∧ zq_at zy_pushes_14_32.2.1 8 3 := by decide +kernel
theorem zd_14_32_0 : zz_D zy_pushes_14_32 0 (.iload_n 1) 1 1 := ⟨zq_27 zg_14_32_0.1, rfl⟩
theorem zd_14_32_1 : zz_B zy_pushes_14_32 1 (Instr.ifCond .eq) 16 4 := ⟨15, zq_153 zg_14_32_0.2.1 zg_14_32_0.2.2.1 zg_14_32_0.2.2.2.1 (by decide), rfl, rfl⟩
theorem zd_14_32_16 : zz_D zy_pushes_14_32 16 (.iload_n 0) 1 17 := ⟨zq_26 zg_14_32_0.2.2.2.2.1, rfl⟩
theorem zd_14_32_17 : zz_D zy_pushes_14_32 17 (.iconst 1) 1 18 := ⟨zq_4 zg_14_32_0.2.2.2.2.2.1, rfl⟩
theorem zd_14_32_18 : zz_B zy_pushes_14_32 18 (Instr.if_icmp .ne) 25 21 := ⟨7, zq_160 zg_14_32_0.2.2.2.2.2.2.1 zg_14_32_0.2.2.2.2.2.2.2.1 zg_14_32_0.2.2.2.2.2.2.2.2.1 (by decide), rfl, rfl⟩
theorem zd_14_32_25 : zz_D zy_pushes_14_32 25 (.iconst 3) 1 26 := ⟨zq_6 zg_14_32_0.2.2.2.2.2.2.2.2.2.1, rfl⟩
theorem zd_14_32_26 : zz_D zy_pushes_14_32 26 (.ireturn) 1 27 := ⟨zq_172 zg_14_32_0.2.2.2.2.2.2.2.2.2.2.1, rfl⟩
theorem zd_14_32_21 : zz_D zy_pushes_14_32 21 (.iconst 1) 1 22 := ⟨zq_4 zg_14_32_0.2.2.2.2.2.2.2.2.2.2.2.1, rfl⟩
theorem zd_14_32_22 : zz_B zy_pushes_14_32 22 Instr.goto 26 25 := ⟨4, zq_167 zg_14_32_0.2.2.2.2.2.2.2.2.2.2.2.2.1 zg_14_32_0.2.2.2.2.2.2.2.2.2.2.2.2.2.1 zg_14_32_0.2.2.2.2.2.2.2.2.2.2.2.2.2.2.1 (by decide), rfl, rfl⟩
theorem zd_14_32_4 : zz_D zy_pushes_14_32 4 (.iload_n 0) 1 5 := ⟨zq_26 zg_14_32_0.2.2.2.2.2.2.2.2.2.2.2.2.2.2.2.1, rfl⟩
theorem zd_14_32_5 : zz_B zy_pushes_14_32 5 (Instr.ifCond .ne) 12 8 := ⟨7, zq_154 zg_14_32_0.2.2.2.2.2.2.2.2.2.2.2.2.2.2.2.2.1 zg_14_32_0.2.2.2.2.2.2.2.2.2.2.2.2.2.2.2.2.2.1 zg_14_32_0.2.2.2.2.2.2.2.2.2.2.2.2.2.2.2.2.2.2.1 (by decide), rfl, rfl⟩
theorem zd_14_32_12 : zz_D zy_pushes_14_32 12 (.iconst 2) 1 13 := ⟨zq_5 zg_14_32_0.2.2.2.2.2.2.2.2.2.2.2.2.2.2.2.2.2.2.2.1, rfl⟩
theorem zd_14_32_13 : zz_B zy_pushes_14_32 13 Instr.goto 26 16 := ⟨13, zq_167 zg_14_32_0.2.2.2.2.2.2.2.2.2.2.2.2.2.2.2.2.2.2.2.2.1 zg_14_32_0.2.2.2.2.2.2.2.2.2.2.2.2.2.2.2.2.2.2.2.2.2.1 zg_14_32_0.2.2.2.2.2.2.2.2.2.2.2.2.2.2.2.2.2.2.2.2.2.2.1 (by decide), rfl, rfl⟩
theorem zd_14_32_8 : zz_D zy_pushes_14_32 8 (.iconst 0) 1 9 := ⟨zq_3 zg_14_32_0.2.2.2.2.2.2.2.2.2.2.2.2.2.2.2.2.2.2.2.2.2.2.2, rfl⟩
theorem zg_14_32_9 : zq_at zy_pushes_14_32.2.1 9 167 ∧ zq_at zy_pushes_14_32.2.1 10 0 ∧ zq_at zy_pushes_14_32.2.1 11 17 := by decide +kernel
theorem zd_14_32_9 : zz_B zy_pushes_14_32 9 Instr.goto 26 12 := ⟨17, zq_167 zg_14_32_9.1 zg_14_32_9.2.1 zg_14_32_9.2.2 (by decide), rfl, rfl⟩
-- TensorForgeModel pushes (IZ)I
abbrev zr_pushes_14_32 : Room := { frames := 0, cells := 0, slots := 0, locals := 0 }
def zp_pushes_14_32 (p0 : Int) (p1 : Int) (S0 : zz_S) : Int → zz_S → Prop := fun r S => S0 = S ∧ (0 ≤ r ∧ r ≤ 3)
theorem zc_pushes_14_32 {g : mm_G} {l : Launch} (p0 : Int) (p1 : Int) (S0 : zz_S) (n : Nat) (hn : zz_end ≤ n) (G_S0 : zz_G S0) (hp0 : (-2147483648) ≤ p0 ∧ p0 ≤ 2147483647) (hp1 : 0 ≤ p1 ∧ p1 ≤ 1) : mm_Met g l zy_pushes_14_32 zr_pushes_14_32 [zi p0, zi p1] (zz_M S0 n) n (zz_QI n (zp_pushes_14_32 p0 p1 S0)) := by
  refine zz_enter (by decide) (Nat.le_of_ble_eq_true rfl) (zz_less (ls1 := [some (zi p0), some (zi p1)]) ⟨rfl, ⟨rfl, trivial⟩⟩ ?_)
  refine zz_iload_n (x := p1) rfl zd_14_32_0 ?_
  refine zz_if_eq (by omega) zd_14_32_1 (fun c1 => ?_) (fun c1 => ?_)
  · refine zz_iload_n (x := p0) rfl zd_14_32_16 ?_
    refine zz_iconst zd_14_32_17 ?_
    refine zz_icmp_ne (by omega) (by omega) zd_14_32_18 (fun c2 => ?_) (fun c2 => ?_)
    · refine zz_iconst zd_14_32_25 ?_
      exact zz_iret zd_14_32_26 rfl (Nat.zero_le _) (Nat.zero_le _) ⟨_, _, rfl, rfl, by omega⟩
    · refine zz_iconst zd_14_32_21 ?_
      refine zz_goto zd_14_32_22 ?_
      exact zz_iret zd_14_32_26 rfl (Nat.zero_le _) (Nat.zero_le _) ⟨_, _, rfl, rfl, by omega⟩
  · refine zz_iload_n (x := p0) rfl zd_14_32_4 ?_
    refine zz_if_ne (by omega) zd_14_32_5 (fun c3 => ?_) (fun c3 => ?_)
    · refine zz_iconst zd_14_32_12 ?_
      refine zz_goto zd_14_32_13 ?_
      exact zz_iret zd_14_32_26 rfl (Nat.zero_le _) (Nat.zero_le _) ⟨_, _, rfl, rfl, by omega⟩
    · refine zz_iconst zd_14_32_8 ?_
      refine zz_goto zd_14_32_9 ?_
      exact zz_iret zd_14_32_26 rfl (Nat.zero_le _) (Nat.zero_le _) ⟨_, _, rfl, rfl, by omega⟩
abbrev zy_pushAll_14_33 : mm_Y := (⟨"TensorForgeModel", "pushAll", "(I)V"⟩, prog_14_method_33_code, 4, none)
theorem zyw_pushAll_14_33 : mm_Yw zy_pushAll_14_33 1 := ⟨mm_tb_1 1942 (by decide +kernel) rfl, mm_tb_1 12 (by decide +kernel) rfl, ⟨by decide, by decide⟩, by decide +kernel⟩
theorem zf_Md_70 : mm_Fl "TensorForgeModel" 70 11 25 (.array .int) true := ⟨R_Md, F_Md, 69, t_Md, rfl, i_Md, by decide, mm_tb_1 1636 (by decide +kernel) rfl, rfl, t_Md_ok, n_Md, rfl, by decide +kernel⟩
theorem zf_Md_60 : mm_Fl "TensorForgeModel" 60 11 22 (.array .int) true := ⟨R_Md, F_Md, 69, t_Md, rfl, i_Md, by decide, mm_tb_1 1633 (by decide +kernel) rfl, rfl, t_Md_ok, n_Md, rfl, by decide +kernel⟩
theorem zf_Md_63 : mm_Fl "TensorForgeModel" 63 11 23 (.array .boolean) true := ⟨R_Md, F_Md, 69, t_Md, rfl, i_Md, by decide, mm_tb_1 1634 (by decide +kernel) rfl, rfl, t_Md_ok, n_Md, rfl, by decide +kernel⟩
theorem zf_Md_51 : mm_Fl "TensorForgeModel" 51 11 18 (.array .int) true := ⟨R_Md, F_Md, 69, t_Md, rfl, i_Md, by decide, mm_tb_1 1629 (by decide +kernel) rfl, rfl, t_Md_ok, n_Md, rfl, by decide +kernel⟩
theorem zf_Md_54 : mm_Fl "TensorForgeModel" 54 11 20 (.array .int) true := ⟨R_Md, F_Md, 69, t_Md, rfl, i_Md, by decide, mm_tb_1 1631 (by decide +kernel) rfl, rfl, t_Md_ok, n_Md, rfl, by decide +kernel⟩
theorem zk_Md_268 : mm_Sl "TensorForgeModel" 268 2 zy_pushes_14_32 := ⟨zyw_pushes_14_32, mm_tb_1 1943 (by decide +kernel) rfl, mm_tb_1 1944 (by decide +kernel) rfl⟩
theorem zg_14_33_0 : zq_at zy_pushAll_14_33.2.1 0 3 ∧ zq_at zy_pushAll_14_33.2.1 1 61 ∧ zq_at zy_pushAll_14_33.2.1 2 28 ∧ zq_at zy_pushAll_14_33.2.1 3 6 ∧ zq_at zy_pushAll_14_33.2.1 4 162 ∧ zq_at zy_pushAll_14_33.2.1 5 0 ∧ zq_at zy_pushAll_14_33.2.1 6 104 ∧ zq_at zy_pushAll_14_33.2.1 7 42 ∧ zq_at zy_pushAll_14_33.2.1 8 180 ∧ zq_at zy_pushAll_14_33.2.1 9 0 ∧ zq_at zy_pushAll_14_33.2.1 10 70 ∧ zq_at zy_pushAll_14_33.2.1 11 28 ∧ zq_at zy_pushAll_14_33.2.1 12 46 ∧ zq_at zy_pushAll_14_33.2.1 13 62 ∧ zq_at zy_pushAll_14_33.2.1 14 29 ∧ zq_at zy_pushAll_14_33.2.1 15 155 ∧ zq_at zy_pushAll_14_33.2.1 16 0 ∧ zq_at zy_pushAll_14_33.2.1 17 87 ∧ zq_at zy_pushAll_14_33.2.1 102 132 ∧ zq_at zy_pushAll_14_33.2.1 103 2 ∧ zq_at zy_pushAll_14_33.2.1 104 1 ∧ zq_at zy_pushAll_14_33.2.1 105 167 ∧ zq_at zy_pushAll_14_33.2.1 106 255 ∧ zq_at zy_pushAll_14_33.2.1 107 153 := by decide +kernel
theorem zd_14_33_0 : zz_D zy_pushAll_14_33 0 (.iconst 0) 1 1 := ⟨zq_3 zg_14_33_0.1, rfl⟩
theorem zd_14_33_1 : zz_D zy_pushAll_14_33 1 (.istore_n 2) 1 2 := ⟨zq_61 zg_14_33_0.2.1, rfl⟩
theorem zd_14_33_2 : zz_D zy_pushAll_14_33 2 (.iload_n 2) 1 3 := ⟨zq_28 zg_14_33_0.2.2.1, rfl⟩
theorem zd_14_33_3 : zz_D zy_pushAll_14_33 3 (.iconst 3) 1 4 := ⟨zq_6 zg_14_33_0.2.2.2.1, rfl⟩
theorem zd_14_33_4 : zz_B zy_pushAll_14_33 4 (Instr.if_icmp .ge) 108 7 := ⟨104, zq_162 zg_14_33_0.2.2.2.2.1 zg_14_33_0.2.2.2.2.2.1 zg_14_33_0.2.2.2.2.2.2.1 (by decide), rfl, rfl⟩
theorem zd_14_33_7 : zz_D zy_pushAll_14_33 7 (.aload_n 0) 1 8 := ⟨zq_42 zg_14_33_0.2.2.2.2.2.2.2.1, rfl⟩
theorem zd_14_33_8 : zz_D zy_pushAll_14_33 8 (.getfield 70) 3 11 := ⟨zq_180 zg_14_33_0.2.2.2.2.2.2.2.2.1 zg_14_33_0.2.2.2.2.2.2.2.2.2.1 zg_14_33_0.2.2.2.2.2.2.2.2.2.2.1 rfl, rfl⟩
theorem zd_14_33_11 : zz_D zy_pushAll_14_33 11 (.iload_n 2) 1 12 := ⟨zq_28 zg_14_33_0.2.2.2.2.2.2.2.2.2.2.2.1, rfl⟩
theorem zd_14_33_12 : zz_D zy_pushAll_14_33 12 (.iaload) 1 13 := ⟨zq_46 zg_14_33_0.2.2.2.2.2.2.2.2.2.2.2.2.1, rfl⟩
theorem zd_14_33_13 : zz_D zy_pushAll_14_33 13 (.istore_n 3) 1 14 := ⟨zq_62 zg_14_33_0.2.2.2.2.2.2.2.2.2.2.2.2.2.1, rfl⟩
theorem zd_14_33_14 : zz_D zy_pushAll_14_33 14 (.iload_n 3) 1 15 := ⟨zq_29 zg_14_33_0.2.2.2.2.2.2.2.2.2.2.2.2.2.2.1, rfl⟩
theorem zd_14_33_15 : zz_B zy_pushAll_14_33 15 (Instr.ifCond .lt) 102 18 := ⟨87, zq_155 zg_14_33_0.2.2.2.2.2.2.2.2.2.2.2.2.2.2.2.1 zg_14_33_0.2.2.2.2.2.2.2.2.2.2.2.2.2.2.2.2.1 zg_14_33_0.2.2.2.2.2.2.2.2.2.2.2.2.2.2.2.2.2.1 (by decide), rfl, rfl⟩
theorem zd_14_33_102 : zz_D zy_pushAll_14_33 102 (.iinc 2 1) 3 105 := ⟨zq_132 zg_14_33_0.2.2.2.2.2.2.2.2.2.2.2.2.2.2.2.2.2.2.1 zg_14_33_0.2.2.2.2.2.2.2.2.2.2.2.2.2.2.2.2.2.2.2.1 zg_14_33_0.2.2.2.2.2.2.2.2.2.2.2.2.2.2.2.2.2.2.2.2.1 (by decide), rfl⟩
theorem zd_14_33_105 : zz_B zy_pushAll_14_33 105 Instr.goto 2 108 := ⟨(-103), zq_167 zg_14_33_0.2.2.2.2.2.2.2.2.2.2.2.2.2.2.2.2.2.2.2.2.2.1 zg_14_33_0.2.2.2.2.2.2.2.2.2.2.2.2.2.2.2.2.2.2.2.2.2.2.1 zg_14_33_0.2.2.2.2.2.2.2.2.2.2.2.2.2.2.2.2.2.2.2.2.2.2.2 (by decide), rfl, rfl⟩
theorem zg_14_33_18 : zq_at zy_pushAll_14_33.2.1 18 42 ∧ zq_at zy_pushAll_14_33.2.1 19 180 ∧ zq_at zy_pushAll_14_33.2.1 20 0 ∧ zq_at zy_pushAll_14_33.2.1 21 60 ∧ zq_at zy_pushAll_14_33.2.1 22 29 ∧ zq_at zy_pushAll_14_33.2.1 23 46 ∧ zq_at zy_pushAll_14_33.2.1 24 27 ∧ zq_at zy_pushAll_14_33.2.1 25 163 ∧ zq_at zy_pushAll_14_33.2.1 26 0 ∧ zq_at zy_pushAll_14_33.2.1 27 77 ∧ zq_at zy_pushAll_14_33.2.1 28 42 ∧ zq_at zy_pushAll_14_33.2.1 29 180 ∧ zq_at zy_pushAll_14_33.2.1 30 0 ∧ zq_at zy_pushAll_14_33.2.1 31 63 ∧ zq_at zy_pushAll_14_33.2.1 32 29 ∧ zq_at zy_pushAll_14_33.2.1 33 51 ∧ zq_at zy_pushAll_14_33.2.1 34 154 ∧ zq_at zy_pushAll_14_33.2.1 35 0 ∧ zq_at zy_pushAll_14_33.2.1 36 68 ∧ zq_at zy_pushAll_14_33.2.1 37 42 ∧ zq_at zy_pushAll_14_33.2.1 38 42 ∧ zq_at zy_pushAll_14_33.2.1 39 180 ∧ zq_at zy_pushAll_14_33.2.1 40 0 ∧ zq_at zy_pushAll_14_33.2.1 41 29 := by decide +kernel
theorem zd_14_33_18 : zz_D zy_pushAll_14_33 18 (.aload_n 0) 1 19 := ⟨zq_42 zg_14_33_18.1, rfl⟩
theorem zd_14_33_19 : zz_D zy_pushAll_14_33 19 (.getfield 60) 3 22 := ⟨zq_180 zg_14_33_18.2.1 zg_14_33_18.2.2.1 zg_14_33_18.2.2.2.1 rfl, rfl⟩
theorem zd_14_33_22 : zz_D zy_pushAll_14_33 22 (.iload_n 3) 1 23 := ⟨zq_29 zg_14_33_18.2.2.2.2.1, rfl⟩
theorem zd_14_33_23 : zz_D zy_pushAll_14_33 23 (.iaload) 1 24 := ⟨zq_46 zg_14_33_18.2.2.2.2.2.1, rfl⟩
theorem zd_14_33_24 : zz_D zy_pushAll_14_33 24 (.iload_n 1) 1 25 := ⟨zq_27 zg_14_33_18.2.2.2.2.2.2.1, rfl⟩
theorem zd_14_33_25 : zz_B zy_pushAll_14_33 25 (Instr.if_icmp .gt) 102 28 := ⟨77, zq_163 zg_14_33_18.2.2.2.2.2.2.2.1 zg_14_33_18.2.2.2.2.2.2.2.2.1 zg_14_33_18.2.2.2.2.2.2.2.2.2.1 (by decide), rfl, rfl⟩
theorem zd_14_33_28 : zz_D zy_pushAll_14_33 28 (.aload_n 0) 1 29 := ⟨zq_42 zg_14_33_18.2.2.2.2.2.2.2.2.2.2.1, rfl⟩
theorem zd_14_33_29 : zz_D zy_pushAll_14_33 29 (.getfield 63) 3 32 := ⟨zq_180 zg_14_33_18.2.2.2.2.2.2.2.2.2.2.2.1 zg_14_33_18.2.2.2.2.2.2.2.2.2.2.2.2.1 zg_14_33_18.2.2.2.2.2.2.2.2.2.2.2.2.2.1 rfl, rfl⟩
theorem zd_14_33_32 : zz_D zy_pushAll_14_33 32 (.iload_n 3) 1 33 := ⟨zq_29 zg_14_33_18.2.2.2.2.2.2.2.2.2.2.2.2.2.2.1, rfl⟩
theorem zd_14_33_33 : zz_D zy_pushAll_14_33 33 (.baload) 1 34 := ⟨zq_51 zg_14_33_18.2.2.2.2.2.2.2.2.2.2.2.2.2.2.2.1, rfl⟩
theorem zd_14_33_34 : zz_B zy_pushAll_14_33 34 (Instr.ifCond .ne) 102 37 := ⟨68, zq_154 zg_14_33_18.2.2.2.2.2.2.2.2.2.2.2.2.2.2.2.2.1 zg_14_33_18.2.2.2.2.2.2.2.2.2.2.2.2.2.2.2.2.2.1 zg_14_33_18.2.2.2.2.2.2.2.2.2.2.2.2.2.2.2.2.2.2.1 (by decide), rfl, rfl⟩
theorem zd_14_33_37 : zz_D zy_pushAll_14_33 37 (.aload_n 0) 1 38 := ⟨zq_42 zg_14_33_18.2.2.2.2.2.2.2.2.2.2.2.2.2.2.2.2.2.2.2.1, rfl⟩
theorem zd_14_33_38 : zz_D zy_pushAll_14_33 38 (.aload_n 0) 1 39 := ⟨zq_42 zg_14_33_18.2.2.2.2.2.2.2.2.2.2.2.2.2.2.2.2.2.2.2.2.1, rfl⟩
theorem zd_14_33_39 : zz_D zy_pushAll_14_33 39 (.getfield 29) 3 42 := ⟨zq_180 zg_14_33_18.2.2.2.2.2.2.2.2.2.2.2.2.2.2.2.2.2.2.2.2.2.1 zg_14_33_18.2.2.2.2.2.2.2.2.2.2.2.2.2.2.2.2.2.2.2.2.2.2.1 zg_14_33_18.2.2.2.2.2.2.2.2.2.2.2.2.2.2.2.2.2.2.2.2.2.2.2 rfl, rfl⟩
theorem zg_14_33_42 : zq_at zy_pushAll_14_33.2.1 42 29 ∧ zq_at zy_pushAll_14_33.2.1 43 47 ∧ zq_at zy_pushAll_14_33.2.1 44 182 ∧ zq_at zy_pushAll_14_33.2.1 45 0 ∧ zq_at zy_pushAll_14_33.2.1 46 234 ∧ zq_at zy_pushAll_14_33.2.1 47 42 ∧ zq_at zy_pushAll_14_33.2.1 48 180 ∧ zq_at zy_pushAll_14_33.2.1 49 0 ∧ zq_at zy_pushAll_14_33.2.1 50 63 ∧ zq_at zy_pushAll_14_33.2.1 51 29 ∧ zq_at zy_pushAll_14_33.2.1 52 4 ∧ zq_at zy_pushAll_14_33.2.1 53 84 ∧ zq_at zy_pushAll_14_33.2.1 54 42 ∧ zq_at zy_pushAll_14_33.2.1 55 180 ∧ zq_at zy_pushAll_14_33.2.1 56 0 ∧ zq_at zy_pushAll_14_33.2.1 57 51 ∧ zq_at zy_pushAll_14_33.2.1 58 42 ∧ zq_at zy_pushAll_14_33.2.1 59 180 ∧ zq_at zy_pushAll_14_33.2.1 60 0 ∧ zq_at zy_pushAll_14_33.2.1 61 54 ∧ zq_at zy_pushAll_14_33.2.1 62 29 ∧ zq_at zy_pushAll_14_33.2.1 63 46 ∧ zq_at zy_pushAll_14_33.2.1 64 3 := by decide +kernel
theorem zd_14_33_42 : zz_D zy_pushAll_14_33 42 (.iload_n 3) 1 43 := ⟨zq_29 zg_14_33_42.1, rfl⟩
theorem zd_14_33_43 : zz_D zy_pushAll_14_33 43 (.laload) 1 44 := ⟨zq_47 zg_14_33_42.2.1, rfl⟩
theorem zd_14_33_44 : zz_D zy_pushAll_14_33 44 (.invokevirtual 234) 3 47 := ⟨zq_182 zg_14_33_42.2.2.1 zg_14_33_42.2.2.2.1 zg_14_33_42.2.2.2.2.1 rfl, rfl⟩
theorem zd_14_33_47 : zz_D zy_pushAll_14_33 47 (.aload_n 0) 1 48 := ⟨zq_42 zg_14_33_42.2.2.2.2.2.1, rfl⟩
theorem zd_14_33_48 : zz_D zy_pushAll_14_33 48 (.getfield 63) 3 51 := ⟨zq_180 zg_14_33_42.2.2.2.2.2.2.1 zg_14_33_42.2.2.2.2.2.2.2.1 zg_14_33_42.2.2.2.2.2.2.2.2.1 rfl, rfl⟩
theorem zd_14_33_51 : zz_D zy_pushAll_14_33 51 (.iload_n 3) 1 52 := ⟨zq_29 zg_14_33_42.2.2.2.2.2.2.2.2.2.1, rfl⟩
theorem zd_14_33_52 : zz_D zy_pushAll_14_33 52 (.iconst 1) 1 53 := ⟨zq_4 zg_14_33_42.2.2.2.2.2.2.2.2.2.2.1, rfl⟩
theorem zd_14_33_53 : zz_D zy_pushAll_14_33 53 (.bastore) 1 54 := ⟨zq_84 zg_14_33_42.2.2.2.2.2.2.2.2.2.2.2.1, rfl⟩
theorem zd_14_33_54 : zz_D zy_pushAll_14_33 54 (.aload_n 0) 1 55 := ⟨zq_42 zg_14_33_42.2.2.2.2.2.2.2.2.2.2.2.2.1, rfl⟩
theorem zd_14_33_55 : zz_D zy_pushAll_14_33 55 (.getfield 51) 3 58 := ⟨zq_180 zg_14_33_42.2.2.2.2.2.2.2.2.2.2.2.2.2.1 zg_14_33_42.2.2.2.2.2.2.2.2.2.2.2.2.2.2.1 zg_14_33_42.2.2.2.2.2.2.2.2.2.2.2.2.2.2.2.1 rfl, rfl⟩
theorem zd_14_33_58 : zz_D zy_pushAll_14_33 58 (.aload_n 0) 1 59 := ⟨zq_42 zg_14_33_42.2.2.2.2.2.2.2.2.2.2.2.2.2.2.2.2.1, rfl⟩
theorem zd_14_33_59 : zz_D zy_pushAll_14_33 59 (.getfield 54) 3 62 := ⟨zq_180 zg_14_33_42.2.2.2.2.2.2.2.2.2.2.2.2.2.2.2.2.2.1 zg_14_33_42.2.2.2.2.2.2.2.2.2.2.2.2.2.2.2.2.2.2.1 zg_14_33_42.2.2.2.2.2.2.2.2.2.2.2.2.2.2.2.2.2.2.2.1 rfl, rfl⟩
theorem zd_14_33_62 : zz_D zy_pushAll_14_33 62 (.iload_n 3) 1 63 := ⟨zq_29 zg_14_33_42.2.2.2.2.2.2.2.2.2.2.2.2.2.2.2.2.2.2.2.2.1, rfl⟩
theorem zd_14_33_63 : zz_D zy_pushAll_14_33 63 (.iaload) 1 64 := ⟨zq_46 zg_14_33_42.2.2.2.2.2.2.2.2.2.2.2.2.2.2.2.2.2.2.2.2.2.1, rfl⟩
theorem zd_14_33_64 : zz_D zy_pushAll_14_33 64 (.iconst 0) 1 65 := ⟨zq_3 zg_14_33_42.2.2.2.2.2.2.2.2.2.2.2.2.2.2.2.2.2.2.2.2.2.2, rfl⟩
theorem zg_14_33_65 : zq_at zy_pushAll_14_33.2.1 65 184 ∧ zq_at zy_pushAll_14_33.2.1 66 1 ∧ zq_at zy_pushAll_14_33.2.1 67 12 ∧ zq_at zy_pushAll_14_33.2.1 68 92 ∧ zq_at zy_pushAll_14_33.2.1 69 46 ∧ zq_at zy_pushAll_14_33.2.1 70 42 ∧ zq_at zy_pushAll_14_33.2.1 71 180 ∧ zq_at zy_pushAll_14_33.2.1 72 0 ∧ zq_at zy_pushAll_14_33.2.1 73 36 ∧ zq_at zy_pushAll_14_33.2.1 74 6 ∧ zq_at zy_pushAll_14_33.2.1 75 46 ∧ zq_at zy_pushAll_14_33.2.1 76 96 ∧ zq_at zy_pushAll_14_33.2.1 77 79 ∧ zq_at zy_pushAll_14_33.2.1 78 42 ∧ zq_at zy_pushAll_14_33.2.1 79 180 ∧ zq_at zy_pushAll_14_33.2.1 80 0 ∧ zq_at zy_pushAll_14_33.2.1 81 51 ∧ zq_at zy_pushAll_14_33.2.1 82 42 ∧ zq_at zy_pushAll_14_33.2.1 83 180 ∧ zq_at zy_pushAll_14_33.2.1 84 0 ∧ zq_at zy_pushAll_14_33.2.1 85 54 ∧ zq_at zy_pushAll_14_33.2.1 86 29 ∧ zq_at zy_pushAll_14_33.2.1 87 46 ∧ zq_at zy_pushAll_14_33.2.1 88 4 := by decide +kernel
theorem zd_14_33_65 : zz_D zy_pushAll_14_33 65 (.invokestatic 268) 3 68 := ⟨zq_184 zg_14_33_65.1 zg_14_33_65.2.1 zg_14_33_65.2.2.1 rfl, rfl⟩
theorem zd_14_33_68 : zz_D zy_pushAll_14_33 68 (.dup2) 1 69 := ⟨zq_92 zg_14_33_65.2.2.2.1, rfl⟩
theorem zd_14_33_69 : zz_D zy_pushAll_14_33 69 (.iaload) 1 70 := ⟨zq_46 zg_14_33_65.2.2.2.2.1, rfl⟩
theorem zd_14_33_70 : zz_D zy_pushAll_14_33 70 (.aload_n 0) 1 71 := ⟨zq_42 zg_14_33_65.2.2.2.2.2.1, rfl⟩
theorem zd_14_33_71 : zz_D zy_pushAll_14_33 71 (.getfield 36) 3 74 := ⟨zq_180 zg_14_33_65.2.2.2.2.2.2.1 zg_14_33_65.2.2.2.2.2.2.2.1 zg_14_33_65.2.2.2.2.2.2.2.2.1 rfl, rfl⟩
theorem zd_14_33_74 : zz_D zy_pushAll_14_33 74 (.iconst 3) 1 75 := ⟨zq_6 zg_14_33_65.2.2.2.2.2.2.2.2.2.1, rfl⟩
theorem zd_14_33_75 : zz_D zy_pushAll_14_33 75 (.iaload) 1 76 := ⟨zq_46 zg_14_33_65.2.2.2.2.2.2.2.2.2.2.1, rfl⟩
theorem zd_14_33_76 : zz_D zy_pushAll_14_33 76 (.iadd) 1 77 := ⟨zq_96 zg_14_33_65.2.2.2.2.2.2.2.2.2.2.2.1, rfl⟩
theorem zd_14_33_77 : zz_D zy_pushAll_14_33 77 (.iastore) 1 78 := ⟨zq_79 zg_14_33_65.2.2.2.2.2.2.2.2.2.2.2.2.1, rfl⟩
theorem zd_14_33_78 : zz_D zy_pushAll_14_33 78 (.aload_n 0) 1 79 := ⟨zq_42 zg_14_33_65.2.2.2.2.2.2.2.2.2.2.2.2.2.1, rfl⟩
theorem zd_14_33_79 : zz_D zy_pushAll_14_33 79 (.getfield 51) 3 82 := ⟨zq_180 zg_14_33_65.2.2.2.2.2.2.2.2.2.2.2.2.2.2.1 zg_14_33_65.2.2.2.2.2.2.2.2.2.2.2.2.2.2.2.1 zg_14_33_65.2.2.2.2.2.2.2.2.2.2.2.2.2.2.2.2.1 rfl, rfl⟩
theorem zd_14_33_82 : zz_D zy_pushAll_14_33 82 (.aload_n 0) 1 83 := ⟨zq_42 zg_14_33_65.2.2.2.2.2.2.2.2.2.2.2.2.2.2.2.2.2.1, rfl⟩
theorem zd_14_33_83 : zz_D zy_pushAll_14_33 83 (.getfield 54) 3 86 := ⟨zq_180 zg_14_33_65.2.2.2.2.2.2.2.2.2.2.2.2.2.2.2.2.2.2.1 zg_14_33_65.2.2.2.2.2.2.2.2.2.2.2.2.2.2.2.2.2.2.2.1 zg_14_33_65.2.2.2.2.2.2.2.2.2.2.2.2.2.2.2.2.2.2.2.2.1 rfl, rfl⟩
theorem zd_14_33_86 : zz_D zy_pushAll_14_33 86 (.iload_n 3) 1 87 := ⟨zq_29 zg_14_33_65.2.2.2.2.2.2.2.2.2.2.2.2.2.2.2.2.2.2.2.2.2.1, rfl⟩
theorem zd_14_33_87 : zz_D zy_pushAll_14_33 87 (.iaload) 1 88 := ⟨zq_46 zg_14_33_65.2.2.2.2.2.2.2.2.2.2.2.2.2.2.2.2.2.2.2.2.2.2.1, rfl⟩
theorem zd_14_33_88 : zz_D zy_pushAll_14_33 88 (.iconst 1) 1 89 := ⟨zq_4 zg_14_33_65.2.2.2.2.2.2.2.2.2.2.2.2.2.2.2.2.2.2.2.2.2.2.2, rfl⟩
theorem zg_14_33_89 : zq_at zy_pushAll_14_33.2.1 89 184 ∧ zq_at zy_pushAll_14_33.2.1 90 1 ∧ zq_at zy_pushAll_14_33.2.1 91 12 ∧ zq_at zy_pushAll_14_33.2.1 92 92 ∧ zq_at zy_pushAll_14_33.2.1 93 46 ∧ zq_at zy_pushAll_14_33.2.1 94 42 ∧ zq_at zy_pushAll_14_33.2.1 95 180 ∧ zq_at zy_pushAll_14_33.2.1 96 0 ∧ zq_at zy_pushAll_14_33.2.1 97 36 ∧ zq_at zy_pushAll_14_33.2.1 98 7 ∧ zq_at zy_pushAll_14_33.2.1 99 46 ∧ zq_at zy_pushAll_14_33.2.1 100 96 ∧ zq_at zy_pushAll_14_33.2.1 101 79 ∧ zq_at zy_pushAll_14_33.2.1 108 177 := by decide +kernel
theorem zd_14_33_89 : zz_D zy_pushAll_14_33 89 (.invokestatic 268) 3 92 := ⟨zq_184 zg_14_33_89.1 zg_14_33_89.2.1 zg_14_33_89.2.2.1 rfl, rfl⟩
theorem zd_14_33_92 : zz_D zy_pushAll_14_33 92 (.dup2) 1 93 := ⟨zq_92 zg_14_33_89.2.2.2.1, rfl⟩
theorem zd_14_33_93 : zz_D zy_pushAll_14_33 93 (.iaload) 1 94 := ⟨zq_46 zg_14_33_89.2.2.2.2.1, rfl⟩
theorem zd_14_33_94 : zz_D zy_pushAll_14_33 94 (.aload_n 0) 1 95 := ⟨zq_42 zg_14_33_89.2.2.2.2.2.1, rfl⟩
theorem zd_14_33_95 : zz_D zy_pushAll_14_33 95 (.getfield 36) 3 98 := ⟨zq_180 zg_14_33_89.2.2.2.2.2.2.1 zg_14_33_89.2.2.2.2.2.2.2.1 zg_14_33_89.2.2.2.2.2.2.2.2.1 rfl, rfl⟩
theorem zd_14_33_98 : zz_D zy_pushAll_14_33 98 (.iconst 4) 1 99 := ⟨zq_7 zg_14_33_89.2.2.2.2.2.2.2.2.2.1, rfl⟩
theorem zd_14_33_99 : zz_D zy_pushAll_14_33 99 (.iaload) 1 100 := ⟨zq_46 zg_14_33_89.2.2.2.2.2.2.2.2.2.2.1, rfl⟩
theorem zd_14_33_100 : zz_D zy_pushAll_14_33 100 (.iadd) 1 101 := ⟨zq_96 zg_14_33_89.2.2.2.2.2.2.2.2.2.2.2.1, rfl⟩
theorem zd_14_33_101 : zz_D zy_pushAll_14_33 101 (.iastore) 1 102 := ⟨zq_79 zg_14_33_89.2.2.2.2.2.2.2.2.2.2.2.2.1, rfl⟩
theorem zd_14_33_108 : zz_D zy_pushAll_14_33 108 (.return_) 1 109 := ⟨zq_177 zg_14_33_89.2.2.2.2.2.2.2.2.2.2.2.2.2, rfl⟩
-- TensorForgeModel pushAll (I)V
abbrev zr_pushAll_14_33 : Room := { frames := 3, cells := 0, slots := 0, locals := 49 }
def zp_pushAll_14_33 (p0 : Int) (S0 : zz_S) : zz_S → Prop := fun S => zz_G S ∧ zz_fr [(1087, 0), (1087, 1), (1087, 2), (1087, 3), (1087, 4), (1087, 5), (1087, 6), (1087, 7), (1087, 8), (1087, 9), (1087, 10), (1087, 11)] [1091, 1095] (fun _ _ => False) S0 S
theorem zb_pushAll_14_33_2 {g : mm_G} {l : Launch} (p0 : Int) (S0 : zz_S) (n : Nat) (hn : zz_end ≤ n) (G_S0 : zz_G S0) (hp0 : (-2147483648) ≤ p0 ∧ p0 ≤ 2147483647) (x2 : Int) (S : zz_S) (G_S : zz_G S) (F_S : zz_fr [(1087, 0), (1087, 1), (1087, 2), (1087, 3), (1087, 4), (1087, 5), (1087, 6), (1087, 7), (1087, 8), (1087, 9), (1087, 10), (1087, 11)] [1091, 1095] (fun _ _ => False) S0 S) (i2_0 : 0 ≤ x2 ∧ x2 ≤ 3) (R : Nat) (hR : (3 - x2).toNat = R) (k2 : ∀ (x2 : Int) (S : zz_S), zz_G S → zz_fr [(1087, 0), (1087, 1), (1087, 2), (1087, 3), (1087, 4), (1087, 5), (1087, 6), (1087, 7), (1087, 8), (1087, 9), (1087, 10), (1087, 11)] [1091, 1095] (fun _ _ => False) S0 S → (0 ≤ x2 ∧ x2 ≤ 3) → (3 - x2).toNat < R → zz_E g l zy_pushAll_14_33 zr_pushAll_14_33 (zz_QV n (zp_pushAll_14_33 p0 S0)) S n 2 [some (.ref 1079), some (zi p0), some (zi x2)] [] 0 0) : zz_E g l zy_pushAll_14_33 zr_pushAll_14_33 (zz_QV n (zp_pushAll_14_33 p0 S0)) S n 2 [some (.ref 1079), some (zi p0), some (zi x2)] [] 0 0 := by
  refine zz_iload_n (x := x2) rfl zd_14_33_2 ?_
  refine zz_iconst zd_14_33_3 ?_
  refine zz_icmp_ge (by omega) (by omega) zd_14_33_4 (fun c1 => ?_) (fun c1 => ?_)
  · exact zz_vret zd_14_33_108 rfl (Nat.zero_le _) (Nat.zero_le _) ⟨_, rfl, G_S, F_S⟩
  · refine zz_aload_n (x := 1079) rfl zd_14_33_7 ?_
    refine zz_getr (kd := 0) (z := 1097) zd_14_33_8 zf_Md_70 zT_1079 rfl (zz_ltn hn rfl) (zz_G.eq G_S 1079 25 1097 rfl rfl) (by decide) 1097 rfl ?_
    refine zz_iload_n (x := x2) rfl zd_14_33_11 ?_
    have g2 := zz_G.r G_S0 1097 x2.toNat (-1) 600 rfl rfl
    refine zz_iald (z := S0 1097 x2.toNat) zd_14_33_12 zT_1097 rfl (zz_ltn hn rfl) (by decide) (by omega) (zz_rc F_S (zz_nc1 rfl) rfl (fun h => h) rfl) ?_
    refine zz_istore_n [some (.ref 1079), some (zi p0), some (zi x2), some (zi (S0 1097 x2.toNat))] zd_14_33_13 (by decide) rfl ?_
    refine zz_iload_n (x := S0 1097 x2.toNat) rfl zd_14_33_14 ?_
    refine zz_if_lt (by omega) zd_14_33_15 (fun c3 => ?_) (fun c3 => ?_)
    · refine zz_iinc [some (.ref 1079), some (zi p0), some (zi (x2 + 1)), some (zi (S0 1097 x2.toNat))] zd_14_33_102 rfl rfl ?_
      refine zz_goto zd_14_33_105 ?_
      refine zz_less (ls1 := [some (.ref 1079), some (zi p0), some (zi (x2 + 1))]) ⟨rfl, ⟨rfl, ⟨rfl, trivial⟩⟩⟩ ?_
      exact k2 (x2 + 1) S G_S F_S (by omega) (by omega)
    · refine zz_aload_n (x := 1079) rfl zd_14_33_18 ?_
      refine zz_getr (kd := 0) (z := 1094) zd_14_33_19 zf_Md_60 zT_1079 rfl (zz_ltn hn rfl) (zz_G.eq G_S 1079 22 1094 rfl rfl) (by decide) 1094 rfl ?_
      refine zz_iload_n (x := S0 1097 x2.toNat) rfl zd_14_33_22 ?_
      have g4 := zz_G.r G_S0 1094 ((S0 1097 x2.toNat).toNat) (-2147483648) 2147483647 rfl rfl
      refine zz_iald (z := S0 1094 ((S0 1097 x2.toNat).toNat)) zd_14_33_23 zT_1094 rfl (zz_ltn hn rfl) (by decide) (by omega) (zz_rc F_S (zz_nc1 rfl) rfl (fun h => h) rfl) ?_
      refine zz_iload_n (x := p0) rfl zd_14_33_24 ?_
      refine zz_icmp_gt (by omega) (by omega) zd_14_33_25 (fun c5 => ?_) (fun c5 => ?_)
      · refine zz_iinc [some (.ref 1079), some (zi p0), some (zi (x2 + 1)), some (zi (S0 1097 x2.toNat))] zd_14_33_102 rfl rfl ?_
        refine zz_goto zd_14_33_105 ?_
        refine zz_less (ls1 := [some (.ref 1079), some (zi p0), some (zi (x2 + 1))]) ⟨rfl, ⟨rfl, ⟨rfl, trivial⟩⟩⟩ ?_
        exact k2 (x2 + 1) S G_S F_S (by omega) (by omega)
      · refine zz_aload_n (x := 1079) rfl zd_14_33_28 ?_
        refine zz_getr (kd := 0) (z := 1095) zd_14_33_29 zf_Md_63 zT_1079 rfl (zz_ltn hn rfl) (zz_G.eq G_S 1079 23 1095 rfl rfl) (by decide) 1095 rfl ?_
        refine zz_iload_n (x := S0 1097 x2.toNat) rfl zd_14_33_32 ?_
        have g6 := zz_G.r G_S 1095 ((S0 1097 x2.toNat).toNat) 0 1 rfl rfl
        refine zz_zald (z := S 1095 ((S0 1097 x2.toNat).toNat)) zd_14_33_33 zT_1095 rfl (zz_ltn hn rfl) (by decide) (by omega) rfl ?_
        refine zz_if_ne (by omega) zd_14_33_34 (fun c7 => ?_) (fun c7 => ?_)
        · refine zz_iinc [some (.ref 1079), some (zi p0), some (zi (x2 + 1)), some (zi (S0 1097 x2.toNat))] zd_14_33_102 rfl rfl ?_
          refine zz_goto zd_14_33_105 ?_
          refine zz_less (ls1 := [some (.ref 1079), some (zi p0), some (zi (x2 + 1))]) ⟨rfl, ⟨rfl, ⟨rfl, trivial⟩⟩⟩ ?_
          exact k2 (x2 + 1) S G_S F_S (by omega) (by omega)
        · refine zz_aload_n (x := 1079) rfl zd_14_33_37 ?_
          refine zz_aload_n (x := 1079) rfl zd_14_33_38 ?_
          refine zz_getr (kd := 0) (z := 1085) zd_14_33_39 zf_Md_29 zT_1079 rfl (zz_ltn hn rfl) (zz_G.eq G_S 1079 8 1085 rfl rfl) (by decide) 1085 rfl ?_
          refine zz_iload_n (x := S0 1097 x2.toNat) rfl zd_14_33_42 ?_
          have g8 := zz_G.r G_S0 1085 ((S0 1097 x2.toNat).toNat) (-9223372036854775808) 9223372036854775807 rfl rfl
          refine zz_lald (z := S0 1085 ((S0 1097 x2.toNat).toNat)) zd_14_33_43 zT_1085 rfl (zz_ltn hn rfl) (by decide) (by omega) (zz_rc F_S (zz_nc1 rfl) rfl (fun h => h) rfl) ?_
          have g9 := zz_G.r G_S 1087 0 (-2147483648) 2147483647 rfl rfl
          have g10 := zz_G.r G_S 1087 1 (-2147483648) 2147483647 rfl rfl
          have g11 := zz_G.r G_S 1087 2 (-2147483648) 2147483647 rfl rfl
          have g12 := zz_G.r G_S 1087 3 (-2147483648) 2147483647 rfl rfl
          have g13 := zz_G.r G_S 1087 4 (-2147483648) 2147483647 rfl rfl
          have g14 := zz_G.r G_S 1087 5 (-2147483648) 2147483647 rfl rfl
          have g15 := zz_G.r G_S 1087 6 (-2147483648) 2147483647 rfl rfl
          have g16 := zz_G.r G_S 1087 7 (-2147483648) 2147483647 rfl rfl
          have g17 := zz_G.r G_S 1087 8 (-2147483648) 2147483647 rfl rfl
          have g18 := zz_G.r G_S 1087 9 (-2147483648) 2147483647 rfl rfl
          have g19 := zz_G.r G_S 1087 10 (-2147483648) 2147483647 rfl rfl
          have g20 := zz_G.r G_S 1087 11 (-2147483648) 2147483647 rfl rfl
          refine zz_callVV [zl (S0 1085 ((S0 1097 x2.toNat).toNat))] zd_14_33_44 zk_Md_234 zT_1079 (zz_ltn hn rfl) rfl rfl ⟨Nat.le_of_ble_eq_true rfl, Nat.le_of_ble_eq_true rfl⟩ ⟨rfl, rfl⟩ (Nat.zero_le _) (Nat.zero_le _) (zc_take_14_18 (S0 1085 ((S0 1097 x2.toNat).toNat)) S n hn G_S (by omega)) (fun S21 hP => ?_)
          obtain ⟨G_S21, fS21, o23, o24, o25, o26, o27, o28, o29, o30, o31, o32, o33, o34⟩ := hP
          have F_S21 := zz_fr.trans F_S fS21 rfl zz_nv
          refine zz_aload_n (x := 1079) rfl zd_14_33_47 ?_
          refine zz_getr (kd := 0) (z := 1095) zd_14_33_48 zf_Md_63 zT_1079 rfl (zz_ltn hn rfl) (zz_G.eq G_S21 1079 23 1095 rfl rfl) (by decide) 1095 rfl ?_
          refine zz_iload_n (x := S0 1097 x2.toNat) rfl zd_14_33_51 ?_
          refine zz_iconst zd_14_33_52 ?_
          refine zz_zast zd_14_33_53 zT_1095 rfl (zz_ltn hn rfl) (by decide) (by omega) (by omega) (fun S35 qS35 => ?_)
          have G_S35 := zz_G.put G_S21 qS35 0 1 rfl (by omega)
          have F_S35 := zz_fr.putc F_S21 qS35 rfl
          refine zz_aload_n (x := 1079) rfl zd_14_33_54 ?_
          refine zz_getr (kd := 0) (z := 1091) zd_14_33_55 zf_Md_51 zT_1079 rfl (zz_ltn hn rfl) (zz_G.eq G_S35 1079 18 1091 rfl rfl) (by decide) 1091 rfl ?_
          refine zz_aload_n (x := 1079) rfl zd_14_33_58 ?_
          refine zz_getr (kd := 0) (z := 1092) zd_14_33_59 zf_Md_54 zT_1079 rfl (zz_ltn hn rfl) (zz_G.eq G_S35 1079 20 1092 rfl rfl) (by decide) 1092 rfl ?_
          refine zz_iload_n (x := S0 1097 x2.toNat) rfl zd_14_33_62 ?_
          have g36 := zz_G.r G_S0 1092 ((S0 1097 x2.toNat).toNat) (-2147483648) 2147483647 rfl rfl
          refine zz_iald (z := S0 1092 ((S0 1097 x2.toNat).toNat)) zd_14_33_63 zT_1092 rfl (zz_ltn hn rfl) (by decide) (by omega) (zz_ro qS35 (fun h => absurd h.1 (by decide)) (zz_rc fS21 (zz_nc1 rfl) rfl (fun h => h) (zz_rc F_S (zz_nc1 rfl) rfl (fun h => h) rfl))) ?_
          refine zz_iconst zd_14_33_64 ?_
          refine zz_callSI [zi (S0 1092 ((S0 1097 x2.toNat).toNat)), zi 0] zd_14_33_65 zk_Md_268 rfl rfl ⟨Nat.le_of_ble_eq_true rfl, Nat.le_of_ble_eq_true rfl⟩ ⟨rfl, rfl⟩ (Nat.zero_le _) (Nat.zero_le _) (zc_pushes_14_32 (S0 1092 ((S0 1097 x2.toNat).toNat)) 0 S35 n hn G_S35 (by omega) (by omega)) (fun v38 S37 hP => ?_)
          obtain ⟨rfl, o39⟩ := hP
          refine zz_dup2_11 rfl rfl zd_14_33_68 ?_
          have g40 := zz_G.r G_S 1091 v38.toNat (-2147483648) 2147483647 rfl rfl
          refine zz_iald (z := S 1091 v38.toNat) zd_14_33_69 zT_1091 rfl (zz_ltn hn rfl) (by decide) (by omega) (zz_ro qS35 (fun h => absurd h.1 (by decide)) (zz_rc fS21 (zz_nc1 rfl) rfl (fun h => h) rfl)) ?_
          refine zz_aload_n (x := 1079) rfl zd_14_33_70 ?_
          refine zz_getr (kd := 0) (z := 1087) zd_14_33_71 zf_Md_36 zT_1079 rfl (zz_ltn hn rfl) (zz_G.eq G_S35 1079 11 1087 rfl rfl) (by decide) 1087 rfl ?_
          refine zz_iconst zd_14_33_74 ?_
          have g41 := zz_G.r G_S21 1087 3 (-2147483648) 2147483647 rfl rfl
          refine zz_iald (z := S21 1087 3) zd_14_33_75 zT_1087 rfl (zz_ltn hn rfl) (by decide) (by decide) (zz_ro qS35 (fun h => absurd h.1 (by decide)) rfl) ?_
          refine zz_iadd zd_14_33_76 ?_
          refine zz_nrm (fun v42 hv42 ev42 => ?_)
          refine zz_iast zd_14_33_77 zT_1091 rfl (zz_ltn hn rfl) (by decide) (by omega) (fun S43 qS43 => ?_)
          have G_S43 := zz_G.put G_S35 qS43 (-2147483648) 2147483647 rfl (by omega)
          have F_S43 := zz_fr.putc F_S35 qS43 rfl
          refine zz_aload_n (x := 1079) rfl zd_14_33_78 ?_
          refine zz_getr (kd := 0) (z := 1091) zd_14_33_79 zf_Md_51 zT_1079 rfl (zz_ltn hn rfl) (zz_G.eq G_S43 1079 18 1091 rfl rfl) (by decide) 1091 rfl ?_
          refine zz_aload_n (x := 1079) rfl zd_14_33_82 ?_
          refine zz_getr (kd := 0) (z := 1092) zd_14_33_83 zf_Md_54 zT_1079 rfl (zz_ltn hn rfl) (zz_G.eq G_S43 1079 20 1092 rfl rfl) (by decide) 1092 rfl ?_
          refine zz_iload_n (x := S0 1097 x2.toNat) rfl zd_14_33_86 ?_
          refine zz_iald (z := S0 1092 ((S0 1097 x2.toNat).toNat)) zd_14_33_87 zT_1092 rfl (zz_ltn hn rfl) (by decide) (by omega) (zz_ro qS43 (fun h => absurd h.1 (by decide)) (zz_ro qS35 (fun h => absurd h.1 (by decide)) (zz_rc fS21 (zz_nc1 rfl) rfl (fun h => h) (zz_rc F_S (zz_nc1 rfl) rfl (fun h => h) rfl)))) ?_
          refine zz_iconst zd_14_33_88 ?_
          refine zz_callSI [zi (S0 1092 ((S0 1097 x2.toNat).toNat)), zi 1] zd_14_33_89 zk_Md_268 rfl rfl ⟨Nat.le_of_ble_eq_true rfl, Nat.le_of_ble_eq_true rfl⟩ ⟨rfl, rfl⟩ (Nat.zero_le _) (Nat.zero_le _) (zc_pushes_14_32 (S0 1092 ((S0 1097 x2.toNat).toNat)) 1 S43 n hn G_S43 (by omega) (by omega)) (fun v45 S44 hP => ?_)
          obtain ⟨rfl, o46⟩ := hP
          refine zz_dup2_11 rfl rfl zd_14_33_92 ?_
          have g47 := zz_G.r G_S43 1091 v45.toNat (-2147483648) 2147483647 rfl rfl
          refine zz_iald (z := S43 1091 v45.toNat) zd_14_33_93 zT_1091 rfl (zz_ltn hn rfl) (by decide) (by omega) rfl ?_
          refine zz_aload_n (x := 1079) rfl zd_14_33_94 ?_
          refine zz_getr (kd := 0) (z := 1087) zd_14_33_95 zf_Md_36 zT_1079 rfl (zz_ltn hn rfl) (zz_G.eq G_S43 1079 11 1087 rfl rfl) (by decide) 1087 rfl ?_
          refine zz_iconst zd_14_33_98 ?_
          have g48 := zz_G.r G_S21 1087 4 (-2147483648) 2147483647 rfl rfl
          refine zz_iald (z := S21 1087 4) zd_14_33_99 zT_1087 rfl (zz_ltn hn rfl) (by decide) (by decide) (zz_ro qS43 (fun h => absurd h.1 (by decide)) (zz_ro qS35 (fun h => absurd h.1 (by decide)) rfl)) ?_
          refine zz_iadd zd_14_33_100 ?_
          refine zz_nrm (fun v49 hv49 ev49 => ?_)
          refine zz_iast zd_14_33_101 zT_1091 rfl (zz_ltn hn rfl) (by decide) (by omega) (fun S50 qS50 => ?_)
          have G_S50 := zz_G.put G_S43 qS50 (-2147483648) 2147483647 rfl (by omega)
          have F_S50 := zz_fr.putc F_S43 qS50 rfl
          refine zz_iinc [some (.ref 1079), some (zi p0), some (zi (x2 + 1)), some (zi (S0 1097 x2.toNat))] zd_14_33_102 rfl rfl ?_
          refine zz_goto zd_14_33_105 ?_
          refine zz_less (ls1 := [some (.ref 1079), some (zi p0), some (zi (x2 + 1))]) ⟨rfl, ⟨rfl, ⟨rfl, trivial⟩⟩⟩ ?_
          exact k2 (x2 + 1) S50 G_S50 F_S50 (by omega) (by omega)
theorem zi_pushAll_14_33 {g : mm_G} {l : Launch} (p0 : Int) (S0 : zz_S) (n : Nat) (hn : zz_end ≤ n) (G_S0 : zz_G S0) (hp0 : (-2147483648) ≤ p0 ∧ p0 ≤ 2147483647) : ∀ N : Nat, (∀ (x2 : Int) (S : zz_S), zz_G S → zz_fr [(1087, 0), (1087, 1), (1087, 2), (1087, 3), (1087, 4), (1087, 5), (1087, 6), (1087, 7), (1087, 8), (1087, 9), (1087, 10), (1087, 11)] [1091, 1095] (fun _ _ => False) S0 S → (0 ≤ x2 ∧ x2 ≤ 3) → (3 - x2).toNat < N → zz_E g l zy_pushAll_14_33 zr_pushAll_14_33 (zz_QV n (zp_pushAll_14_33 p0 S0)) S n 2 [some (.ref 1079), some (zi p0), some (zi x2)] [] 0 0) := by
  intro N
  induction N with
  | zero => exact fun x2 S _ _ _ h => absurd h (Nat.not_lt_zero _)
  | succ N ih =>
    exact fun x2 S a b j0 hR => zb_pushAll_14_33_2 p0 S0 n hn G_S0 hp0 x2 S a b j0 _ rfl (fun x2 S a b j0 h => ih x2 S a b j0 (Nat.lt_of_lt_of_le h (Nat.le_of_lt_succ hR)))
theorem zc_pushAll_14_33 {g : mm_G} {l : Launch} (p0 : Int) (S0 : zz_S) (n : Nat) (hn : zz_end ≤ n) (G_S0 : zz_G S0) (hp0 : (-2147483648) ≤ p0 ∧ p0 ≤ 2147483647) : mm_Met g l zy_pushAll_14_33 zr_pushAll_14_33 [.ref 1079, zi p0] (zz_M S0 n) n (zz_QV n (zp_pushAll_14_33 p0 S0)) := by
  refine zz_enter (by decide) (Nat.le_of_ble_eq_true rfl) (zz_less (ls1 := [some (.ref 1079), some (zi p0)]) ⟨rfl, ⟨rfl, trivial⟩⟩ ?_)
  have F_S0 : zz_fr [(1087, 0), (1087, 1), (1087, 2), (1087, 3), (1087, 4), (1087, 5), (1087, 6), (1087, 7), (1087, 8), (1087, 9), (1087, 10), (1087, 11)] [1091, 1095] (fun _ _ => False) S0 S0 := zz_fr.refl
  have k2 : ∀ (x2 : Int) (S : zz_S), zz_G S → zz_fr [(1087, 0), (1087, 1), (1087, 2), (1087, 3), (1087, 4), (1087, 5), (1087, 6), (1087, 7), (1087, 8), (1087, 9), (1087, 10), (1087, 11)] [1091, 1095] (fun _ _ => False) S0 S → (0 ≤ x2 ∧ x2 ≤ 3) → zz_E g l zy_pushAll_14_33 zr_pushAll_14_33 (zz_QV n (zp_pushAll_14_33 p0 S0)) S n 2 [some (.ref 1079), some (zi p0), some (zi x2)] [] 0 0 := fun x2 S a b j0 => (zi_pushAll_14_33 (g := g) (l := l) p0 S0 n hn G_S0 hp0 _) x2 S a b j0 (Nat.lt_succ_self _)
  refine zz_iconst zd_14_33_0 ?_
  refine zz_istore_n [some (.ref 1079), some (zi p0), some (zi 0)] zd_14_33_1 (by decide) rfl ?_
  refine zz_less (ls1 := [some (.ref 1079), some (zi p0), some (zi 0)]) ⟨rfl, ⟨rfl, ⟨rfl, trivial⟩⟩⟩ ?_
  exact k2 0 S0 G_S0 F_S0 (by omega)
abbrev zy_findNext_14_34 : mm_Y := (⟨"TensorForgeModel", "findNext", "(I)V"⟩, prog_14_method_34_code, 2, none)
theorem zyw_findNext_14_34 : mm_Yw zy_findNext_14_34 1 := ⟨mm_tb_1 1930 (by decide +kernel) rfl, mm_tb_1 12 (by decide +kernel) rfl, ⟨by decide, by decide⟩, by decide +kernel⟩
theorem zf_Md_73 : mm_Fl "TensorForgeModel" 73 11 26 (.array .int) true := ⟨R_Md, F_Md, 69, t_Md, rfl, i_Md, by decide, mm_tb_1 1637 (by decide +kernel) rfl, rfl, t_Md_ok, n_Md, rfl, by decide +kernel⟩
theorem zf_Md_272 : mm_Fl "TensorForgeModel" 272 11 19 .int false := ⟨R_Md, F_Md, 69, t_Md, rfl, i_Md, by decide, mm_tb_1 1630 (by decide +kernel) rfl, rfl, t_Md_ok, n_Md, rfl, by decide +kernel⟩
theorem zg_14_34_0 : zq_at zy_findNext_14_34.2.1 0 42 ∧ zq_at zy_findNext_14_34.2.1 1 180 ∧ zq_at zy_findNext_14_34.2.1 2 0 ∧ zq_at zy_findNext_14_34.2.1 3 73 ∧ zq_at zy_findNext_14_34.2.1 4 27 ∧ zq_at zy_findNext_14_34.2.1 5 92 ∧ zq_at zy_findNext_14_34.2.1 6 46 ∧ zq_at zy_findNext_14_34.2.1 7 4 ∧ zq_at zy_findNext_14_34.2.1 8 96 ∧ zq_at zy_findNext_14_34.2.1 9 79 ∧ zq_at zy_findNext_14_34.2.1 10 42 ∧ zq_at zy_findNext_14_34.2.1 11 180 ∧ zq_at zy_findNext_14_34.2.1 12 0 ∧ zq_at zy_findNext_14_34.2.1 13 73 ∧ zq_at zy_findNext_14_34.2.1 14 27 ∧ zq_at zy_findNext_14_34.2.1 15 46 ∧ zq_at zy_findNext_14_34.2.1 16 42 ∧ zq_at zy_findNext_14_34.2.1 17 180 ∧ zq_at zy_findNext_14_34.2.1 18 1 ∧ zq_at zy_findNext_14_34.2.1 19 16 ∧ zq_at zy_findNext_14_34.2.1 20 162 ∧ zq_at zy_findNext_14_34.2.1 21 0 ∧ zq_at zy_findNext_14_34.2.1 22 31 ∧ zq_at zy_findNext_14_34.2.1 51 177 := by decide +kernel
theorem zd_14_34_0 : zz_D zy_findNext_14_34 0 (.aload_n 0) 1 1 := ⟨zq_42 zg_14_34_0.1, rfl⟩
theorem zd_14_34_1 : zz_D zy_findNext_14_34 1 (.getfield 73) 3 4 := ⟨zq_180 zg_14_34_0.2.1 zg_14_34_0.2.2.1 zg_14_34_0.2.2.2.1 rfl, rfl⟩
theorem zd_14_34_4 : zz_D zy_findNext_14_34 4 (.iload_n 1) 1 5 := ⟨zq_27 zg_14_34_0.2.2.2.2.1, rfl⟩
theorem zd_14_34_5 : zz_D zy_findNext_14_34 5 (.dup2) 1 6 := ⟨zq_92 zg_14_34_0.2.2.2.2.2.1, rfl⟩
theorem zd_14_34_6 : zz_D zy_findNext_14_34 6 (.iaload) 1 7 := ⟨zq_46 zg_14_34_0.2.2.2.2.2.2.1, rfl⟩
theorem zd_14_34_7 : zz_D zy_findNext_14_34 7 (.iconst 1) 1 8 := ⟨zq_4 zg_14_34_0.2.2.2.2.2.2.2.1, rfl⟩
theorem zd_14_34_8 : zz_D zy_findNext_14_34 8 (.iadd) 1 9 := ⟨zq_96 zg_14_34_0.2.2.2.2.2.2.2.2.1, rfl⟩
theorem zd_14_34_9 : zz_D zy_findNext_14_34 9 (.iastore) 1 10 := ⟨zq_79 zg_14_34_0.2.2.2.2.2.2.2.2.2.1, rfl⟩
theorem zd_14_34_10 : zz_D zy_findNext_14_34 10 (.aload_n 0) 1 11 := ⟨zq_42 zg_14_34_0.2.2.2.2.2.2.2.2.2.2.1, rfl⟩
theorem zd_14_34_11 : zz_D zy_findNext_14_34 11 (.getfield 73) 3 14 := ⟨zq_180 zg_14_34_0.2.2.2.2.2.2.2.2.2.2.2.1 zg_14_34_0.2.2.2.2.2.2.2.2.2.2.2.2.1 zg_14_34_0.2.2.2.2.2.2.2.2.2.2.2.2.2.1 rfl, rfl⟩
theorem zd_14_34_14 : zz_D zy_findNext_14_34 14 (.iload_n 1) 1 15 := ⟨zq_27 zg_14_34_0.2.2.2.2.2.2.2.2.2.2.2.2.2.2.1, rfl⟩
theorem zd_14_34_15 : zz_D zy_findNext_14_34 15 (.iaload) 1 16 := ⟨zq_46 zg_14_34_0.2.2.2.2.2.2.2.2.2.2.2.2.2.2.2.1, rfl⟩
theorem zd_14_34_16 : zz_D zy_findNext_14_34 16 (.aload_n 0) 1 17 := ⟨zq_42 zg_14_34_0.2.2.2.2.2.2.2.2.2.2.2.2.2.2.2.2.1, rfl⟩
theorem zd_14_34_17 : zz_D zy_findNext_14_34 17 (.getfield 272) 3 20 := ⟨zq_180 zg_14_34_0.2.2.2.2.2.2.2.2.2.2.2.2.2.2.2.2.2.1 zg_14_34_0.2.2.2.2.2.2.2.2.2.2.2.2.2.2.2.2.2.2.1 zg_14_34_0.2.2.2.2.2.2.2.2.2.2.2.2.2.2.2.2.2.2.2.1 rfl, rfl⟩
theorem zd_14_34_20 : zz_B zy_findNext_14_34 20 (Instr.if_icmp .ge) 51 23 := ⟨31, zq_162 zg_14_34_0.2.2.2.2.2.2.2.2.2.2.2.2.2.2.2.2.2.2.2.2.1 zg_14_34_0.2.2.2.2.2.2.2.2.2.2.2.2.2.2.2.2.2.2.2.2.2.1 zg_14_34_0.2.2.2.2.2.2.2.2.2.2.2.2.2.2.2.2.2.2.2.2.2.2.1 (by decide), rfl, rfl⟩
theorem zd_14_34_51 : zz_D zy_findNext_14_34 51 (.return_) 1 52 := ⟨zq_177 zg_14_34_0.2.2.2.2.2.2.2.2.2.2.2.2.2.2.2.2.2.2.2.2.2.2.2, rfl⟩
theorem zg_14_34_23 : zq_at zy_findNext_14_34.2.1 23 42 ∧ zq_at zy_findNext_14_34.2.1 24 180 ∧ zq_at zy_findNext_14_34.2.1 25 0 ∧ zq_at zy_findNext_14_34.2.1 26 54 ∧ zq_at zy_findNext_14_34.2.1 27 42 ∧ zq_at zy_findNext_14_34.2.1 28 180 ∧ zq_at zy_findNext_14_34.2.1 29 0 ∧ zq_at zy_findNext_14_34.2.1 30 73 ∧ zq_at zy_findNext_14_34.2.1 31 27 ∧ zq_at zy_findNext_14_34.2.1 32 46 ∧ zq_at zy_findNext_14_34.2.1 33 46 ∧ zq_at zy_findNext_14_34.2.1 34 27 ∧ zq_at zy_findNext_14_34.2.1 35 159 ∧ zq_at zy_findNext_14_34.2.1 36 0 ∧ zq_at zy_findNext_14_34.2.1 37 16 ∧ zq_at zy_findNext_14_34.2.1 38 42 ∧ zq_at zy_findNext_14_34.2.1 39 180 ∧ zq_at zy_findNext_14_34.2.1 40 0 ∧ zq_at zy_findNext_14_34.2.1 41 73 ∧ zq_at zy_findNext_14_34.2.1 42 27 ∧ zq_at zy_findNext_14_34.2.1 43 92 ∧ zq_at zy_findNext_14_34.2.1 44 46 ∧ zq_at zy_findNext_14_34.2.1 45 4 ∧ zq_at zy_findNext_14_34.2.1 46 96 := by decide +kernel
theorem zd_14_34_23 : zz_D zy_findNext_14_34 23 (.aload_n 0) 1 24 := ⟨zq_42 zg_14_34_23.1, rfl⟩
theorem zd_14_34_24 : zz_D zy_findNext_14_34 24 (.getfield 54) 3 27 := ⟨zq_180 zg_14_34_23.2.1 zg_14_34_23.2.2.1 zg_14_34_23.2.2.2.1 rfl, rfl⟩
theorem zd_14_34_27 : zz_D zy_findNext_14_34 27 (.aload_n 0) 1 28 := ⟨zq_42 zg_14_34_23.2.2.2.2.1, rfl⟩
theorem zd_14_34_28 : zz_D zy_findNext_14_34 28 (.getfield 73) 3 31 := ⟨zq_180 zg_14_34_23.2.2.2.2.2.1 zg_14_34_23.2.2.2.2.2.2.1 zg_14_34_23.2.2.2.2.2.2.2.1 rfl, rfl⟩
theorem zd_14_34_31 : zz_D zy_findNext_14_34 31 (.iload_n 1) 1 32 := ⟨zq_27 zg_14_34_23.2.2.2.2.2.2.2.2.1, rfl⟩
theorem zd_14_34_32 : zz_D zy_findNext_14_34 32 (.iaload) 1 33 := ⟨zq_46 zg_14_34_23.2.2.2.2.2.2.2.2.2.1, rfl⟩
theorem zd_14_34_33 : zz_D zy_findNext_14_34 33 (.iaload) 1 34 := ⟨zq_46 zg_14_34_23.2.2.2.2.2.2.2.2.2.2.1, rfl⟩
theorem zd_14_34_34 : zz_D zy_findNext_14_34 34 (.iload_n 1) 1 35 := ⟨zq_27 zg_14_34_23.2.2.2.2.2.2.2.2.2.2.2.1, rfl⟩
theorem zd_14_34_35 : zz_B zy_findNext_14_34 35 (Instr.if_icmp .eq) 51 38 := ⟨16, zq_159 zg_14_34_23.2.2.2.2.2.2.2.2.2.2.2.2.1 zg_14_34_23.2.2.2.2.2.2.2.2.2.2.2.2.2.1 zg_14_34_23.2.2.2.2.2.2.2.2.2.2.2.2.2.2.1 (by decide), rfl, rfl⟩
theorem zd_14_34_38 : zz_D zy_findNext_14_34 38 (.aload_n 0) 1 39 := ⟨zq_42 zg_14_34_23.2.2.2.2.2.2.2.2.2.2.2.2.2.2.2.1, rfl⟩
theorem zd_14_34_39 : zz_D zy_findNext_14_34 39 (.getfield 73) 3 42 := ⟨zq_180 zg_14_34_23.2.2.2.2.2.2.2.2.2.2.2.2.2.2.2.2.1 zg_14_34_23.2.2.2.2.2.2.2.2.2.2.2.2.2.2.2.2.2.1 zg_14_34_23.2.2.2.2.2.2.2.2.2.2.2.2.2.2.2.2.2.2.1 rfl, rfl⟩
theorem zd_14_34_42 : zz_D zy_findNext_14_34 42 (.iload_n 1) 1 43 := ⟨zq_27 zg_14_34_23.2.2.2.2.2.2.2.2.2.2.2.2.2.2.2.2.2.2.2.1, rfl⟩
theorem zd_14_34_43 : zz_D zy_findNext_14_34 43 (.dup2) 1 44 := ⟨zq_92 zg_14_34_23.2.2.2.2.2.2.2.2.2.2.2.2.2.2.2.2.2.2.2.2.1, rfl⟩
theorem zd_14_34_44 : zz_D zy_findNext_14_34 44 (.iaload) 1 45 := ⟨zq_46 zg_14_34_23.2.2.2.2.2.2.2.2.2.2.2.2.2.2.2.2.2.2.2.2.2.1, rfl⟩
theorem zd_14_34_45 : zz_D zy_findNext_14_34 45 (.iconst 1) 1 46 := ⟨zq_4 zg_14_34_23.2.2.2.2.2.2.2.2.2.2.2.2.2.2.2.2.2.2.2.2.2.2.1, rfl⟩
theorem zd_14_34_46 : zz_D zy_findNext_14_34 46 (.iadd) 1 47 := ⟨zq_96 zg_14_34_23.2.2.2.2.2.2.2.2.2.2.2.2.2.2.2.2.2.2.2.2.2.2.2, rfl⟩
theorem zg_14_34_47 : zq_at zy_findNext_14_34.2.1 47 79 ∧ zq_at zy_findNext_14_34.2.1 48 167 ∧ zq_at zy_findNext_14_34.2.1 49 255 ∧ zq_at zy_findNext_14_34.2.1 50 218 := by decide +kernel
theorem zd_14_34_47 : zz_D zy_findNext_14_34 47 (.iastore) 1 48 := ⟨zq_79 zg_14_34_47.1, rfl⟩
theorem zd_14_34_48 : zz_B zy_findNext_14_34 48 Instr.goto 10 51 := ⟨(-38), zq_167 zg_14_34_47.2.1 zg_14_34_47.2.2.1 zg_14_34_47.2.2.2 (by decide), rfl, rfl⟩

theorem zi_cycle_14_43 {g : mm_G} {l : Launch} (p0 : Int) (S0 : zz_S) (n : Nat) (hn : zz_end ≤ n) (G_S0 : zz_G S0) (hp0 : (-2147483648) ≤ p0 ∧ p0 ≤ 2147483647) (hL : ∀ u : Nat, (u : Int) < S0 1079 19 → zz_lgl (S0 1085 u) (S0 1079 1)) (hN : 0 ≤ S0 1098 0 ∧ 0 ≤ S0 1098 1 ∧ 0 ≤ S0 1098 2) : ∀ N : Nat, (∀ (x2 : Int) (x3 : Int) (S : zz_S), zz_G S → zz_fr [(1079, 14), (1079, 15), (1079, 16), (1087, 0), (1087, 1), (1087, 2), (1087, 3), (1087, 4), (1087, 5), (1087, 6), (1087, 7), (1087, 8), (1087, 9), (1087, 10), (1087, 11), (1088, 0), (1088, 1), (1088, 2), (1088, 3), (1088, 4), (1088, 5), (1088, 6), (1088, 7), (1088, 8), (1088, 9), (1089, 0), (1089, 1), (1089, 2), (1089, 3), (1089, 4), (1089, 5), (1089, 6), (1089, 7), (1089, 8), (1089, 9), (1090, 0), (1090, 1), (1090, 2), (1097, 0), (1097, 1), (1097, 2), (1098, 0), (1098, 1), (1098, 2)] [1080, 1081, 1082, 1083, 1084, 1091, 1093, 1094, 1095, 1115, 1116] (fun _ _ => False) S0 S → (0 ≤ x2 ∧ x2 ≤ 1) → (0 ≤ x3 ∧ x3 ≤ 3) → (0 ≤ S 1098 0 ∧ 0 ≤ S 1098 1 ∧ 0 ≤ S 1098 2) → ((x2 = 0 ∧ (S 1098 0 + S 1098 1 + S 1098 2) = (S0 1098 0 + S0 1098 1 + S0 1098 2)) ∨ (x2 = 1 ∧ (S 1098 0 + S 1098 1 + S 1098 2) ≥ (S0 1098 0 + S0 1098 1 + S0 1098 2) + 1)) → (3 - x3).toNat < N → zz_E g l zy_cycle_14_43 zr_cycle_14_43 (zz_QI n (zp_cycle_14_43 p0 S0)) S n 9 [some (.ref 1079), some (zi p0), some (zi x2), some (zi x3)] [] 0 0) := by
  intro N
  induction N with
  | zero => exact fun x2 x3 S _ _ _ _ _ _ h => absurd h (Nat.not_lt_zero _)
  | succ N ih =>
    exact fun x2 x3 S a b j0 j1 j2 j3 hR => zb_cycle_14_43_9 p0 S0 n hn G_S0 hp0 hL hN x2 x3 S a b j0 j1 j2 j3 _ rfl (fun x2 x3 S a b j0 j1 j2 j3 h => ih x2 x3 S a b j0 j1 j2 j3 (Nat.lt_of_lt_of_le h (Nat.le_of_lt_succ hR)))
theorem zc_cycle_14_43 {g : mm_G} {l : Launch} (p0 : Int) (S0 : zz_S) (n : Nat) (hn : zz_end ≤ n) (G_S0 : zz_G S0) (hp0 : (-2147483648) ≤ p0 ∧ p0 ≤ 2147483647) (hL : ∀ u : Nat, (u : Int) < S0 1079 19 → zz_lgl (S0 1085 u) (S0 1079 1)) (hN : 0 ≤ S0 1098 0 ∧ 0 ≤ S0 1098 1 ∧ 0 ≤ S0 1098 2) : mm_Met g l zy_cycle_14_43 zr_cycle_14_43 [.ref 1079, zi p0] (zz_M S0 n) n (zz_QI n (zp_cycle_14_43 p0 S0)) := by
  refine zz_enter (by decide) (Nat.le_of_ble_eq_true rfl) (zz_less (ls1 := [some (.ref 1079), some (zi p0)]) ⟨rfl, ⟨rfl, trivial⟩⟩ ?_)
  have F_S0 : zz_fr [(1079, 14), (1079, 15), (1079, 16), (1087, 0), (1087, 1), (1087, 2), (1087, 3), (1087, 4), (1087, 5), (1087, 6), (1087, 7), (1087, 8), (1087, 9), (1087, 10), (1087, 11), (1088, 0), (1088, 1), (1088, 2), (1088, 3), (1088, 4), (1088, 5), (1088, 6), (1088, 7), (1088, 8), (1088, 9), (1089, 0), (1089, 1), (1089, 2), (1089, 3), (1089, 4), (1089, 5), (1089, 6), (1089, 7), (1089, 8), (1089, 9), (1090, 0), (1090, 1), (1090, 2), (1097, 0), (1097, 1), (1097, 2), (1098, 0), (1098, 1), (1098, 2)] [1080, 1081, 1082, 1083, 1084, 1091, 1093, 1094, 1095, 1115, 1116] (fun _ _ => False) S0 S0 := zz_fr.refl
  have k9 : ∀ (x2 : Int) (x3 : Int) (S : zz_S), zz_G S → zz_fr [(1079, 14), (1079, 15), (1079, 16), (1087, 0), (1087, 1), (1087, 2), (1087, 3), (1087, 4), (1087, 5), (1087, 6), (1087, 7), (1087, 8), (1087, 9), (1087, 10), (1087, 11), (1088, 0), (1088, 1), (1088, 2), (1088, 3), (1088, 4), (1088, 5), (1088, 6), (1088, 7), (1088, 8), (1088, 9), (1089, 0), (1089, 1), (1089, 2), (1089, 3), (1089, 4), (1089, 5), (1089, 6), (1089, 7), (1089, 8), (1089, 9), (1090, 0), (1090, 1), (1090, 2), (1097, 0), (1097, 1), (1097, 2), (1098, 0), (1098, 1), (1098, 2)] [1080, 1081, 1082, 1083, 1084, 1091, 1093, 1094, 1095, 1115, 1116] (fun _ _ => False) S0 S → (0 ≤ x2 ∧ x2 ≤ 1) → (0 ≤ x3 ∧ x3 ≤ 3) → (0 ≤ S 1098 0 ∧ 0 ≤ S 1098 1 ∧ 0 ≤ S 1098 2) → ((x2 = 0 ∧ (S 1098 0 + S 1098 1 + S 1098 2) = (S0 1098 0 + S0 1098 1 + S0 1098 2)) ∨ (x2 = 1 ∧ (S 1098 0 + S 1098 1 + S 1098 2) ≥ (S0 1098 0 + S0 1098 1 + S0 1098 2) + 1)) → zz_E g l zy_cycle_14_43 zr_cycle_14_43 (zz_QI n (zp_cycle_14_43 p0 S0)) S n 9 [some (.ref 1079), some (zi p0), some (zi x2), some (zi x3)] [] 0 0 := fun x2 x3 S a b j0 j1 j2 j3 => (zi_cycle_14_43 (g := g) (l := l) p0 S0 n hn G_S0 hp0 hL hN _) x2 x3 S a b j0 j1 j2 j3 (Nat.lt_succ_self _)
  refine zz_aload_n (x := 1079) rfl zd_14_43_0 ?_
  refine zz_iload_n (x := p0) rfl zd_14_43_1 ?_
  refine zz_callVV [zi p0] zd_14_43_2 zk_Md_298 zT_1079 (zz_ltn hn rfl) rfl rfl ⟨Nat.le_of_ble_eq_true rfl, Nat.le_of_ble_eq_true rfl⟩ ⟨rfl, rfl⟩ (Nat.zero_le _) (Nat.zero_le _) (zc_pushAll_14_33 p0 S0 n hn G_S0 (by omega)) (fun S1 hP => ?_)
  obtain ⟨G_S1, fS1⟩ := hP
  have F_S1 := zz_fr.trans F_S0 fS1 rfl zz_nv
  refine zz_iconst zd_14_43_5 ?_
  refine zz_istore_n [some (.ref 1079), some (zi p0), some (zi 0)] zd_14_43_6 (by decide) rfl ?_
  refine zz_iconst zd_14_43_7 ?_
  refine zz_istore_n [some (.ref 1079), some (zi p0), some (zi 0), some (zi 0)] zd_14_43_8 (by decide) rfl ?_
  have g3 := zz_G.r G_S0 1098 0 (-1) 601 rfl rfl
  have e4 : S1 1098 0 = S0 1098 0 := (zz_rc fS1 rfl rfl (fun h => h) rfl)
  have g5 := zz_G.r G_S0 1098 1 (-1) 601 rfl rfl
  have e6 : S1 1098 1 = S0 1098 1 := (zz_rc fS1 rfl rfl (fun h => h) rfl)
  have g7 := zz_G.r G_S0 1098 2 (-1) 601 rfl rfl
  have e8 : S1 1098 2 = S0 1098 2 := (zz_rc fS1 rfl rfl (fun h => h) rfl)
  refine zz_less (ls1 := [some (.ref 1079), some (zi p0), some (zi 0), some (zi 0)]) ⟨rfl, ⟨rfl, ⟨rfl, ⟨rfl, trivial⟩⟩⟩⟩ ?_
  exact k9 0 0 S1 G_S1 F_S1 (by omega) (by omega) (by omega) (by omega)
abbrev zy_run_14_44 : mm_Y := (⟨"TensorForgeModel", "run", "()I"⟩, prog_14_method_44_code, 6, (some .int))
theorem zyw_run_14_44 : mm_Yw zy_run_14_44 0 := ⟨mm_tb_1 1918 (by decide +kernel) rfl, mm_tb_1 12 (by decide +kernel) rfl, ⟨by decide, by decide⟩, by decide +kernel⟩
theorem zk_Md_318 : mm_Vl "TensorForgeModel" 318 11 0 zy_firstIllegal_14_41 := ⟨zyw_firstIllegal_14_41, (R_Md, F_Md, 69), rfl, mm_tb_1 1919 (by decide +kernel) rfl, mm_tb_1 1921 (by decide +kernel) rfl, mm_tb_s 94 (by decide +kernel) rfl⟩
theorem zk_Md_321 : mm_Vl "TensorForgeModel" 321 11 0 zy_startRun_14_40 := ⟨zyw_startRun_14_40, (R_Md, F_Md, 69), rfl, mm_tb_1 1923 (by decide +kernel) rfl, mm_tb_1 1925 (by decide +kernel) rfl, mm_tb_s 95 (by decide +kernel) rfl⟩
theorem zk_Md_324 : mm_Vl "TensorForgeModel" 324 11 1 zy_cycle_14_43 := ⟨zyw_cycle_14_43, (R_Md, F_Md, 69), rfl, mm_tb_1 1935 (by decide +kernel) rfl, mm_tb_1 1937 (by decide +kernel) rfl, mm_tb_s 98 (by decide +kernel) rfl⟩
theorem zg_14_44_0 : zq_at zy_run_14_44.2.1 0 42 ∧ zq_at zy_run_14_44.2.1 1 3 ∧ zq_at zy_run_14_44.2.1 2 181 ∧ zq_at zy_run_14_44.2.1 3 0 ∧ zq_at zy_run_14_44.2.1 4 187 ∧ zq_at zy_run_14_44.2.1 5 42 ∧ zq_at zy_run_14_44.2.1 6 182 ∧ zq_at zy_run_14_44.2.1 7 1 ∧ zq_at zy_run_14_44.2.1 8 62 ∧ zq_at zy_run_14_44.2.1 9 60 ∧ zq_at zy_run_14_44.2.1 10 42 ∧ zq_at zy_run_14_44.2.1 11 182 ∧ zq_at zy_run_14_44.2.1 12 1 ∧ zq_at zy_run_14_44.2.1 13 65 ∧ zq_at zy_run_14_44.2.1 14 27 ∧ zq_at zy_run_14_44.2.1 15 155 ∧ zq_at zy_run_14_44.2.1 16 0 ∧ zq_at zy_run_14_44.2.1 17 16 ∧ zq_at zy_run_14_44.2.1 31 3 ∧ zq_at zy_run_14_44.2.1 32 61 ∧ zq_at zy_run_14_44.2.1 33 3 ∧ zq_at zy_run_14_44.2.1 34 62 ∧ zq_at zy_run_14_44.2.1 18 42 ∧ zq_at zy_run_14_44.2.1 19 2 := by decide +kernel
theorem zd_14_44_0 : zz_D zy_run_14_44 0 (.aload_n 0) 1 1 := ⟨zq_42 zg_14_44_0.1, rfl⟩
theorem zd_14_44_1 : zz_D zy_run_14_44 1 (.iconst 0) 1 2 := ⟨zq_3 zg_14_44_0.2.1, rfl⟩
theorem zd_14_44_2 : zz_D zy_run_14_44 2 (.putfield 187) 3 5 := ⟨zq_181 zg_14_44_0.2.2.1 zg_14_44_0.2.2.2.1 zg_14_44_0.2.2.2.2.1 rfl, rfl⟩
theorem zd_14_44_5 : zz_D zy_run_14_44 5 (.aload_n 0) 1 6 := ⟨zq_42 zg_14_44_0.2.2.2.2.2.1, rfl⟩
theorem zd_14_44_6 : zz_D zy_run_14_44 6 (.invokevirtual 318) 3 9 := ⟨zq_182 zg_14_44_0.2.2.2.2.2.2.1 zg_14_44_0.2.2.2.2.2.2.2.1 zg_14_44_0.2.2.2.2.2.2.2.2.1 rfl, rfl⟩
theorem zd_14_44_9 : zz_D zy_run_14_44 9 (.istore_n 1) 1 10 := ⟨zq_60 zg_14_44_0.2.2.2.2.2.2.2.2.2.1, rfl⟩
theorem zd_14_44_10 : zz_D zy_run_14_44 10 (.aload_n 0) 1 11 := ⟨zq_42 zg_14_44_0.2.2.2.2.2.2.2.2.2.2.1, rfl⟩
theorem zd_14_44_11 : zz_D zy_run_14_44 11 (.invokevirtual 321) 3 14 := ⟨zq_182 zg_14_44_0.2.2.2.2.2.2.2.2.2.2.2.1 zg_14_44_0.2.2.2.2.2.2.2.2.2.2.2.2.1 zg_14_44_0.2.2.2.2.2.2.2.2.2.2.2.2.2.1 rfl, rfl⟩
theorem zd_14_44_14 : zz_D zy_run_14_44 14 (.iload_n 1) 1 15 := ⟨zq_27 zg_14_44_0.2.2.2.2.2.2.2.2.2.2.2.2.2.2.1, rfl⟩
theorem zd_14_44_15 : zz_B zy_run_14_44 15 (Instr.ifCond .lt) 31 18 := ⟨16, zq_155 zg_14_44_0.2.2.2.2.2.2.2.2.2.2.2.2.2.2.2.1 zg_14_44_0.2.2.2.2.2.2.2.2.2.2.2.2.2.2.2.2.1 zg_14_44_0.2.2.2.2.2.2.2.2.2.2.2.2.2.2.2.2.2.1 (by decide), rfl, rfl⟩
theorem zd_14_44_31 : zz_D zy_run_14_44 31 (.iconst 0) 1 32 := ⟨zq_3 zg_14_44_0.2.2.2.2.2.2.2.2.2.2.2.2.2.2.2.2.2.2.1, rfl⟩
theorem zd_14_44_32 : zz_D zy_run_14_44 32 (.istore_n 2) 1 33 := ⟨zq_61 zg_14_44_0.2.2.2.2.2.2.2.2.2.2.2.2.2.2.2.2.2.2.2.1, rfl⟩
theorem zd_14_44_33 : zz_D zy_run_14_44 33 (.iconst 0) 1 34 := ⟨zq_3 zg_14_44_0.2.2.2.2.2.2.2.2.2.2.2.2.2.2.2.2.2.2.2.2.1, rfl⟩
theorem zd_14_44_34 : zz_D zy_run_14_44 34 (.istore_n 3) 1 35 := ⟨zq_62 zg_14_44_0.2.2.2.2.2.2.2.2.2.2.2.2.2.2.2.2.2.2.2.2.2.1, rfl⟩
theorem zd_14_44_18 : zz_D zy_run_14_44 18 (.aload_n 0) 1 19 := ⟨zq_42 zg_14_44_0.2.2.2.2.2.2.2.2.2.2.2.2.2.2.2.2.2.2.2.2.2.2.1, rfl⟩
theorem zd_14_44_19 : zz_D zy_run_14_44 19 (.iconst (-1)) 1 20 := ⟨zq_2 zg_14_44_0.2.2.2.2.2.2.2.2.2.2.2.2.2.2.2.2.2.2.2.2.2.2.2, rfl⟩
theorem zg_14_44_20 : zq_at zy_run_14_44.2.1 20 181 ∧ zq_at zy_run_14_44.2.1 21 1 ∧ zq_at zy_run_14_44.2.1 22 16 ∧ zq_at zy_run_14_44.2.1 23 42 ∧ zq_at zy_run_14_44.2.1 24 5 ∧ zq_at zy_run_14_44.2.1 25 27 ∧ zq_at zy_run_14_44.2.1 26 3 ∧ zq_at zy_run_14_44.2.1 27 182 ∧ zq_at zy_run_14_44.2.1 28 1 ∧ zq_at zy_run_14_44.2.1 29 55 ∧ zq_at zy_run_14_44.2.1 30 172 ∧ zq_at zy_run_14_44.2.1 35 28 ∧ zq_at zy_run_14_44.2.1 36 154 ∧ zq_at zy_run_14_44.2.1 37 0 ∧ zq_at zy_run_14_44.2.1 38 15 ∧ zq_at zy_run_14_44.2.1 51 3 ∧ zq_at zy_run_14_44.2.1 52 54 ∧ zq_at zy_run_14_44.2.1 53 4 ∧ zq_at zy_run_14_44.2.1 54 3 ∧ zq_at zy_run_14_44.2.1 55 54 ∧ zq_at zy_run_14_44.2.1 56 5 ∧ zq_at zy_run_14_44.2.1 39 42 ∧ zq_at zy_run_14_44.2.1 40 29 := by decide +kernel
theorem zd_14_44_20 : zz_D zy_run_14_44 20 (.putfield 272) 3 23 := ⟨zq_181 zg_14_44_20.1 zg_14_44_20.2.1 zg_14_44_20.2.2.1 rfl, rfl⟩
theorem zd_14_44_23 : zz_D zy_run_14_44 23 (.aload_n 0) 1 24 := ⟨zq_42 zg_14_44_20.2.2.2.1, rfl⟩
theorem zd_14_44_24 : zz_D zy_run_14_44 24 (.iconst 2) 1 25 := ⟨zq_5 zg_14_44_20.2.2.2.2.1, rfl⟩
theorem zd_14_44_25 : zz_D zy_run_14_44 25 (.iload_n 1) 1 26 := ⟨zq_27 zg_14_44_20.2.2.2.2.2.1, rfl⟩
theorem zd_14_44_26 : zz_D zy_run_14_44 26 (.iconst 0) 1 27 := ⟨zq_3 zg_14_44_20.2.2.2.2.2.2.1, rfl⟩
theorem zd_14_44_27 : zz_D zy_run_14_44 27 (.invokevirtual 311) 3 30 := ⟨zq_182 zg_14_44_20.2.2.2.2.2.2.2.1 zg_14_44_20.2.2.2.2.2.2.2.2.1 zg_14_44_20.2.2.2.2.2.2.2.2.2.1 rfl, rfl⟩
theorem zd_14_44_30 : zz_D zy_run_14_44 30 (.ireturn) 1 31 := ⟨zq_172 zg_14_44_20.2.2.2.2.2.2.2.2.2.2.1, rfl⟩
theorem zd_14_44_35 : zz_D zy_run_14_44 35 (.iload_n 2) 1 36 := ⟨zq_28 zg_14_44_20.2.2.2.2.2.2.2.2.2.2.2.1, rfl⟩
theorem zd_14_44_36 : zz_B zy_run_14_44 36 (Instr.ifCond .ne) 51 39 := ⟨15, zq_154 zg_14_44_20.2.2.2.2.2.2.2.2.2.2.2.2.1 zg_14_44_20.2.2.2.2.2.2.2.2.2.2.2.2.2.1 zg_14_44_20.2.2.2.2.2.2.2.2.2.2.2.2.2.2.1 (by decide), rfl, rfl⟩
theorem zd_14_44_51 : zz_D zy_run_14_44 51 (.iconst 0) 1 52 := ⟨zq_3 zg_14_44_20.2.2.2.2.2.2.2.2.2.2.2.2.2.2.2.1, rfl⟩
theorem zd_14_44_52 : zz_D zy_run_14_44 52 (.istore 4) 2 54 := ⟨zq_54 zg_14_44_20.2.2.2.2.2.2.2.2.2.2.2.2.2.2.2.2.1 zg_14_44_20.2.2.2.2.2.2.2.2.2.2.2.2.2.2.2.2.2.1, rfl⟩
theorem zd_14_44_54 : zz_D zy_run_14_44 54 (.iconst 0) 1 55 := ⟨zq_3 zg_14_44_20.2.2.2.2.2.2.2.2.2.2.2.2.2.2.2.2.2.2.1, rfl⟩
theorem zd_14_44_55 : zz_D zy_run_14_44 55 (.istore 5) 2 57 := ⟨zq_54 zg_14_44_20.2.2.2.2.2.2.2.2.2.2.2.2.2.2.2.2.2.2.2.1 zg_14_44_20.2.2.2.2.2.2.2.2.2.2.2.2.2.2.2.2.2.2.2.2.1, rfl⟩
theorem zd_14_44_39 : zz_D zy_run_14_44 39 (.aload_n 0) 1 40 := ⟨zq_42 zg_14_44_20.2.2.2.2.2.2.2.2.2.2.2.2.2.2.2.2.2.2.2.2.2.1, rfl⟩
theorem zd_14_44_40 : zz_D zy_run_14_44 40 (.iload_n 3) 1 41 := ⟨zq_29 zg_14_44_20.2.2.2.2.2.2.2.2.2.2.2.2.2.2.2.2.2.2.2.2.2.2, rfl⟩
theorem zg_14_44_41 : zq_at zy_run_14_44.2.1 41 182 ∧ zq_at zy_run_14_44.2.1 42 1 ∧ zq_at zy_run_14_44.2.1 43 68 ∧ zq_at zy_run_14_44.2.1 44 61 ∧ zq_at zy_run_14_44.2.1 45 132 ∧ zq_at zy_run_14_44.2.1 46 3 ∧ zq_at zy_run_14_44.2.1 47 1 ∧ zq_at zy_run_14_44.2.1 48 167 ∧ zq_at zy_run_14_44.2.1 49 255 ∧ zq_at zy_run_14_44.2.1 50 243 ∧ zq_at zy_run_14_44.2.1 57 21 ∧ zq_at zy_run_14_44.2.1 58 5 ∧ zq_at zy_run_14_44.2.1 59 42 ∧ zq_at zy_run_14_44.2.1 60 180 ∧ zq_at zy_run_14_44.2.1 61 1 ∧ zq_at zy_run_14_44.2.1 62 16 ∧ zq_at zy_run_14_44.2.1 63 162 ∧ zq_at zy_run_14_44.2.1 64 0 ∧ zq_at zy_run_14_44.2.1 65 35 ∧ zq_at zy_run_14_44.2.1 98 42 ∧ zq_at zy_run_14_44.2.1 99 21 ∧ zq_at zy_run_14_44.2.1 100 4 := by decide +kernel
theorem zd_14_44_41 : zz_D zy_run_14_44 41 (.invokevirtual 324) 3 44 := ⟨zq_182 zg_14_44_41.1 zg_14_44_41.2.1 zg_14_44_41.2.2.1 rfl, rfl⟩
theorem zd_14_44_44 : zz_D zy_run_14_44 44 (.istore_n 2) 1 45 := ⟨zq_61 zg_14_44_41.2.2.2.1, rfl⟩
theorem zd_14_44_45 : zz_D zy_run_14_44 45 (.iinc 3 1) 3 48 := ⟨zq_132 zg_14_44_41.2.2.2.2.1 zg_14_44_41.2.2.2.2.2.1 zg_14_44_41.2.2.2.2.2.2.1 (by decide), rfl⟩
theorem zd_14_44_48 : zz_B zy_run_14_44 48 Instr.goto 35 51 := ⟨(-13), zq_167 zg_14_44_41.2.2.2.2.2.2.2.1 zg_14_44_41.2.2.2.2.2.2.2.2.1 zg_14_44_41.2.2.2.2.2.2.2.2.2.1 (by decide), rfl, rfl⟩
theorem zd_14_44_57 : zz_D zy_run_14_44 57 (.iload 5) 2 59 := ⟨zq_21 zg_14_44_41.2.2.2.2.2.2.2.2.2.2.1 zg_14_44_41.2.2.2.2.2.2.2.2.2.2.2.1, rfl⟩
theorem zd_14_44_59 : zz_D zy_run_14_44 59 (.aload_n 0) 1 60 := ⟨zq_42 zg_14_44_41.2.2.2.2.2.2.2.2.2.2.2.2.1, rfl⟩
theorem zd_14_44_60 : zz_D zy_run_14_44 60 (.getfield 272) 3 63 := ⟨zq_180 zg_14_44_41.2.2.2.2.2.2.2.2.2.2.2.2.2.1 zg_14_44_41.2.2.2.2.2.2.2.2.2.2.2.2.2.2.1 zg_14_44_41.2.2.2.2.2.2.2.2.2.2.2.2.2.2.2.1 rfl, rfl⟩
theorem zd_14_44_63 : zz_B zy_run_14_44 63 (Instr.if_icmp .ge) 98 66 := ⟨35, zq_162 zg_14_44_41.2.2.2.2.2.2.2.2.2.2.2.2.2.2.2.2.1 zg_14_44_41.2.2.2.2.2.2.2.2.2.2.2.2.2.2.2.2.2.1 zg_14_44_41.2.2.2.2.2.2.2.2.2.2.2.2.2.2.2.2.2.2.1 (by decide), rfl, rfl⟩
theorem zd_14_44_98 : zz_D zy_run_14_44 98 (.aload_n 0) 1 99 := ⟨zq_42 zg_14_44_41.2.2.2.2.2.2.2.2.2.2.2.2.2.2.2.2.2.2.2.1, rfl⟩
theorem zd_14_44_99 : zz_D zy_run_14_44 99 (.iload 4) 2 101 := ⟨zq_21 zg_14_44_41.2.2.2.2.2.2.2.2.2.2.2.2.2.2.2.2.2.2.2.2.1 zg_14_44_41.2.2.2.2.2.2.2.2.2.2.2.2.2.2.2.2.2.2.2.2.2, rfl⟩
theorem zg_14_44_101 : zq_at zy_run_14_44.2.1 101 182 ∧ zq_at zy_run_14_44.2.1 102 1 ∧ zq_at zy_run_14_44.2.1 103 42 ∧ zq_at zy_run_14_44.2.1 104 28 ∧ zq_at zy_run_14_44.2.1 105 172 ∧ zq_at zy_run_14_44.2.1 66 42 ∧ zq_at zy_run_14_44.2.1 67 180 ∧ zq_at zy_run_14_44.2.1 68 0 ∧ zq_at zy_run_14_44.2.1 69 60 ∧ zq_at zy_run_14_44.2.1 70 21 ∧ zq_at zy_run_14_44.2.1 71 5 ∧ zq_at zy_run_14_44.2.1 72 46 ∧ zq_at zy_run_14_44.2.1 73 21 ∧ zq_at zy_run_14_44.2.1 74 4 ∧ zq_at zy_run_14_44.2.1 75 164 ∧ zq_at zy_run_14_44.2.1 76 0 ∧ zq_at zy_run_14_44.2.1 77 13 ∧ zq_at zy_run_14_44.2.1 88 21 ∧ zq_at zy_run_14_44.2.1 89 4 ∧ zq_at zy_run_14_44.2.1 90 54 ∧ zq_at zy_run_14_44.2.1 91 4 ∧ zq_at zy_run_14_44.2.1 92 132 ∧ zq_at zy_run_14_44.2.1 93 5 ∧ zq_at zy_run_14_44.2.1 94 1 := by decide +kernel
theorem zd_14_44_101 : zz_D zy_run_14_44 101 (.invokevirtual 298) 3 104 := ⟨zq_182 zg_14_44_101.1 zg_14_44_101.2.1 zg_14_44_101.2.2.1 rfl, rfl⟩
theorem zd_14_44_104 : zz_D zy_run_14_44 104 (.iload_n 2) 1 105 := ⟨zq_28 zg_14_44_101.2.2.2.1, rfl⟩
theorem zd_14_44_105 : zz_D zy_run_14_44 105 (.ireturn) 1 106 := ⟨zq_172 zg_14_44_101.2.2.2.2.1, rfl⟩
theorem zd_14_44_66 : zz_D zy_run_14_44 66 (.aload_n 0) 1 67 := ⟨zq_42 zg_14_44_101.2.2.2.2.2.1, rfl⟩
theorem zd_14_44_67 : zz_D zy_run_14_44 67 (.getfield 60) 3 70 := ⟨zq_180 zg_14_44_101.2.2.2.2.2.2.1 zg_14_44_101.2.2.2.2.2.2.2.1 zg_14_44_101.2.2.2.2.2.2.2.2.1 rfl, rfl⟩
theorem zd_14_44_70 : zz_D zy_run_14_44 70 (.iload 5) 2 72 := ⟨zq_21 zg_14_44_101.2.2.2.2.2.2.2.2.2.1 zg_14_44_101.2.2.2.2.2.2.2.2.2.2.1, rfl⟩
theorem zd_14_44_72 : zz_D zy_run_14_44 72 (.iaload) 1 73 := ⟨zq_46 zg_14_44_101.2.2.2.2.2.2.2.2.2.2.2.1, rfl⟩
theorem zd_14_44_73 : zz_D zy_run_14_44 73 (.iload 4) 2 75 := ⟨zq_21 zg_14_44_101.2.2.2.2.2.2.2.2.2.2.2.2.1 zg_14_44_101.2.2.2.2.2.2.2.2.2.2.2.2.2.1, rfl⟩
theorem zd_14_44_75 : zz_B zy_run_14_44 75 (Instr.if_icmp .le) 88 78 := ⟨13, zq_164 zg_14_44_101.2.2.2.2.2.2.2.2.2.2.2.2.2.2.1 zg_14_44_101.2.2.2.2.2.2.2.2.2.2.2.2.2.2.2.1 zg_14_44_101.2.2.2.2.2.2.2.2.2.2.2.2.2.2.2.2.1 (by decide), rfl, rfl⟩
theorem zd_14_44_88 : zz_D zy_run_14_44 88 (.iload 4) 2 90 := ⟨zq_21 zg_14_44_101.2.2.2.2.2.2.2.2.2.2.2.2.2.2.2.2.2.1 zg_14_44_101.2.2.2.2.2.2.2.2.2.2.2.2.2.2.2.2.2.2.1, rfl⟩
theorem zd_14_44_90 : zz_D zy_run_14_44 90 (.istore 4) 2 92 := ⟨zq_54 zg_14_44_101.2.2.2.2.2.2.2.2.2.2.2.2.2.2.2.2.2.2.2.1 zg_14_44_101.2.2.2.2.2.2.2.2.2.2.2.2.2.2.2.2.2.2.2.2.1, rfl⟩
theorem zd_14_44_92 : zz_D zy_run_14_44 92 (.iinc 5 1) 3 95 := ⟨zq_132 zg_14_44_101.2.2.2.2.2.2.2.2.2.2.2.2.2.2.2.2.2.2.2.2.2.1 zg_14_44_101.2.2.2.2.2.2.2.2.2.2.2.2.2.2.2.2.2.2.2.2.2.2.1 zg_14_44_101.2.2.2.2.2.2.2.2.2.2.2.2.2.2.2.2.2.2.2.2.2.2.2 (by decide), rfl⟩
theorem zg_14_44_95 : zq_at zy_run_14_44.2.1 95 167 ∧ zq_at zy_run_14_44.2.1 96 255 ∧ zq_at zy_run_14_44.2.1 97 218 ∧ zq_at zy_run_14_44.2.1 78 42 ∧ zq_at zy_run_14_44.2.1 79 180 ∧ zq_at zy_run_14_44.2.1 80 0 ∧ zq_at zy_run_14_44.2.1 81 60 ∧ zq_at zy_run_14_44.2.1 82 21 ∧ zq_at zy_run_14_44.2.1 83 5 ∧ zq_at zy_run_14_44.2.1 84 46 ∧ zq_at zy_run_14_44.2.1 85 167 ∧ zq_at zy_run_14_44.2.1 86 0 ∧ zq_at zy_run_14_44.2.1 87 5 := by decide +kernel
theorem zd_14_44_95 : zz_B zy_run_14_44 95 Instr.goto 57 98 := ⟨(-38), zq_167 zg_14_44_95.1 zg_14_44_95.2.1 zg_14_44_95.2.2.1 (by decide), rfl, rfl⟩
theorem zd_14_44_78 : zz_D zy_run_14_44 78 (.aload_n 0) 1 79 := ⟨zq_42 zg_14_44_95.2.2.2.1, rfl⟩
theorem zd_14_44_79 : zz_D zy_run_14_44 79 (.getfield 60) 3 82 := ⟨zq_180 zg_14_44_95.2.2.2.2.1 zg_14_44_95.2.2.2.2.2.1 zg_14_44_95.2.2.2.2.2.2.1 rfl, rfl⟩
theorem zd_14_44_82 : zz_D zy_run_14_44 82 (.iload 5) 2 84 := ⟨zq_21 zg_14_44_95.2.2.2.2.2.2.2.1 zg_14_44_95.2.2.2.2.2.2.2.2.1, rfl⟩
theorem zd_14_44_84 : zz_D zy_run_14_44 84 (.iaload) 1 85 := ⟨zq_46 zg_14_44_95.2.2.2.2.2.2.2.2.2.1, rfl⟩
theorem zd_14_44_85 : zz_B zy_run_14_44 85 Instr.goto 90 88 := ⟨5, zq_167 zg_14_44_95.2.2.2.2.2.2.2.2.2.2.1 zg_14_44_95.2.2.2.2.2.2.2.2.2.2.2.1 zg_14_44_95.2.2.2.2.2.2.2.2.2.2.2.2 (by decide), rfl, rfl⟩
-- TensorForgeModel run ()I
abbrev zr_run_14_44 : Room := { frames := 5, cells := 0, slots := 0, locals := 83 }
def zp_run_14_44  (S0 : zz_S) : Int → zz_S → Prop := fun r S => zz_G S ∧ zz_fr [(1079, 0), (1079, 14), (1079, 15), (1079, 16), (1079, 19), (1087, 0), (1087, 1), (1087, 2), (1087, 3), (1087, 4), (1087, 5), (1087, 6), (1087, 7), (1087, 8), (1087, 9), (1087, 10), (1087, 11), (1088, 0), (1088, 1), (1088, 2), (1088, 3), (1088, 4), (1088, 5), (1088, 6), (1088, 7), (1088, 8), (1088, 9), (1089, 0), (1089, 1), (1089, 2), (1089, 3), (1089, 4), (1089, 5), (1089, 6), (1089, 7), (1089, 8), (1089, 9), (1090, 0), (1090, 1), (1090, 2), (1097, 0), (1097, 1), (1097, 2), (1098, 0), (1098, 1), (1098, 2)] [1080, 1081, 1082, 1083, 1084, 1091, 1092, 1093, 1094, 1095, 1096, 1115, 1116] (fun _ _ => False) S0 S ∧ (0 ≤ r ∧ r ≤ 4)
theorem zb_run_14_44_35 {g : mm_G} {l : Launch}  (S0 : zz_S) (n : Nat) (hn : zz_end ≤ n) (G_S0 : zz_G S0)  (x2 : Int) (x3 : Int) (S : zz_S) (G_S : zz_G S) (F_S : zz_fr [(1079, 0), (1079, 14), (1079, 15), (1079, 16), (1079, 19), (1087, 0), (1087, 1), (1087, 2), (1087, 3), (1087, 4), (1087, 5), (1087, 6), (1087, 7), (1087, 8), (1087, 9), (1087, 10), (1087, 11), (1088, 0), (1088, 1), (1088, 2), (1088, 3), (1088, 4), (1088, 5), (1088, 6), (1088, 7), (1088, 8), (1088, 9), (1089, 0), (1089, 1), (1089, 2), (1089, 3), (1089, 4), (1089, 5), (1089, 6), (1089, 7), (1089, 8), (1089, 9), (1090, 0), (1090, 1), (1090, 2), (1097, 0), (1097, 1), (1097, 2), (1098, 0), (1098, 1), (1098, 2)] [1080, 1081, 1082, 1083, 1084, 1091, 1092, 1093, 1094, 1095, 1096, 1115, 1116] (fun _ _ => False) S0 S) (i35_0 : 0 ≤ x2 ∧ x2 ≤ 4) (i35_1 : (-2147483648) ≤ x3 ∧ x3 ≤ 2147483647) (i35_2 : ∀ u : Nat, (u : Int) < S0 1079 7 → zz_lgl (S0 1085 u) (S0 1079 1)) (i35_3 : S 1079 19 = S0 1079 7) (i35_4 : 0 ≤ S 1098 0 ∧ 0 ≤ S 1098 1 ∧ 0 ≤ S 1098 2) (R : Nat) (hR : (34359738368 + ((1 - x2).toNat * 4611686018427387904 + (1806 - (S 1098 0 + S 1098 1 + S 1098 2)).toNat * 8589934592 + (2147483648 - x3).toNat)) = R) (k35 : ∀ (x2 : Int) (x3 : Int) (S : zz_S), zz_G S → zz_fr [(1079, 0), (1079, 14), (1079, 15), (1079, 16), (1079, 19), (1087, 0), (1087, 1), (1087, 2), (1087, 3), (1087, 4), (1087, 5), (1087, 6), (1087, 7), (1087, 8), (1087, 9), (1087, 10), (1087, 11), (1088, 0), (1088, 1), (1088, 2), (1088, 3), (1088, 4), (1088, 5), (1088, 6), (1088, 7), (1088, 8), (1088, 9), (1089, 0), (1089, 1), (1089, 2), (1089, 3), (1089, 4), (1089, 5), (1089, 6), (1089, 7), (1089, 8), (1089, 9), (1090, 0), (1090, 1), (1090, 2), (1097, 0), (1097, 1), (1097, 2), (1098, 0), (1098, 1), (1098, 2)] [1080, 1081, 1082, 1083, 1084, 1091, 1092, 1093, 1094, 1095, 1096, 1115, 1116] (fun _ _ => False) S0 S → (0 ≤ x2 ∧ x2 ≤ 4) → ((-2147483648) ≤ x3 ∧ x3 ≤ 2147483647) → (∀ u : Nat, (u : Int) < S0 1079 7 → zz_lgl (S0 1085 u) (S0 1079 1)) → (S 1079 19 = S0 1079 7) → (0 ≤ S 1098 0 ∧ 0 ≤ S 1098 1 ∧ 0 ≤ S 1098 2) → (34359738368 + ((1 - x2).toNat * 4611686018427387904 + (1806 - (S 1098 0 + S 1098 1 + S 1098 2)).toNat * 8589934592 + (2147483648 - x3).toNat)) < R → zz_E g l zy_run_14_44 zr_run_14_44 (zz_QI n (zp_run_14_44  S0)) S n 35 [some (.ref 1079), none, some (zi x2), some (zi x3)] [] 0 0) (k57 : ∀ (x2 : Int) (x4 : Int) (x5 : Int) (S : zz_S), zz_G S → zz_fr [(1079, 0), (1079, 14), (1079, 15), (1079, 16), (1079, 19), (1087, 0), (1087, 1), (1087, 2), (1087, 3), (1087, 4), (1087, 5), (1087, 6), (1087, 7), (1087, 8), (1087, 9), (1087, 10), (1087, 11), (1088, 0), (1088, 1), (1088, 2), (1088, 3), (1088, 4), (1088, 5), (1088, 6), (1088, 7), (1088, 8), (1088, 9), (1089, 0), (1089, 1), (1089, 2), (1089, 3), (1089, 4), (1089, 5), (1089, 6), (1089, 7), (1089, 8), (1089, 9), (1090, 0), (1090, 1), (1090, 2), (1097, 0), (1097, 1), (1097, 2), (1098, 0), (1098, 1), (1098, 2)] [1080, 1081, 1082, 1083, 1084, 1091, 1092, 1093, 1094, 1095, 1096, 1115, 1116] (fun _ _ => False) S0 S → (1 ≤ x2 ∧ x2 ≤ 4) → (0 ≤ x4 ∧ x4 ≤ 2147483647) → (0 ≤ x5 ∧ x5 ≤ 600) → (0 ≤ x2 ∧ x2 ≤ 4) → (x2 ≠ 0) → (17179869184 + (S 1079 19 - x5).toNat) < R → zz_E g l zy_run_14_44 zr_run_14_44 (zz_QI n (zp_run_14_44  S0)) S n 57 [some (.ref 1079), none, some (zi x2), none, some (zi x4), some (zi x5)] [] 0 0) : zz_E g l zy_run_14_44 zr_run_14_44 (zz_QI n (zp_run_14_44  S0)) S n 35 [some (.ref 1079), none, some (zi x2), some (zi x3)] [] 0 0 := by
  refine zz_iload_n (x := x2) rfl zd_14_44_35 ?_
  refine zz_if_ne (by omega) zd_14_44_36 (fun c25 => ?_) (fun c25 => ?_)
  · refine zz_iconst zd_14_44_51 ?_
    refine zz_istore [some (.ref 1079), none, some (zi x2), some (zi x3), some (zi 0)] zd_14_44_52 (by decide) rfl ?_
    refine zz_iconst zd_14_44_54 ?_
    refine zz_istore [some (.ref 1079), none, some (zi x2), some (zi x3), some (zi 0), some (zi 0)] zd_14_44_55 (by decide) rfl ?_
    have g26 := zz_G.r G_S 1079 19 (-1) 600 rfl rfl
    refine zz_less (ls1 := [some (.ref 1079), none, some (zi x2), none, some (zi 0), some (zi 0)]) ⟨rfl, ⟨rfl, ⟨rfl, ⟨rfl, trivial⟩⟩⟩⟩ ?_
    exact k57 x2 0 0 S G_S F_S (by omega) (by omega) (by omega) (by omega) (by omega) (by omega)
  · refine zz_aload_n (x := 1079) rfl zd_14_44_39 ?_
    refine zz_iload_n (x := x3) rfl zd_14_44_40 ?_
    have g27 := zz_G.r G_S0 1079 1 2 8 rfl rfl
    have e28 : S 1079 1 = S0 1079 1 := (zz_rc F_S rfl rfl (fun h => h) rfl)
    have g29 := zz_G.r G_S 1079 19 (-1) 600 rfl rfl
    have g30 := zz_G.r G_S 1098 0 (-1) 601 rfl rfl
    have g31 := zz_G.r G_S 1098 1 (-1) 601 rfl rfl
    have g32 := zz_G.r G_S 1098 2 (-1) 601 rfl rfl
    refine zz_callVI [zi x3] zd_14_44_41 zk_Md_324 zT_1079 (zz_ltn hn rfl) rfl rfl ⟨Nat.le_of_ble_eq_true rfl, Nat.le_of_ble_eq_true rfl⟩ ⟨rfl, rfl⟩ (Nat.zero_le _) (Nat.zero_le _) (zc_cycle_14_43 x3 S n hn G_S (by omega) (fun u hu => by have h9 : S 1079 19 = S 1079 19 := rfl; rw [show S 1085 u = S0 1085 u from (zz_rc F_S (zz_nc1 rfl) rfl (fun h => h) rfl), show S 1079 1 = S0 1079 1 from (zz_rc F_S rfl rfl (fun h => h) rfl)]; exact i35_2 u (by omega)) (by omega)) (fun v34 S33 hP => ?_)
    obtain ⟨G_S33, fS33, o35, o36, o37⟩ := hP
    have F_S33 := zz_fr.trans F_S fS33 rfl zz_nv
    refine zz_istore_n [some (.ref 1079), none, some (zi v34), some (zi x3)] zd_14_44_44 (by decide) rfl ?_
    refine zz_iincN (fun v38 => [some (.ref 1079), none, some (zi v34), some (zi v38)]) zd_14_44_45 rfl (fun _ => rfl) (fun v38 hv38 ev38 => ?_)
    refine zz_goto zd_14_44_48 ?_
    have e39 : S33 1079 19 = S 1079 19 := (zz_rc fS33 rfl rfl (fun h => h) rfl)
    have g40 := zz_G.r G_S33 1098 0 (-1) 601 rfl rfl
    have g41 := zz_G.r G_S33 1098 1 (-1) 601 rfl rfl
    have g42 := zz_G.r G_S33 1098 2 (-1) 601 rfl rfl
    refine zz_less (ls1 := [some (.ref 1079), none, some (zi v34), some (zi v38)]) ⟨rfl, ⟨rfl, ⟨rfl, trivial⟩⟩⟩ ?_
    exact k35 v34 v38 S33 G_S33 F_S33 (by omega) (by omega) i35_2 (by omega) (by omega) (by omega)
theorem zb_run_14_44_57 {g : mm_G} {l : Launch}  (S0 : zz_S) (n : Nat) (hn : zz_end ≤ n) (G_S0 : zz_G S0)  (x2 : Int) (x4 : Int) (x5 : Int) (S : zz_S) (G_S : zz_G S) (F_S : zz_fr [(1079, 0), (1079, 14), (1079, 15), (1079, 16), (1079, 19), (1087, 0), (1087, 1), (1087, 2), (1087, 3), (1087, 4), (1087, 5), (1087, 6), (1087, 7), (1087, 8), (1087, 9), (1087, 10), (1087, 11), (1088, 0), (1088, 1), (1088, 2), (1088, 3), (1088, 4), (1088, 5), (1088, 6), (1088, 7), (1088, 8), (1088, 9), (1089, 0), (1089, 1), (1089, 2), (1089, 3), (1089, 4), (1089, 5), (1089, 6), (1089, 7), (1089, 8), (1089, 9), (1090, 0), (1090, 1), (1090, 2), (1097, 0), (1097, 1), (1097, 2), (1098, 0), (1098, 1), (1098, 2)] [1080, 1081, 1082, 1083, 1084, 1091, 1092, 1093, 1094, 1095, 1096, 1115, 1116] (fun _ _ => False) S0 S) (i57_0 : 1 ≤ x2 ∧ x2 ≤ 4) (i57_1 : 0 ≤ x4 ∧ x4 ≤ 2147483647) (i57_2 : 0 ≤ x5 ∧ x5 ≤ 600) (i57_3 : 0 ≤ x2 ∧ x2 ≤ 4) (i57_4 : x2 ≠ 0) (R : Nat) (hR : (17179869184 + (S 1079 19 - x5).toNat) = R) (k57 : ∀ (x2 : Int) (x4 : Int) (x5 : Int) (S : zz_S), zz_G S → zz_fr [(1079, 0), (1079, 14), (1079, 15), (1079, 16), (1079, 19), (1087, 0), (1087, 1), (1087, 2), (1087, 3), (1087, 4), (1087, 5), (1087, 6), (1087, 7), (1087, 8), (1087, 9), (1087, 10), (1087, 11), (1088, 0), (1088, 1), (1088, 2), (1088, 3), (1088, 4), (1088, 5), (1088, 6), (1088, 7), (1088, 8), (1088, 9), (1089, 0), (1089, 1), (1089, 2), (1089, 3), (1089, 4), (1089, 5), (1089, 6), (1089, 7), (1089, 8), (1089, 9), (1090, 0), (1090, 1), (1090, 2), (1097, 0), (1097, 1), (1097, 2), (1098, 0), (1098, 1), (1098, 2)] [1080, 1081, 1082, 1083, 1084, 1091, 1092, 1093, 1094, 1095, 1096, 1115, 1116] (fun _ _ => False) S0 S → (1 ≤ x2 ∧ x2 ≤ 4) → (0 ≤ x4 ∧ x4 ≤ 2147483647) → (0 ≤ x5 ∧ x5 ≤ 600) → (0 ≤ x2 ∧ x2 ≤ 4) → (x2 ≠ 0) → (17179869184 + (S 1079 19 - x5).toNat) < R → zz_E g l zy_run_14_44 zr_run_14_44 (zz_QI n (zp_run_14_44  S0)) S n 57 [some (.ref 1079), none, some (zi x2), none, some (zi x4), some (zi x5)] [] 0 0) : zz_E g l zy_run_14_44 zr_run_14_44 (zz_QI n (zp_run_14_44  S0)) S n 57 [some (.ref 1079), none, some (zi x2), none, some (zi x4), some (zi x5)] [] 0 0 := by
  refine zz_iload (x := x5) rfl zd_14_44_57 ?_
  refine zz_aload_n (x := 1079) rfl zd_14_44_59 ?_
  have g43 := zz_G.r G_S 1079 19 (-1) 600 rfl rfl
  refine zz_geti (z := S 1079 19) zd_14_44_60 zf_Md_272 zT_1079 rfl (zz_ltn hn rfl) rfl ?_
  refine zz_icmp_ge (by omega) (by omega) zd_14_44_63 (fun c44 => ?_) (fun c44 => ?_)
  · refine zz_aload_n (x := 1079) rfl zd_14_44_98 ?_
    refine zz_iload (x := x4) rfl zd_14_44_99 ?_
    refine zz_callVV [zi x4] zd_14_44_101 zk_Md_298 zT_1079 (zz_ltn hn rfl) rfl rfl ⟨Nat.le_of_ble_eq_true rfl, Nat.le_of_ble_eq_true rfl⟩ ⟨rfl, rfl⟩ (Nat.zero_le _) (Nat.zero_le _) (zc_pushAll_14_33 x4 S n hn G_S (by omega)) (fun S45 hP => ?_)
    obtain ⟨G_S45, fS45⟩ := hP
    have F_S45 := zz_fr.trans F_S fS45 rfl zz_nv
    refine zz_iload_n (x := x2) rfl zd_14_44_104 ?_
    exact zz_iret zd_14_44_105 rfl (Nat.zero_le _) (Nat.zero_le _) ⟨_, _, rfl, G_S45, F_S45, by omega⟩
  · refine zz_aload_n (x := 1079) rfl zd_14_44_66 ?_
    refine zz_getr (kd := 0) (z := 1094) zd_14_44_67 zf_Md_60 zT_1079 rfl (zz_ltn hn rfl) (zz_G.eq G_S 1079 22 1094 rfl rfl) (by decide) 1094 rfl ?_
    refine zz_iload (x := x5) rfl zd_14_44_70 ?_
    have g47 := zz_G.r G_S 1094 x5.toNat (-2147483648) 2147483647 rfl rfl
    refine zz_iald (z := S 1094 x5.toNat) zd_14_44_72 zT_1094 rfl (zz_ltn hn rfl) (by decide) (by omega) rfl ?_
    refine zz_iload (x := x4) rfl zd_14_44_73 ?_
    refine zz_icmp_le (by omega) (by omega) zd_14_44_75 (fun c48 => ?_) (fun c48 => ?_)
    · refine zz_iload (x := x4) rfl zd_14_44_88 ?_
      refine zz_istore [some (.ref 1079), none, some (zi x2), none, some (zi x4), some (zi x5)] zd_14_44_90 (by decide) rfl ?_
      refine zz_iinc [some (.ref 1079), none, some (zi x2), none, some (zi x4), some (zi (x5 + 1))] zd_14_44_92 rfl rfl ?_
      refine zz_goto zd_14_44_95 ?_
      refine zz_less (ls1 := [some (.ref 1079), none, some (zi x2), none, some (zi x4), some (zi (x5 + 1))]) ⟨rfl, ⟨rfl, ⟨rfl, ⟨rfl, trivial⟩⟩⟩⟩ ?_
      exact k57 x2 x4 (x5 + 1) S G_S F_S (by omega) (by omega) (by omega) (by omega) (by omega) (by omega)
    · refine zz_aload_n (x := 1079) rfl zd_14_44_78 ?_
      refine zz_getr (kd := 0) (z := 1094) zd_14_44_79 zf_Md_60 zT_1079 rfl (zz_ltn hn rfl) (zz_G.eq G_S 1079 22 1094 rfl rfl) (by decide) 1094 rfl ?_
      refine zz_iload (x := x5) rfl zd_14_44_82 ?_
      refine zz_iald (z := S 1094 x5.toNat) zd_14_44_84 zT_1094 rfl (zz_ltn hn rfl) (by decide) (by omega) rfl ?_
      refine zz_goto zd_14_44_85 ?_
      refine zz_istore [some (.ref 1079), none, some (zi x2), none, some (zi (S 1094 x5.toNat)), some (zi x5)] zd_14_44_90 (by decide) rfl ?_
      refine zz_iinc [some (.ref 1079), none, some (zi x2), none, some (zi (S 1094 x5.toNat)), some (zi (x5 + 1))] zd_14_44_92 rfl rfl ?_
      refine zz_goto zd_14_44_95 ?_
      refine zz_less (ls1 := [some (.ref 1079), none, some (zi x2), none, some (zi (S 1094 x5.toNat)), some (zi (x5 + 1))]) ⟨rfl, ⟨rfl, ⟨rfl, ⟨rfl, trivial⟩⟩⟩⟩ ?_
      exact k57 x2 (S 1094 x5.toNat) (x5 + 1) S G_S F_S (by omega) (by omega) (by omega) (by omega) (by omega) (by omega)
theorem zi_run_14_44 {g : mm_G} {l : Launch}  (S0 : zz_S) (n : Nat) (hn : zz_end ≤ n) (G_S0 : zz_G S0)  : ∀ N : Nat, (∀ (x2 : Int) (x3 : Int) (S : zz_S), zz_G S → zz_fr [(1079, 0), (1079, 14), (1079, 15), (1079, 16), (1079, 19), (1087, 0), (1087, 1), (1087, 2), (1087, 3), (1087, 4), (1087, 5), (1087, 6), (1087, 7), (1087, 8), (1087, 9), (1087, 10), (1087, 11), (1088, 0), (1088, 1), (1088, 2), (1088, 3), (1088, 4), (1088, 5), (1088, 6), (1088, 7), (1088, 8), (1088, 9), (1089, 0), (1089, 1), (1089, 2), (1089, 3), (1089, 4), (1089, 5), (1089, 6), (1089, 7), (1089, 8), (1089, 9), (1090, 0), (1090, 1), (1090, 2), (1097, 0), (1097, 1), (1097, 2), (1098, 0), (1098, 1), (1098, 2)] [1080, 1081, 1082, 1083, 1084, 1091, 1092, 1093, 1094, 1095, 1096, 1115, 1116] (fun _ _ => False) S0 S → (0 ≤ x2 ∧ x2 ≤ 4) → ((-2147483648) ≤ x3 ∧ x3 ≤ 2147483647) → (∀ u : Nat, (u : Int) < S0 1079 7 → zz_lgl (S0 1085 u) (S0 1079 1)) → (S 1079 19 = S0 1079 7) → (0 ≤ S 1098 0 ∧ 0 ≤ S 1098 1 ∧ 0 ≤ S 1098 2) → (34359738368 + ((1 - x2).toNat * 4611686018427387904 + (1806 - (S 1098 0 + S 1098 1 + S 1098 2)).toNat * 8589934592 + (2147483648 - x3).toNat)) < N → zz_E g l zy_run_14_44 zr_run_14_44 (zz_QI n (zp_run_14_44  S0)) S n 35 [some (.ref 1079), none, some (zi x2), some (zi x3)] [] 0 0) ∧ (∀ (x2 : Int) (x4 : Int) (x5 : Int) (S : zz_S), zz_G S → zz_fr [(1079, 0), (1079, 14), (1079, 15), (1079, 16), (1079, 19), (1087, 0), (1087, 1), (1087, 2), (1087, 3), (1087, 4), (1087, 5), (1087, 6), (1087, 7), (1087, 8), (1087, 9), (1087, 10), (1087, 11), (1088, 0), (1088, 1), (1088, 2), (1088, 3), (1088, 4), (1088, 5), (1088, 6), (1088, 7), (1088, 8), (1088, 9), (1089, 0), (1089, 1), (1089, 2), (1089, 3), (1089, 4), (1089, 5), (1089, 6), (1089, 7), (1089, 8), (1089, 9), (1090, 0), (1090, 1), (1090, 2), (1097, 0), (1097, 1), (1097, 2), (1098, 0), (1098, 1), (1098, 2)] [1080, 1081, 1082, 1083, 1084, 1091, 1092, 1093, 1094, 1095, 1096, 1115, 1116] (fun _ _ => False) S0 S → (1 ≤ x2 ∧ x2 ≤ 4) → (0 ≤ x4 ∧ x4 ≤ 2147483647) → (0 ≤ x5 ∧ x5 ≤ 600) → (0 ≤ x2 ∧ x2 ≤ 4) → (x2 ≠ 0) → (17179869184 + (S 1079 19 - x5).toNat) < N → zz_E g l zy_run_14_44 zr_run_14_44 (zz_QI n (zp_run_14_44  S0)) S n 57 [some (.ref 1079), none, some (zi x2), none, some (zi x4), some (zi x5)] [] 0 0) := by
  intro N
  induction N with
  | zero => exact ⟨fun x2 x3 S _ _ _ _ _ _ _ h => absurd h (Nat.not_lt_zero _), fun x2 x4 x5 S _ _ _ _ _ _ _ h => absurd h (Nat.not_lt_zero _)⟩
  | succ N ih =>
    exact ⟨fun x2 x3 S a b j0 j1 j2 j3 j4 hR => zb_run_14_44_35  S0 n hn G_S0  x2 x3 S a b j0 j1 j2 j3 j4 _ rfl (fun x2 x3 S a b j0 j1 j2 j3 j4 h => ih.1 x2 x3 S a b j0 j1 j2 j3 j4 (Nat.lt_of_lt_of_le h (Nat.le_of_lt_succ hR))) (fun x2 x4 x5 S a b j0 j1 j2 j3 j4 h => ih.2 x2 x4 x5 S a b j0 j1 j2 j3 j4 (Nat.lt_of_lt_of_le h (Nat.le_of_lt_succ hR))),
      fun x2 x4 x5 S a b j0 j1 j2 j3 j4 hR => zb_run_14_44_57  S0 n hn G_S0  x2 x4 x5 S a b j0 j1 j2 j3 j4 _ rfl (fun x2 x4 x5 S a b j0 j1 j2 j3 j4 h => ih.2 x2 x4 x5 S a b j0 j1 j2 j3 j4 (Nat.lt_of_lt_of_le h (Nat.le_of_lt_succ hR)))⟩
theorem zc_run_14_44 {g : mm_G} {l : Launch}  (S0 : zz_S) (n : Nat) (hn : zz_end ≤ n) (G_S0 : zz_G S0)  : mm_Met g l zy_run_14_44 zr_run_14_44 [.ref 1079] (zz_M S0 n) n (zz_QI n (zp_run_14_44  S0)) := by
  refine zz_enter (by decide) (Nat.le_of_ble_eq_true rfl) (zz_less (ls1 := [some (.ref 1079)]) ⟨rfl, trivial⟩ ?_)
  have F_S0 : zz_fr [(1079, 0), (1079, 14), (1079, 15), (1079, 16), (1079, 19), (1087, 0), (1087, 1), (1087, 2), (1087, 3), (1087, 4), (1087, 5), (1087, 6), (1087, 7), (1087, 8), (1087, 9), (1087, 10), (1087, 11), (1088, 0), (1088, 1), (1088, 2), (1088, 3), (1088, 4), (1088, 5), (1088, 6), (1088, 7), (1088, 8), (1088, 9), (1089, 0), (1089, 1), (1089, 2), (1089, 3), (1089, 4), (1089, 5), (1089, 6), (1089, 7), (1089, 8), (1089, 9), (1090, 0), (1090, 1), (1090, 2), (1097, 0), (1097, 1), (1097, 2), (1098, 0), (1098, 1), (1098, 2)] [1080, 1081, 1082, 1083, 1084, 1091, 1092, 1093, 1094, 1095, 1096, 1115, 1116] (fun _ _ => False) S0 S0 := zz_fr.refl
  have k35 : ∀ (x2 : Int) (x3 : Int) (S : zz_S), zz_G S → zz_fr [(1079, 0), (1079, 14), (1079, 15), (1079, 16), (1079, 19), (1087, 0), (1087, 1), (1087, 2), (1087, 3), (1087, 4), (1087, 5), (1087, 6), (1087, 7), (1087, 8), (1087, 9), (1087, 10), (1087, 11), (1088, 0), (1088, 1), (1088, 2), (1088, 3), (1088, 4), (1088, 5), (1088, 6), (1088, 7), (1088, 8), (1088, 9), (1089, 0), (1089, 1), (1089, 2), (1089, 3), (1089, 4), (1089, 5), (1089, 6), (1089, 7), (1089, 8), (1089, 9), (1090, 0), (1090, 1), (1090, 2), (1097, 0), (1097, 1), (1097, 2), (1098, 0), (1098, 1), (1098, 2)] [1080, 1081, 1082, 1083, 1084, 1091, 1092, 1093, 1094, 1095, 1096, 1115, 1116] (fun _ _ => False) S0 S → (0 ≤ x2 ∧ x2 ≤ 4) → ((-2147483648) ≤ x3 ∧ x3 ≤ 2147483647) → (∀ u : Nat, (u : Int) < S0 1079 7 → zz_lgl (S0 1085 u) (S0 1079 1)) → (S 1079 19 = S0 1079 7) → (0 ≤ S 1098 0 ∧ 0 ≤ S 1098 1 ∧ 0 ≤ S 1098 2) → zz_E g l zy_run_14_44 zr_run_14_44 (zz_QI n (zp_run_14_44  S0)) S n 35 [some (.ref 1079), none, some (zi x2), some (zi x3)] [] 0 0 := fun x2 x3 S a b j0 j1 j2 j3 j4 => (zi_run_14_44 (g := g) (l := l)  S0 n hn G_S0  _).1 x2 x3 S a b j0 j1 j2 j3 j4 (Nat.lt_succ_self _)
  refine zz_aload_n (x := 1079) rfl zd_14_44_0 ?_
  refine zz_iconst zd_14_44_1 ?_
  refine zz_puti zd_14_44_2 zf_Md_187 zT_1079 rfl (zz_ltn hn rfl) (fun S1 qS1 => ?_)
  have G_S1 := zz_G.put G_S0 qS1 0 3 rfl (by omega)
  have F_S1 := zz_fr.puts F_S0 qS1 rfl
  refine zz_aload_n (x := 1079) rfl zd_14_44_5 ?_
  have g2 := zz_G.r G_S0 1079 1 2 8 rfl rfl
  have e3 : S1 1079 1 = S0 1079 1 := (zz_ro qS1 (fun h => absurd h.2 (by decide)) rfl)
  have g4 := zz_G.r G_S0 1079 7 0 600 rfl rfl
  have e5 : S1 1079 7 = S0 1079 7 := (zz_ro qS1 (fun h => absurd h.2 (by decide)) rfl)
  refine zz_callVI [] zd_14_44_6 zk_Md_318 zT_1079 (zz_ltn hn rfl) rfl rfl ⟨Nat.le_of_ble_eq_true rfl, Nat.le_of_ble_eq_true rfl⟩ ⟨rfl, rfl⟩ (Nat.zero_le _) (Nat.zero_le _) (zc_firstIllegal_14_41  S1 n hn G_S1 ) (fun v7 S6 hP => ?_)
  obtain ⟨G_S6, fS6, o8, o9⟩ := hP
  have F_S6 := zz_fr.trans F_S1 fS6 rfl zz_nv
  refine zz_istore_n [some (.ref 1079), some (zi v7)] zd_14_44_9 (by decide) rfl ?_
  refine zz_aload_n (x := 1079) rfl zd_14_44_10 ?_
  have e10 : S6 1079 7 = S0 1079 7 := (zz_rc fS6 rfl rfl (fun h => h) (zz_ro qS1 (fun h => absurd h.2 (by decide)) rfl))
  refine zz_callVV [] zd_14_44_11 zk_Md_321 zT_1079 (zz_ltn hn rfl) rfl rfl ⟨Nat.le_of_ble_eq_true rfl, Nat.le_of_ble_eq_true rfl⟩ ⟨rfl, rfl⟩ (Nat.zero_le _) (Nat.zero_le _) (zc_startRun_14_40  S6 n hn G_S6 ) (fun S11 hP => ?_)
  obtain ⟨G_S11, fS11, o13, o14⟩ := hP
  have F_S11 := zz_fr.trans F_S6 fS11 rfl zz_nv
  refine zz_iload_n (x := v7) rfl zd_14_44_14 ?_
  refine zz_if_lt (by omega) zd_14_44_15 (fun c15 => ?_) (fun c15 => ?_)
  · refine zz_iconst zd_14_44_31 ?_
    refine zz_istore_n [some (.ref 1079), some (zi v7), some (zi 0)] zd_14_44_32 (by decide) rfl ?_
    refine zz_iconst zd_14_44_33 ?_
    refine zz_istore_n [some (.ref 1079), some (zi v7), some (zi 0), some (zi 0)] zd_14_44_34 (by decide) rfl ?_
    have g16 := zz_G.r G_S11 1079 19 (-1) 600 rfl rfl
    have g17 := zz_G.r G_S11 1098 0 (-1) 601 rfl rfl
    have g18 := zz_G.r G_S11 1098 1 (-1) 601 rfl rfl
    have g19 := zz_G.r G_S11 1098 2 (-1) 601 rfl rfl
    refine zz_less (ls1 := [some (.ref 1079), none, some (zi 0), some (zi 0)]) ⟨rfl, ⟨rfl, ⟨rfl, trivial⟩⟩⟩ ?_
    exact k35 0 0 S11 G_S11 F_S11 (by omega) (by omega) (fun u hu => by have h8 : S1 1079 7 = S0 1079 7 := (zz_ro qS1 (fun h => absurd h.2 (by decide)) rfl); have h9 := o9 (by omega) u (by omega); rw [show S1 1085 u = S0 1085 u from (zz_ro qS1 (fun h => absurd h.1 (by decide)) rfl), show S1 1079 1 = S0 1079 1 from (zz_ro qS1 (fun h => absurd h.2 (by decide)) rfl)] at h9; exact h9) (by omega) (by omega)
  · refine zz_aload_n (x := 1079) rfl zd_14_44_18 ?_
    refine zz_iconst zd_14_44_19 ?_
    refine zz_puti zd_14_44_20 zf_Md_272 zT_1079 rfl (zz_ltn hn rfl) (fun S20 qS20 => ?_)
    have G_S20 := zz_G.put G_S11 qS20 (-1) 600 rfl (by omega)
    have F_S20 := zz_fr.puts F_S11 qS20 rfl
    refine zz_aload_n (x := 1079) rfl zd_14_44_23 ?_
    refine zz_iconst zd_14_44_24 ?_
    refine zz_iload_n (x := v7) rfl zd_14_44_25 ?_
    refine zz_iconst zd_14_44_26 ?_
    refine zz_callVI [zi 2, zi v7, zi 0] zd_14_44_27 zk_Md_311 zT_1079 (zz_ltn hn rfl) rfl rfl ⟨Nat.le_of_ble_eq_true rfl, Nat.le_of_ble_eq_true rfl⟩ ⟨rfl, rfl⟩ (Nat.zero_le _) (Nat.zero_le _) (zc_stop_14_42 2 v7 0 S20 n hn G_S20 (by omega) (by omega) (by omega)) (fun v22 S21 hP => ?_)
    obtain ⟨G_S21, fS21, o23, o24⟩ := hP
    have F_S21 := zz_fr.trans F_S20 fS21 rfl zz_nv
    exact zz_iret zd_14_44_30 rfl (Nat.zero_le _) (Nat.zero_le _) ⟨_, _, rfl, G_S21, F_S21, by omega⟩
abbrev zy_stopped_14_45 : mm_Y := (⟨"TensorForgeModel", "stopped", "(I)I"⟩, prog_14_method_45_code, 2, (some .int))
theorem zyw_stopped_14_45 : mm_Yw zy_stopped_14_45 1 := ⟨mm_tb_1 1992 (by decide +kernel) rfl, mm_tb_1 12 (by decide +kernel) rfl, ⟨by decide, by decide⟩, by decide +kernel⟩
theorem zg_14_45_0 : zq_at zy_stopped_14_45.2.1 0 42 ∧ zq_at zy_stopped_14_45.2.1 1 27 ∧ zq_at zy_stopped_14_45.2.1 2 133 ∧ zq_at zy_stopped_14_45.2.1 3 9 ∧ zq_at zy_stopped_14_45.2.1 4 20 ∧ zq_at zy_stopped_14_45.2.1 5 0 ∧ zq_at zy_stopped_14_45.2.1 6 238 ∧ zq_at zy_stopped_14_45.2.1 7 184 ∧ zq_at zy_stopped_14_45.2.1 8 0 ∧ zq_at zy_stopped_14_45.2.1 9 192 ∧ zq_at zy_stopped_14_45.2.1 10 154 ∧ zq_at zy_stopped_14_45.2.1 11 0 ∧ zq_at zy_stopped_14_45.2.1 12 7 ∧ zq_at zy_stopped_14_45.2.1 13 4 ∧ zq_at zy_stopped_14_45.2.1 14 167 ∧ zq_at zy_stopped_14_45.2.1 15 0 ∧ zq_at zy_stopped_14_45.2.1 16 4 ∧ zq_at zy_stopped_14_45.2.1 18 3 ∧ zq_at zy_stopped_14_45.2.1 19 3 ∧ zq_at zy_stopped_14_45.2.1 20 182 ∧ zq_at zy_stopped_14_45.2.1 21 0 ∧ zq_at zy_stopped_14_45.2.1 22 196 := by decide +kernel
theorem zd_14_45_0 : zz_D zy_stopped_14_45 0 (.aload_n 0) 1 1 := ⟨zq_42 zg_14_45_0.1, rfl⟩
theorem zd_14_45_1 : zz_D zy_stopped_14_45 1 (.iload_n 1) 1 2 := ⟨zq_27 zg_14_45_0.2.1, rfl⟩
theorem zd_14_45_2 : zz_D zy_stopped_14_45 2 (.i2l) 1 3 := ⟨zq_133 zg_14_45_0.2.2.1, rfl⟩
theorem zd_14_45_3 : zz_D zy_stopped_14_45 3 (.lconst 0) 1 4 := ⟨zq_9 zg_14_45_0.2.2.2.1, rfl⟩
theorem zd_14_45_4 : zz_D zy_stopped_14_45 4 (.ldc2_w 238) 3 7 := ⟨zq_20 zg_14_45_0.2.2.2.2.1 zg_14_45_0.2.2.2.2.2.1 zg_14_45_0.2.2.2.2.2.2.1 rfl, rfl⟩
theorem zd_14_45_7 : zz_D zy_stopped_14_45 7 (.invokestatic 192) 3 10 := ⟨zq_184 zg_14_45_0.2.2.2.2.2.2.2.1 zg_14_45_0.2.2.2.2.2.2.2.2.1 zg_14_45_0.2.2.2.2.2.2.2.2.2.1 rfl, rfl⟩
theorem zd_14_45_10 : zz_B zy_stopped_14_45 10 (Instr.ifCond .ne) 17 13 := ⟨7, zq_154 zg_14_45_0.2.2.2.2.2.2.2.2.2.2.1 zg_14_45_0.2.2.2.2.2.2.2.2.2.2.2.1 zg_14_45_0.2.2.2.2.2.2.2.2.2.2.2.2.1 (by decide), rfl, rfl⟩
theorem zd_14_45_13 : zz_D zy_stopped_14_45 13 (.iconst 1) 1 14 := ⟨zq_4 zg_14_45_0.2.2.2.2.2.2.2.2.2.2.2.2.2.1, rfl⟩
theorem zd_14_45_14 : zz_B zy_stopped_14_45 14 Instr.goto 18 17 := ⟨4, zq_167 zg_14_45_0.2.2.2.2.2.2.2.2.2.2.2.2.2.2.1 zg_14_45_0.2.2.2.2.2.2.2.2.2.2.2.2.2.2.2.1 zg_14_45_0.2.2.2.2.2.2.2.2.2.2.2.2.2.2.2.2.1 (by decide), rfl, rfl⟩
theorem zd_14_45_18 : zz_D zy_stopped_14_45 18 (.iconst 0) 1 19 := ⟨zq_3 zg_14_45_0.2.2.2.2.2.2.2.2.2.2.2.2.2.2.2.2.2.1, rfl⟩
theorem zd_14_45_19 : zz_D zy_stopped_14_45 19 (.iconst 0) 1 20 := ⟨zq_3 zg_14_45_0.2.2.2.2.2.2.2.2.2.2.2.2.2.2.2.2.2.2.1, rfl⟩
theorem zd_14_45_20 : zz_D zy_stopped_14_45 20 (.invokevirtual 196) 3 23 := ⟨zq_182 zg_14_45_0.2.2.2.2.2.2.2.2.2.2.2.2.2.2.2.2.2.2.2.1 zg_14_45_0.2.2.2.2.2.2.2.2.2.2.2.2.2.2.2.2.2.2.2.2.1 zg_14_45_0.2.2.2.2.2.2.2.2.2.2.2.2.2.2.2.2.2.2.2.2.2 rfl, rfl⟩
theorem zg_14_45_23 : zq_at zy_stopped_14_45.2.1 23 153 ∧ zq_at zy_stopped_14_45.2.1 24 0 ∧ zq_at zy_stopped_14_45.2.1 25 5 ∧ zq_at zy_stopped_14_45.2.1 26 3 ∧ zq_at zy_stopped_14_45.2.1 27 172 ∧ zq_at zy_stopped_14_45.2.1 17 3 ∧ zq_at zy_stopped_14_45.2.1 28 27 ∧ zq_at zy_stopped_14_45.2.1 29 154 ∧ zq_at zy_stopped_14_45.2.1 30 0 ∧ zq_at zy_stopped_14_45.2.1 31 10 ∧ zq_at zy_stopped_14_45.2.1 39 27 ∧ zq_at zy_stopped_14_45.2.1 40 4 ∧ zq_at zy_stopped_14_45.2.1 41 160 ∧ zq_at zy_stopped_14_45.2.1 42 0 ∧ zq_at zy_stopped_14_45.2.1 43 10 ∧ zq_at zy_stopped_14_45.2.1 51 27 ∧ zq_at zy_stopped_14_45.2.1 52 5 ∧ zq_at zy_stopped_14_45.2.1 53 160 ∧ zq_at zy_stopped_14_45.2.1 54 0 ∧ zq_at zy_stopped_14_45.2.1 55 10 ∧ zq_at zy_stopped_14_45.2.1 63 27 ∧ zq_at zy_stopped_14_45.2.1 64 16 ∧ zq_at zy_stopped_14_45.2.1 65 6 := by decide +kernel
theorem zd_14_45_23 : zz_B zy_stopped_14_45 23 (Instr.ifCond .eq) 28 26 := ⟨5, zq_153 zg_14_45_23.1 zg_14_45_23.2.1 zg_14_45_23.2.2.1 (by decide), rfl, rfl⟩
theorem zd_14_45_26 : zz_D zy_stopped_14_45 26 (.iconst 0) 1 27 := ⟨zq_3 zg_14_45_23.2.2.2.1, rfl⟩
theorem zd_14_45_27 : zz_D zy_stopped_14_45 27 (.ireturn) 1 28 := ⟨zq_172 zg_14_45_23.2.2.2.2.1, rfl⟩
theorem zd_14_45_17 : zz_D zy_stopped_14_45 17 (.iconst 0) 1 18 := ⟨zq_3 zg_14_45_23.2.2.2.2.2.1, rfl⟩
theorem zd_14_45_28 : zz_D zy_stopped_14_45 28 (.iload_n 1) 1 29 := ⟨zq_27 zg_14_45_23.2.2.2.2.2.2.1, rfl⟩
theorem zd_14_45_29 : zz_B zy_stopped_14_45 29 (Instr.ifCond .ne) 39 32 := ⟨10, zq_154 zg_14_45_23.2.2.2.2.2.2.2.1 zg_14_45_23.2.2.2.2.2.2.2.2.1 zg_14_45_23.2.2.2.2.2.2.2.2.2.1 (by decide), rfl, rfl⟩
theorem zd_14_45_39 : zz_D zy_stopped_14_45 39 (.iload_n 1) 1 40 := ⟨zq_27 zg_14_45_23.2.2.2.2.2.2.2.2.2.2.1, rfl⟩
theorem zd_14_45_40 : zz_D zy_stopped_14_45 40 (.iconst 1) 1 41 := ⟨zq_4 zg_14_45_23.2.2.2.2.2.2.2.2.2.2.2.1, rfl⟩
theorem zd_14_45_41 : zz_B zy_stopped_14_45 41 (Instr.if_icmp .ne) 51 44 := ⟨10, zq_160 zg_14_45_23.2.2.2.2.2.2.2.2.2.2.2.2.1 zg_14_45_23.2.2.2.2.2.2.2.2.2.2.2.2.2.1 zg_14_45_23.2.2.2.2.2.2.2.2.2.2.2.2.2.2.1 (by decide), rfl, rfl⟩
theorem zd_14_45_51 : zz_D zy_stopped_14_45 51 (.iload_n 1) 1 52 := ⟨zq_27 zg_14_45_23.2.2.2.2.2.2.2.2.2.2.2.2.2.2.2.1, rfl⟩
theorem zd_14_45_52 : zz_D zy_stopped_14_45 52 (.iconst 2) 1 53 := ⟨zq_5 zg_14_45_23.2.2.2.2.2.2.2.2.2.2.2.2.2.2.2.2.1, rfl⟩
theorem zd_14_45_53 : zz_B zy_stopped_14_45 53 (Instr.if_icmp .ne) 63 56 := ⟨10, zq_160 zg_14_45_23.2.2.2.2.2.2.2.2.2.2.2.2.2.2.2.2.2.1 zg_14_45_23.2.2.2.2.2.2.2.2.2.2.2.2.2.2.2.2.2.2.1 zg_14_45_23.2.2.2.2.2.2.2.2.2.2.2.2.2.2.2.2.2.2.2.1 (by decide), rfl, rfl⟩
theorem zd_14_45_63 : zz_D zy_stopped_14_45 63 (.iload_n 1) 1 64 := ⟨zq_27 zg_14_45_23.2.2.2.2.2.2.2.2.2.2.2.2.2.2.2.2.2.2.2.2.1, rfl⟩
theorem zd_14_45_64 : zz_D zy_stopped_14_45 64 (.bipush 6) 2 66 := ⟨zq_16 zg_14_45_23.2.2.2.2.2.2.2.2.2.2.2.2.2.2.2.2.2.2.2.2.2.1 zg_14_45_23.2.2.2.2.2.2.2.2.2.2.2.2.2.2.2.2.2.2.2.2.2.2 (by decide), rfl⟩
theorem zg_14_45_66 : zq_at zy_stopped_14_45.2.1 66 162 ∧ zq_at zy_stopped_14_45.2.1 67 0 ∧ zq_at zy_stopped_14_45.2.1 68 14 ∧ zq_at zy_stopped_14_45.2.1 80 42 ∧ zq_at zy_stopped_14_45.2.1 81 180 ∧ zq_at zy_stopped_14_45.2.1 82 0 ∧ zq_at zy_stopped_14_45.2.1 83 51 ∧ zq_at zy_stopped_14_45.2.1 84 27 ∧ zq_at zy_stopped_14_45.2.1 85 16 ∧ zq_at zy_stopped_14_45.2.1 86 6 ∧ zq_at zy_stopped_14_45.2.1 87 100 ∧ zq_at zy_stopped_14_45.2.1 88 46 ∧ zq_at zy_stopped_14_45.2.1 89 172 ∧ zq_at zy_stopped_14_45.2.1 69 42 ∧ zq_at zy_stopped_14_45.2.1 70 180 ∧ zq_at zy_stopped_14_45.2.1 71 0 ∧ zq_at zy_stopped_14_45.2.1 72 48 ∧ zq_at zy_stopped_14_45.2.1 73 27 ∧ zq_at zy_stopped_14_45.2.1 74 6 ∧ zq_at zy_stopped_14_45.2.1 75 100 ∧ zq_at zy_stopped_14_45.2.1 76 46 ∧ zq_at zy_stopped_14_45.2.1 77 167 ∧ zq_at zy_stopped_14_45.2.1 78 0 ∧ zq_at zy_stopped_14_45.2.1 79 12 := by decide +kernel
theorem zd_14_45_66 : zz_B zy_stopped_14_45 66 (Instr.if_icmp .ge) 80 69 := ⟨14, zq_162 zg_14_45_66.1 zg_14_45_66.2.1 zg_14_45_66.2.2.1 (by decide), rfl, rfl⟩
theorem zd_14_45_80 : zz_D zy_stopped_14_45 80 (.aload_n 0) 1 81 := ⟨zq_42 zg_14_45_66.2.2.2.1, rfl⟩
theorem zd_14_45_81 : zz_D zy_stopped_14_45 81 (.getfield 51) 3 84 := ⟨zq_180 zg_14_45_66.2.2.2.2.1 zg_14_45_66.2.2.2.2.2.1 zg_14_45_66.2.2.2.2.2.2.1 rfl, rfl⟩
theorem zd_14_45_84 : zz_D zy_stopped_14_45 84 (.iload_n 1) 1 85 := ⟨zq_27 zg_14_45_66.2.2.2.2.2.2.2.1, rfl⟩
theorem zd_14_45_85 : zz_D zy_stopped_14_45 85 (.bipush 6) 2 87 := ⟨zq_16 zg_14_45_66.2.2.2.2.2.2.2.2.1 zg_14_45_66.2.2.2.2.2.2.2.2.2.1 (by decide), rfl⟩
theorem zd_14_45_87 : zz_D zy_stopped_14_45 87 (.isub) 1 88 := ⟨zq_100 zg_14_45_66.2.2.2.2.2.2.2.2.2.2.1, rfl⟩
theorem zd_14_45_88 : zz_D zy_stopped_14_45 88 (.iaload) 1 89 := ⟨zq_46 zg_14_45_66.2.2.2.2.2.2.2.2.2.2.2.1, rfl⟩
theorem zd_14_45_89 : zz_D zy_stopped_14_45 89 (.ireturn) 1 90 := ⟨zq_172 zg_14_45_66.2.2.2.2.2.2.2.2.2.2.2.2.1, rfl⟩
theorem zd_14_45_69 : zz_D zy_stopped_14_45 69 (.aload_n 0) 1 70 := ⟨zq_42 zg_14_45_66.2.2.2.2.2.2.2.2.2.2.2.2.2.1, rfl⟩
theorem zd_14_45_70 : zz_D zy_stopped_14_45 70 (.getfield 48) 3 73 := ⟨zq_180 zg_14_45_66.2.2.2.2.2.2.2.2.2.2.2.2.2.2.1 zg_14_45_66.2.2.2.2.2.2.2.2.2.2.2.2.2.2.2.1 zg_14_45_66.2.2.2.2.2.2.2.2.2.2.2.2.2.2.2.2.1 rfl, rfl⟩
theorem zd_14_45_73 : zz_D zy_stopped_14_45 73 (.iload_n 1) 1 74 := ⟨zq_27 zg_14_45_66.2.2.2.2.2.2.2.2.2.2.2.2.2.2.2.2.2.1, rfl⟩
theorem zd_14_45_74 : zz_D zy_stopped_14_45 74 (.iconst 3) 1 75 := ⟨zq_6 zg_14_45_66.2.2.2.2.2.2.2.2.2.2.2.2.2.2.2.2.2.2.1, rfl⟩
theorem zd_14_45_75 : zz_D zy_stopped_14_45 75 (.isub) 1 76 := ⟨zq_100 zg_14_45_66.2.2.2.2.2.2.2.2.2.2.2.2.2.2.2.2.2.2.2.1, rfl⟩
theorem zd_14_45_76 : zz_D zy_stopped_14_45 76 (.iaload) 1 77 := ⟨zq_46 zg_14_45_66.2.2.2.2.2.2.2.2.2.2.2.2.2.2.2.2.2.2.2.2.1, rfl⟩
theorem zd_14_45_77 : zz_B zy_stopped_14_45 77 Instr.goto 89 80 := ⟨12, zq_167 zg_14_45_66.2.2.2.2.2.2.2.2.2.2.2.2.2.2.2.2.2.2.2.2.2.1 zg_14_45_66.2.2.2.2.2.2.2.2.2.2.2.2.2.2.2.2.2.2.2.2.2.2.1 zg_14_45_66.2.2.2.2.2.2.2.2.2.2.2.2.2.2.2.2.2.2.2.2.2.2.2 (by decide), rfl, rfl⟩
theorem zg_14_45_56 : zq_at zy_stopped_14_45.2.1 56 42 ∧ zq_at zy_stopped_14_45.2.1 57 180 ∧ zq_at zy_stopped_14_45.2.1 58 1 ∧ zq_at zy_stopped_14_45.2.1 59 36 ∧ zq_at zy_stopped_14_45.2.1 60 167 ∧ zq_at zy_stopped_14_45.2.1 61 0 ∧ zq_at zy_stopped_14_45.2.1 62 29 ∧ zq_at zy_stopped_14_45.2.1 44 42 ∧ zq_at zy_stopped_14_45.2.1 45 180 ∧ zq_at zy_stopped_14_45.2.1 46 0 ∧ zq_at zy_stopped_14_45.2.1 47 45 ∧ zq_at zy_stopped_14_45.2.1 48 167 ∧ zq_at zy_stopped_14_45.2.1 49 0 ∧ zq_at zy_stopped_14_45.2.1 50 41 ∧ zq_at zy_stopped_14_45.2.1 32 42 ∧ zq_at zy_stopped_14_45.2.1 33 180 ∧ zq_at zy_stopped_14_45.2.1 34 1 ∧ zq_at zy_stopped_14_45.2.1 35 39 ∧ zq_at zy_stopped_14_45.2.1 36 167 ∧ zq_at zy_stopped_14_45.2.1 37 0 ∧ zq_at zy_stopped_14_45.2.1 38 53 := by decide +kernel
theorem zd_14_45_56 : zz_D zy_stopped_14_45 56 (.aload_n 0) 1 57 := ⟨zq_42 zg_14_45_56.1, rfl⟩
theorem zd_14_45_57 : zz_D zy_stopped_14_45 57 (.getfield 292) 3 60 := ⟨zq_180 zg_14_45_56.2.1 zg_14_45_56.2.2.1 zg_14_45_56.2.2.2.1 rfl, rfl⟩
theorem zd_14_45_60 : zz_B zy_stopped_14_45 60 Instr.goto 89 63 := ⟨29, zq_167 zg_14_45_56.2.2.2.2.1 zg_14_45_56.2.2.2.2.2.1 zg_14_45_56.2.2.2.2.2.2.1 (by decide), rfl, rfl⟩
theorem zd_14_45_44 : zz_D zy_stopped_14_45 44 (.aload_n 0) 1 45 := ⟨zq_42 zg_14_45_56.2.2.2.2.2.2.2.1, rfl⟩
theorem zd_14_45_45 : zz_D zy_stopped_14_45 45 (.getfield 45) 3 48 := ⟨zq_180 zg_14_45_56.2.2.2.2.2.2.2.2.1 zg_14_45_56.2.2.2.2.2.2.2.2.2.1 zg_14_45_56.2.2.2.2.2.2.2.2.2.2.1 rfl, rfl⟩
theorem zd_14_45_48 : zz_B zy_stopped_14_45 48 Instr.goto 89 51 := ⟨41, zq_167 zg_14_45_56.2.2.2.2.2.2.2.2.2.2.2.1 zg_14_45_56.2.2.2.2.2.2.2.2.2.2.2.2.1 zg_14_45_56.2.2.2.2.2.2.2.2.2.2.2.2.2.1 (by decide), rfl, rfl⟩
theorem zd_14_45_32 : zz_D zy_stopped_14_45 32 (.aload_n 0) 1 33 := ⟨zq_42 zg_14_45_56.2.2.2.2.2.2.2.2.2.2.2.2.2.2.1, rfl⟩
theorem zd_14_45_33 : zz_D zy_stopped_14_45 33 (.getfield 295) 3 36 := ⟨zq_180 zg_14_45_56.2.2.2.2.2.2.2.2.2.2.2.2.2.2.2.1 zg_14_45_56.2.2.2.2.2.2.2.2.2.2.2.2.2.2.2.2.1 zg_14_45_56.2.2.2.2.2.2.2.2.2.2.2.2.2.2.2.2.2.1 rfl, rfl⟩
theorem zd_14_45_36 : zz_B zy_stopped_14_45 36 Instr.goto 89 39 := ⟨53, zq_167 zg_14_45_56.2.2.2.2.2.2.2.2.2.2.2.2.2.2.2.2.2.2.1 zg_14_45_56.2.2.2.2.2.2.2.2.2.2.2.2.2.2.2.2.2.2.2.1 zg_14_45_56.2.2.2.2.2.2.2.2.2.2.2.2.2.2.2.2.2.2.2.2 (by decide), rfl, rfl⟩
-- TensorForgeModel stopped (I)I
abbrev zr_stopped_14_45 : Room := { frames := 1, cells := 0, slots := 0, locals := 18 }
def zp_stopped_14_45 (p0 : Int) (S0 : zz_S) : Int → zz_S → Prop := fun r S => zz_G S ∧ zz_fr [(1079, 0)] [] (fun _ _ => False) S0 S ∧ ((-2147483648) ≤ r ∧ r ≤ 2147483647)
theorem zc_stopped_14_45 {g : mm_G} {l : Launch} (p0 : Int) (S0 : zz_S) (n : Nat) (hn : zz_end ≤ n) (G_S0 : zz_G S0) (hp0 : (-2147483648) ≤ p0 ∧ p0 ≤ 2147483647) : mm_Met g l zy_stopped_14_45 zr_stopped_14_45 [.ref 1079, zi p0] (zz_M S0 n) n (zz_QI n (zp_stopped_14_45 p0 S0)) := by
  refine zz_enter (by decide) (Nat.le_of_ble_eq_true rfl) (zz_less (ls1 := [some (.ref 1079), some (zi p0)]) ⟨rfl, ⟨rfl, trivial⟩⟩ ?_)
  have F_S0 : zz_fr [(1079, 0)] [] (fun _ _ => False) S0 S0 := zz_fr.refl
  refine zz_aload_n (x := 1079) rfl zd_14_45_0 ?_
  refine zz_iload_n (x := p0) rfl zd_14_45_1 ?_
  refine zz_i2l (by omega) zd_14_45_2 ?_
  refine zz_lconst (z := 0) (by decide) zd_14_45_3 ?_
  refine zz_ldc2 (z := 9) zq_Md_238 (by decide) zd_14_45_4 ?_
  refine zz_callSI [zl p0, zl 0, zl 9] zd_14_45_7 zk_Md_192 rfl rfl ⟨Nat.le_of_ble_eq_true rfl, Nat.le_of_ble_eq_true rfl⟩ ⟨rfl, rfl⟩ (Nat.zero_le _) (Nat.zero_le _) (zc_in_14_4 p0 0 9 S0 n hn G_S0 (by omega) (by omega) (by omega)) (fun v2 S1 hP => ?_)
  obtain ⟨rfl, o3, o4⟩ := hP
  rcases (by omega : v2 = 0 ∨ v2 = 1) with rfl | rfl
  · have n5 : p0 < 0 ∨ 9 < p0 := by omega
    clear o4
    refine zz_if_ne (by omega) zd_14_45_10 (fun c6 => ?_) (fun c6 => ?_)
    · exfalso; omega
    · refine zz_iconst zd_14_45_13 ?_
      refine zz_goto zd_14_45_14 ?_
      refine zz_iconst zd_14_45_18 ?_
      refine zz_iconst zd_14_45_19 ?_
      refine zz_callVI [zi 1, zi 0, zi 0] zd_14_45_20 zk_Md_196 zT_1079 (zz_ltn hn rfl) rfl rfl ⟨Nat.le_of_ble_eq_true rfl, Nat.le_of_ble_eq_true rfl⟩ ⟨rfl, rfl⟩ (Nat.zero_le _) (Nat.zero_le _) (zc_refuse_14_3 1 0 0 S0 n hn G_S0 (by omega) (by omega) (by omega)) (fun v8 S7 hP => ?_)
      obtain ⟨G_S7, fS7, o9, o10⟩ := hP
      have F_S7 := zz_fr.trans F_S0 fS7 rfl zz_nv
      rcases (by omega : v8 = 0 ∨ v8 = 1) with rfl | rfl
      · exfalso; omega
      · have e11 : S7 1079 0 = 1 := by omega
        clear o10
        refine zz_if_eq (by omega) zd_14_45_23 (fun c12 => ?_) (fun c12 => ?_)
        · exfalso; omega
        · refine zz_iconst zd_14_45_26 ?_
          exact zz_iret zd_14_45_27 rfl (Nat.zero_le _) (Nat.zero_le _) ⟨_, _, rfl, G_S7, F_S7, by omega⟩
  · have n13 : 0 ≤ p0 ∧ p0 ≤ 9 := by omega
    clear o4
    refine zz_if_ne (by omega) zd_14_45_10 (fun c14 => ?_) (fun c14 => ?_)
    · refine zz_iconst zd_14_45_17 ?_
      refine zz_iconst zd_14_45_18 ?_
      refine zz_iconst zd_14_45_19 ?_
      refine zz_callVI [zi 0, zi 0, zi 0] zd_14_45_20 zk_Md_196 zT_1079 (zz_ltn hn rfl) rfl rfl ⟨Nat.le_of_ble_eq_true rfl, Nat.le_of_ble_eq_true rfl⟩ ⟨rfl, rfl⟩ (Nat.zero_le _) (Nat.zero_le _) (zc_refuse_14_3 0 0 0 S0 n hn G_S0 (by omega) (by omega) (by omega)) (fun v16 S15 hP => ?_)
      obtain ⟨G_S15, fS15, o17, o18⟩ := hP
      have F_S15 := zz_fr.trans F_S0 fS15 rfl zz_nv
      rcases (by omega : v16 = 0 ∨ v16 = 1) with rfl | rfl
      · have e19 : S15 1079 0 = 0 := by omega
        clear o18
        refine zz_if_eq (by omega) zd_14_45_23 (fun c20 => ?_) (fun c20 => ?_)
        · refine zz_iload_n (x := p0) rfl zd_14_45_28 ?_
          refine zz_if_ne (by omega) zd_14_45_29 (fun c21 => ?_) (fun c21 => ?_)
          · refine zz_iload_n (x := p0) rfl zd_14_45_39 ?_
            refine zz_iconst zd_14_45_40 ?_
            refine zz_icmp_ne (by omega) (by omega) zd_14_45_41 (fun c22 => ?_) (fun c22 => ?_)
            · refine zz_iload_n (x := p0) rfl zd_14_45_51 ?_
              refine zz_iconst zd_14_45_52 ?_
              refine zz_icmp_ne (by omega) (by omega) zd_14_45_53 (fun c23 => ?_) (fun c23 => ?_)
              · refine zz_iload_n (x := p0) rfl zd_14_45_63 ?_
                refine zz_bipush (by decide) zd_14_45_64 ?_
                refine zz_icmp_ge (by omega) (by omega) zd_14_45_66 (fun c24 => ?_) (fun c24 => ?_)
                · refine zz_aload_n (x := 1079) rfl zd_14_45_80 ?_
                  refine zz_getr (kd := 0) (z := 1091) zd_14_45_81 zf_Md_51 zT_1079 rfl (zz_ltn hn rfl) (zz_G.eq G_S15 1079 18 1091 rfl rfl) (by decide) 1091 rfl ?_
                  refine zz_iload_n (x := p0) rfl zd_14_45_84 ?_
                  refine zz_bipush (by decide) zd_14_45_85 ?_
                  refine zz_isub zd_14_45_87 ?_
                  have g25 := zz_G.r G_S0 1091 ((p0 - 6).toNat) (-2147483648) 2147483647 rfl rfl
                  refine zz_iald (z := S0 1091 ((p0 - 6).toNat)) zd_14_45_88 zT_1091 rfl (zz_ltn hn rfl) (by decide) (by omega) (zz_rc fS15 (zz_nc1 rfl) rfl (fun h => h) rfl) ?_
                  exact zz_iret zd_14_45_89 rfl (Nat.zero_le _) (Nat.zero_le _) ⟨_, _, rfl, G_S15, F_S15, by omega⟩
                · refine zz_aload_n (x := 1079) rfl zd_14_45_69 ?_
                  refine zz_getr (kd := 0) (z := 1090) zd_14_45_70 zf_Md_48 zT_1079 rfl (zz_ltn hn rfl) (zz_G.eq G_S15 1079 17 1090 rfl rfl) (by decide) 1090 rfl ?_
                  refine zz_iload_n (x := p0) rfl zd_14_45_73 ?_
                  refine zz_iconst zd_14_45_74 ?_
                  refine zz_isub zd_14_45_75 ?_
                  have g26 := zz_G.r G_S0 1090 ((p0 - 3).toNat) (-2147483648) 2147483647 rfl rfl
                  refine zz_iald (z := S0 1090 ((p0 - 3).toNat)) zd_14_45_76 zT_1090 rfl (zz_ltn hn rfl) (by decide) (by omega) (zz_rc fS15 (zz_nc1 rfl) rfl (fun h => h) rfl) ?_
                  refine zz_goto zd_14_45_77 ?_
                  exact zz_iret zd_14_45_89 rfl (Nat.zero_le _) (Nat.zero_le _) ⟨_, _, rfl, G_S15, F_S15, by omega⟩
              · refine zz_aload_n (x := 1079) rfl zd_14_45_56 ?_
                have g27 := zz_G.r G_S0 1079 16 (-2147483648) 2147483647 rfl rfl
                refine zz_geti (z := S0 1079 16) zd_14_45_57 zf_Md_292 zT_1079 rfl (zz_ltn hn rfl) (zz_rc fS15 rfl rfl (fun h => h) rfl) ?_
                refine zz_goto zd_14_45_60 ?_
                exact zz_iret zd_14_45_89 rfl (Nat.zero_le _) (Nat.zero_le _) ⟨_, _, rfl, G_S15, F_S15, by omega⟩
            · refine zz_aload_n (x := 1079) rfl zd_14_45_44 ?_
              have g28 := zz_G.r G_S0 1079 15 (-1) 600 rfl rfl
              refine zz_geti (z := S0 1079 15) zd_14_45_45 zf_Md_45 zT_1079 rfl (zz_ltn hn rfl) (zz_rc fS15 rfl rfl (fun h => h) rfl) ?_
              refine zz_goto zd_14_45_48 ?_
              exact zz_iret zd_14_45_89 rfl (Nat.zero_le _) (Nat.zero_le _) ⟨_, _, rfl, G_S15, F_S15, by omega⟩
          · refine zz_aload_n (x := 1079) rfl zd_14_45_32 ?_
            have g29 := zz_G.r G_S0 1079 14 0 4 rfl rfl
            refine zz_geti (z := S0 1079 14) zd_14_45_33 zf_Md_295 zT_1079 rfl (zz_ltn hn rfl) (zz_rc fS15 rfl rfl (fun h => h) rfl) ?_
            refine zz_goto zd_14_45_36 ?_
            exact zz_iret zd_14_45_89 rfl (Nat.zero_le _) (Nat.zero_le _) ⟨_, _, rfl, G_S15, F_S15, by omega⟩
        · exfalso; omega
      · exfalso; omega
    · exfalso; omega
abbrev zy_instruction_14_46 : mm_Y := (⟨"TensorForgeModel", "instruction", "(II)I"⟩, prog_14_method_46_code, 5, (some .int))
theorem zyw_instruction_14_46 : mm_Yw zy_instruction_14_46 2 := ⟨mm_tb_1 1996 (by decide +kernel) rfl, mm_tb_1 12 (by decide +kernel) rfl, ⟨by decide, by decide⟩, by decide +kernel⟩
theorem zg_14_46_0 : zq_at zy_instruction_14_46.2.1 0 42 ∧ zq_at zy_instruction_14_46.2.1 1 180 ∧ zq_at zy_instruction_14_46.2.1 2 1 ∧ zq_at zy_instruction_14_46.2.1 3 39 ∧ zq_at zy_instruction_14_46.2.1 4 158 ∧ zq_at zy_instruction_14_46.2.1 5 0 ∧ zq_at zy_instruction_14_46.2.1 6 15 ∧ zq_at zy_instruction_14_46.2.1 19 3 ∧ zq_at zy_instruction_14_46.2.1 20 62 ∧ zq_at zy_instruction_14_46.2.1 21 29 ∧ zq_at zy_instruction_14_46.2.1 22 153 ∧ zq_at zy_instruction_14_46.2.1 23 0 ∧ zq_at zy_instruction_14_46.2.1 24 23 ∧ zq_at zy_instruction_14_46.2.1 45 3 ∧ zq_at zy_instruction_14_46.2.1 46 54 ∧ zq_at zy_instruction_14_46.2.1 47 4 ∧ zq_at zy_instruction_14_46.2.1 48 42 ∧ zq_at zy_instruction_14_46.2.1 49 29 ∧ zq_at zy_instruction_14_46.2.1 50 154 ∧ zq_at zy_instruction_14_46.2.1 51 0 ∧ zq_at zy_instruction_14_46.2.1 52 7 ∧ zq_at zy_instruction_14_46.2.1 53 4 := by decide +kernel
theorem zd_14_46_0 : zz_D zy_instruction_14_46 0 (.aload_n 0) 1 1 := ⟨zq_42 zg_14_46_0.1, rfl⟩
theorem zd_14_46_1 : zz_D zy_instruction_14_46 1 (.getfield 295) 3 4 := ⟨zq_180 zg_14_46_0.2.1 zg_14_46_0.2.2.1 zg_14_46_0.2.2.2.1 rfl, rfl⟩
theorem zd_14_46_4 : zz_B zy_instruction_14_46 4 (Instr.ifCond .le) 19 7 := ⟨15, zq_158 zg_14_46_0.2.2.2.2.1 zg_14_46_0.2.2.2.2.2.1 zg_14_46_0.2.2.2.2.2.2.1 (by decide), rfl, rfl⟩
theorem zd_14_46_19 : zz_D zy_instruction_14_46 19 (.iconst 0) 1 20 := ⟨zq_3 zg_14_46_0.2.2.2.2.2.2.2.1, rfl⟩
theorem zd_14_46_20 : zz_D zy_instruction_14_46 20 (.istore_n 3) 1 21 := ⟨zq_62 zg_14_46_0.2.2.2.2.2.2.2.2.1, rfl⟩
theorem zd_14_46_21 : zz_D zy_instruction_14_46 21 (.iload_n 3) 1 22 := ⟨zq_29 zg_14_46_0.2.2.2.2.2.2.2.2.2.1, rfl⟩
theorem zd_14_46_22 : zz_B zy_instruction_14_46 22 (Instr.ifCond .eq) 45 25 := ⟨23, zq_153 zg_14_46_0.2.2.2.2.2.2.2.2.2.2.1 zg_14_46_0.2.2.2.2.2.2.2.2.2.2.2.1 zg_14_46_0.2.2.2.2.2.2.2.2.2.2.2.2.1 (by decide), rfl, rfl⟩
theorem zd_14_46_45 : zz_D zy_instruction_14_46 45 (.iconst 0) 1 46 := ⟨zq_3 zg_14_46_0.2.2.2.2.2.2.2.2.2.2.2.2.2.1, rfl⟩
theorem zd_14_46_46 : zz_D zy_instruction_14_46 46 (.istore 4) 2 48 := ⟨zq_54 zg_14_46_0.2.2.2.2.2.2.2.2.2.2.2.2.2.2.1 zg_14_46_0.2.2.2.2.2.2.2.2.2.2.2.2.2.2.2.1, rfl⟩
theorem zd_14_46_48 : zz_D zy_instruction_14_46 48 (.aload_n 0) 1 49 := ⟨zq_42 zg_14_46_0.2.2.2.2.2.2.2.2.2.2.2.2.2.2.2.2.1, rfl⟩
theorem zd_14_46_49 : zz_D zy_instruction_14_46 49 (.iload_n 3) 1 50 := ⟨zq_29 zg_14_46_0.2.2.2.2.2.2.2.2.2.2.2.2.2.2.2.2.2.1, rfl⟩
theorem zd_14_46_50 : zz_B zy_instruction_14_46 50 (Instr.ifCond .ne) 57 53 := ⟨7, zq_154 zg_14_46_0.2.2.2.2.2.2.2.2.2.2.2.2.2.2.2.2.2.2.1 zg_14_46_0.2.2.2.2.2.2.2.2.2.2.2.2.2.2.2.2.2.2.2.1 zg_14_46_0.2.2.2.2.2.2.2.2.2.2.2.2.2.2.2.2.2.2.2.2.1 (by decide), rfl, rfl⟩
theorem zd_14_46_53 : zz_D zy_instruction_14_46 53 (.iconst 1) 1 54 := ⟨zq_4 zg_14_46_0.2.2.2.2.2.2.2.2.2.2.2.2.2.2.2.2.2.2.2.2.2, rfl⟩
theorem zg_14_46_54 : zq_at zy_instruction_14_46.2.1 54 167 ∧ zq_at zy_instruction_14_46.2.1 55 0 ∧ zq_at zy_instruction_14_46.2.1 56 4 ∧ zq_at zy_instruction_14_46.2.1 58 29 ∧ zq_at zy_instruction_14_46.2.1 59 153 ∧ zq_at zy_instruction_14_46.2.1 60 0 ∧ zq_at zy_instruction_14_46.2.1 61 12 ∧ zq_at zy_instruction_14_46.2.1 71 3 ∧ zq_at zy_instruction_14_46.2.1 72 21 ∧ zq_at zy_instruction_14_46.2.1 73 4 ∧ zq_at zy_instruction_14_46.2.1 74 153 ∧ zq_at zy_instruction_14_46.2.1 75 0 ∧ zq_at zy_instruction_14_46.2.1 76 19 ∧ zq_at zy_instruction_14_46.2.1 93 3 ∧ zq_at zy_instruction_14_46.2.1 94 182 ∧ zq_at zy_instruction_14_46.2.1 95 0 ∧ zq_at zy_instruction_14_46.2.1 96 196 ∧ zq_at zy_instruction_14_46.2.1 97 153 ∧ zq_at zy_instruction_14_46.2.1 98 0 ∧ zq_at zy_instruction_14_46.2.1 99 5 ∧ zq_at zy_instruction_14_46.2.1 100 3 ∧ zq_at zy_instruction_14_46.2.1 101 172 ∧ zq_at zy_instruction_14_46.2.1 7 42 := by decide +kernel
theorem zd_14_46_54 : zz_B zy_instruction_14_46 54 Instr.goto 58 57 := ⟨4, zq_167 zg_14_46_54.1 zg_14_46_54.2.1 zg_14_46_54.2.2.1 (by decide), rfl, rfl⟩
theorem zd_14_46_58 : zz_D zy_instruction_14_46 58 (.iload_n 3) 1 59 := ⟨zq_29 zg_14_46_54.2.2.2.1, rfl⟩
theorem zd_14_46_59 : zz_B zy_instruction_14_46 59 (Instr.ifCond .eq) 71 62 := ⟨12, zq_153 zg_14_46_54.2.2.2.2.1 zg_14_46_54.2.2.2.2.2.1 zg_14_46_54.2.2.2.2.2.2.1 (by decide), rfl, rfl⟩
theorem zd_14_46_71 : zz_D zy_instruction_14_46 71 (.iconst 0) 1 72 := ⟨zq_3 zg_14_46_54.2.2.2.2.2.2.2.1, rfl⟩
theorem zd_14_46_72 : zz_D zy_instruction_14_46 72 (.iload 4) 2 74 := ⟨zq_21 zg_14_46_54.2.2.2.2.2.2.2.2.1 zg_14_46_54.2.2.2.2.2.2.2.2.2.1, rfl⟩
theorem zd_14_46_74 : zz_B zy_instruction_14_46 74 (Instr.ifCond .eq) 93 77 := ⟨19, zq_153 zg_14_46_54.2.2.2.2.2.2.2.2.2.2.1 zg_14_46_54.2.2.2.2.2.2.2.2.2.2.2.1 zg_14_46_54.2.2.2.2.2.2.2.2.2.2.2.2.1 (by decide), rfl, rfl⟩
theorem zd_14_46_93 : zz_D zy_instruction_14_46 93 (.iconst 0) 1 94 := ⟨zq_3 zg_14_46_54.2.2.2.2.2.2.2.2.2.2.2.2.2.1, rfl⟩
theorem zd_14_46_94 : zz_D zy_instruction_14_46 94 (.invokevirtual 196) 3 97 := ⟨zq_182 zg_14_46_54.2.2.2.2.2.2.2.2.2.2.2.2.2.2.1 zg_14_46_54.2.2.2.2.2.2.2.2.2.2.2.2.2.2.2.1 zg_14_46_54.2.2.2.2.2.2.2.2.2.2.2.2.2.2.2.2.1 rfl, rfl⟩
theorem zd_14_46_97 : zz_B zy_instruction_14_46 97 (Instr.ifCond .eq) 102 100 := ⟨5, zq_153 zg_14_46_54.2.2.2.2.2.2.2.2.2.2.2.2.2.2.2.2.2.1 zg_14_46_54.2.2.2.2.2.2.2.2.2.2.2.2.2.2.2.2.2.2.1 zg_14_46_54.2.2.2.2.2.2.2.2.2.2.2.2.2.2.2.2.2.2.2.1 (by decide), rfl, rfl⟩
theorem zd_14_46_100 : zz_D zy_instruction_14_46 100 (.iconst 0) 1 101 := ⟨zq_3 zg_14_46_54.2.2.2.2.2.2.2.2.2.2.2.2.2.2.2.2.2.2.2.2.1, rfl⟩
theorem zd_14_46_101 : zz_D zy_instruction_14_46 101 (.ireturn) 1 102 := ⟨zq_172 zg_14_46_54.2.2.2.2.2.2.2.2.2.2.2.2.2.2.2.2.2.2.2.2.2.1, rfl⟩
theorem zd_14_46_7 : zz_D zy_instruction_14_46 7 (.aload_n 0) 1 8 := ⟨zq_42 zg_14_46_54.2.2.2.2.2.2.2.2.2.2.2.2.2.2.2.2.2.2.2.2.2.2, rfl⟩
theorem zg_14_46_8 : zq_at zy_instruction_14_46.2.1 8 180 ∧ zq_at zy_instruction_14_46.2.1 9 1 ∧ zq_at zy_instruction_14_46.2.1 10 39 ∧ zq_at zy_instruction_14_46.2.1 11 5 ∧ zq_at zy_instruction_14_46.2.1 12 159 ∧ zq_at zy_instruction_14_46.2.1 13 0 ∧ zq_at zy_instruction_14_46.2.1 14 7 ∧ zq_at zy_instruction_14_46.2.1 15 4 ∧ zq_at zy_instruction_14_46.2.1 16 167 ∧ zq_at zy_instruction_14_46.2.1 17 0 ∧ zq_at zy_instruction_14_46.2.1 18 4 ∧ zq_at zy_instruction_14_46.2.1 25 27 ∧ zq_at zy_instruction_14_46.2.1 26 133 ∧ zq_at zy_instruction_14_46.2.1 27 9 ∧ zq_at zy_instruction_14_46.2.1 28 42 ∧ zq_at zy_instruction_14_46.2.1 29 180 ∧ zq_at zy_instruction_14_46.2.1 30 1 ∧ zq_at zy_instruction_14_46.2.1 31 16 ∧ zq_at zy_instruction_14_46.2.1 32 4 ∧ zq_at zy_instruction_14_46.2.1 33 100 ∧ zq_at zy_instruction_14_46.2.1 34 133 ∧ zq_at zy_instruction_14_46.2.1 35 184 ∧ zq_at zy_instruction_14_46.2.1 36 0 ∧ zq_at zy_instruction_14_46.2.1 37 192 := by decide +kernel
theorem zd_14_46_8 : zz_D zy_instruction_14_46 8 (.getfield 295) 3 11 := ⟨zq_180 zg_14_46_8.1 zg_14_46_8.2.1 zg_14_46_8.2.2.1 rfl, rfl⟩
theorem zd_14_46_11 : zz_D zy_instruction_14_46 11 (.iconst 2) 1 12 := ⟨zq_5 zg_14_46_8.2.2.2.1, rfl⟩
theorem zd_14_46_12 : zz_B zy_instruction_14_46 12 (Instr.if_icmp .eq) 19 15 := ⟨7, zq_159 zg_14_46_8.2.2.2.2.1 zg_14_46_8.2.2.2.2.2.1 zg_14_46_8.2.2.2.2.2.2.1 (by decide), rfl, rfl⟩
theorem zd_14_46_15 : zz_D zy_instruction_14_46 15 (.iconst 1) 1 16 := ⟨zq_4 zg_14_46_8.2.2.2.2.2.2.2.1, rfl⟩
theorem zd_14_46_16 : zz_B zy_instruction_14_46 16 Instr.goto 20 19 := ⟨4, zq_167 zg_14_46_8.2.2.2.2.2.2.2.2.1 zg_14_46_8.2.2.2.2.2.2.2.2.2.1 zg_14_46_8.2.2.2.2.2.2.2.2.2.2.1 (by decide), rfl, rfl⟩
theorem zd_14_46_25 : zz_D zy_instruction_14_46 25 (.iload_n 1) 1 26 := ⟨zq_27 zg_14_46_8.2.2.2.2.2.2.2.2.2.2.2.1, rfl⟩
theorem zd_14_46_26 : zz_D zy_instruction_14_46 26 (.i2l) 1 27 := ⟨zq_133 zg_14_46_8.2.2.2.2.2.2.2.2.2.2.2.2.1, rfl⟩
theorem zd_14_46_27 : zz_D zy_instruction_14_46 27 (.lconst 0) 1 28 := ⟨zq_9 zg_14_46_8.2.2.2.2.2.2.2.2.2.2.2.2.2.1, rfl⟩
theorem zd_14_46_28 : zz_D zy_instruction_14_46 28 (.aload_n 0) 1 29 := ⟨zq_42 zg_14_46_8.2.2.2.2.2.2.2.2.2.2.2.2.2.2.1, rfl⟩
theorem zd_14_46_29 : zz_D zy_instruction_14_46 29 (.getfield 272) 3 32 := ⟨zq_180 zg_14_46_8.2.2.2.2.2.2.2.2.2.2.2.2.2.2.2.1 zg_14_46_8.2.2.2.2.2.2.2.2.2.2.2.2.2.2.2.2.1 zg_14_46_8.2.2.2.2.2.2.2.2.2.2.2.2.2.2.2.2.2.1 rfl, rfl⟩
theorem zd_14_46_32 : zz_D zy_instruction_14_46 32 (.iconst 1) 1 33 := ⟨zq_4 zg_14_46_8.2.2.2.2.2.2.2.2.2.2.2.2.2.2.2.2.2.2.1, rfl⟩
theorem zd_14_46_33 : zz_D zy_instruction_14_46 33 (.isub) 1 34 := ⟨zq_100 zg_14_46_8.2.2.2.2.2.2.2.2.2.2.2.2.2.2.2.2.2.2.2.1, rfl⟩
theorem zd_14_46_34 : zz_D zy_instruction_14_46 34 (.i2l) 1 35 := ⟨zq_133 zg_14_46_8.2.2.2.2.2.2.2.2.2.2.2.2.2.2.2.2.2.2.2.2.1, rfl⟩
theorem zd_14_46_35 : zz_D zy_instruction_14_46 35 (.invokestatic 192) 3 38 := ⟨zq_184 zg_14_46_8.2.2.2.2.2.2.2.2.2.2.2.2.2.2.2.2.2.2.2.2.2.1 zg_14_46_8.2.2.2.2.2.2.2.2.2.2.2.2.2.2.2.2.2.2.2.2.2.2.1 zg_14_46_8.2.2.2.2.2.2.2.2.2.2.2.2.2.2.2.2.2.2.2.2.2.2.2 rfl, rfl⟩
theorem zg_14_46_38 : zq_at zy_instruction_14_46.2.1 38 153 ∧ zq_at zy_instruction_14_46.2.1 39 0 ∧ zq_at zy_instruction_14_46.2.1 40 7 ∧ zq_at zy_instruction_14_46.2.1 57 3 ∧ zq_at zy_instruction_14_46.2.1 62 21 ∧ zq_at zy_instruction_14_46.2.1 63 4 ∧ zq_at zy_instruction_14_46.2.1 64 154 ∧ zq_at zy_instruction_14_46.2.1 65 0 ∧ zq_at zy_instruction_14_46.2.1 66 7 ∧ zq_at zy_instruction_14_46.2.1 67 4 ∧ zq_at zy_instruction_14_46.2.1 68 167 ∧ zq_at zy_instruction_14_46.2.1 69 0 ∧ zq_at zy_instruction_14_46.2.1 70 4 ∧ zq_at zy_instruction_14_46.2.1 41 4 ∧ zq_at zy_instruction_14_46.2.1 42 167 ∧ zq_at zy_instruction_14_46.2.1 43 0 ∧ zq_at zy_instruction_14_46.2.1 44 4 ∧ zq_at zy_instruction_14_46.2.1 77 28 ∧ zq_at zy_instruction_14_46.2.1 78 133 ∧ zq_at zy_instruction_14_46.2.1 79 9 ∧ zq_at zy_instruction_14_46.2.1 80 20 ∧ zq_at zy_instruction_14_46.2.1 81 0 ∧ zq_at zy_instruction_14_46.2.1 82 169 := by decide +kernel
theorem zd_14_46_38 : zz_B zy_instruction_14_46 38 (Instr.ifCond .eq) 45 41 := ⟨7, zq_153 zg_14_46_38.1 zg_14_46_38.2.1 zg_14_46_38.2.2.1 (by decide), rfl, rfl⟩
theorem zd_14_46_57 : zz_D zy_instruction_14_46 57 (.iconst 0) 1 58 := ⟨zq_3 zg_14_46_38.2.2.2.1, rfl⟩
theorem zd_14_46_62 : zz_D zy_instruction_14_46 62 (.iload 4) 2 64 := ⟨zq_21 zg_14_46_38.2.2.2.2.1 zg_14_46_38.2.2.2.2.2.1, rfl⟩
theorem zd_14_46_64 : zz_B zy_instruction_14_46 64 (Instr.ifCond .ne) 71 67 := ⟨7, zq_154 zg_14_46_38.2.2.2.2.2.2.1 zg_14_46_38.2.2.2.2.2.2.2.1 zg_14_46_38.2.2.2.2.2.2.2.2.1 (by decide), rfl, rfl⟩
theorem zd_14_46_67 : zz_D zy_instruction_14_46 67 (.iconst 1) 1 68 := ⟨zq_4 zg_14_46_38.2.2.2.2.2.2.2.2.2.1, rfl⟩
theorem zd_14_46_68 : zz_B zy_instruction_14_46 68 Instr.goto 72 71 := ⟨4, zq_167 zg_14_46_38.2.2.2.2.2.2.2.2.2.2.1 zg_14_46_38.2.2.2.2.2.2.2.2.2.2.2.1 zg_14_46_38.2.2.2.2.2.2.2.2.2.2.2.2.1 (by decide), rfl, rfl⟩
theorem zd_14_46_41 : zz_D zy_instruction_14_46 41 (.iconst 1) 1 42 := ⟨zq_4 zg_14_46_38.2.2.2.2.2.2.2.2.2.2.2.2.2.1, rfl⟩
theorem zd_14_46_42 : zz_B zy_instruction_14_46 42 Instr.goto 46 45 := ⟨4, zq_167 zg_14_46_38.2.2.2.2.2.2.2.2.2.2.2.2.2.2.1 zg_14_46_38.2.2.2.2.2.2.2.2.2.2.2.2.2.2.2.1 zg_14_46_38.2.2.2.2.2.2.2.2.2.2.2.2.2.2.2.2.1 (by decide), rfl, rfl⟩
theorem zd_14_46_77 : zz_D zy_instruction_14_46 77 (.iload_n 2) 1 78 := ⟨zq_28 zg_14_46_38.2.2.2.2.2.2.2.2.2.2.2.2.2.2.2.2.2.1, rfl⟩
theorem zd_14_46_78 : zz_D zy_instruction_14_46 78 (.i2l) 1 79 := ⟨zq_133 zg_14_46_38.2.2.2.2.2.2.2.2.2.2.2.2.2.2.2.2.2.2.1, rfl⟩
theorem zd_14_46_79 : zz_D zy_instruction_14_46 79 (.lconst 0) 1 80 := ⟨zq_9 zg_14_46_38.2.2.2.2.2.2.2.2.2.2.2.2.2.2.2.2.2.2.2.1, rfl⟩
theorem zd_14_46_80 : zz_D zy_instruction_14_46 80 (.ldc2_w 169) 3 83 := ⟨zq_20 zg_14_46_38.2.2.2.2.2.2.2.2.2.2.2.2.2.2.2.2.2.2.2.2.1 zg_14_46_38.2.2.2.2.2.2.2.2.2.2.2.2.2.2.2.2.2.2.2.2.2.1 zg_14_46_38.2.2.2.2.2.2.2.2.2.2.2.2.2.2.2.2.2.2.2.2.2.2 rfl, rfl⟩
theorem zg_14_46_83 : zq_at zy_instruction_14_46.2.1 83 184 ∧ zq_at zy_instruction_14_46.2.1 84 0 ∧ zq_at zy_instruction_14_46.2.1 85 192 ∧ zq_at zy_instruction_14_46.2.1 86 154 ∧ zq_at zy_instruction_14_46.2.1 87 0 ∧ zq_at zy_instruction_14_46.2.1 88 7 ∧ zq_at zy_instruction_14_46.2.1 89 4 ∧ zq_at zy_instruction_14_46.2.1 90 167 ∧ zq_at zy_instruction_14_46.2.1 91 0 ∧ zq_at zy_instruction_14_46.2.1 92 4 ∧ zq_at zy_instruction_14_46.2.1 102 28 ∧ zq_at zy_instruction_14_46.2.1 103 154 ∧ zq_at zy_instruction_14_46.2.1 104 0 ∧ zq_at zy_instruction_14_46.2.1 105 12 ∧ zq_at zy_instruction_14_46.2.1 115 28 ∧ zq_at zy_instruction_14_46.2.1 116 4 ∧ zq_at zy_instruction_14_46.2.1 117 160 ∧ zq_at zy_instruction_14_46.2.1 118 0 ∧ zq_at zy_instruction_14_46.2.1 119 12 ∧ zq_at zy_instruction_14_46.2.1 129 42 ∧ zq_at zy_instruction_14_46.2.1 130 180 ∧ zq_at zy_instruction_14_46.2.1 131 0 ∧ zq_at zy_instruction_14_46.2.1 132 60 ∧ zq_at zy_instruction_14_46.2.1 133 27 := by decide +kernel
theorem zd_14_46_83 : zz_D zy_instruction_14_46 83 (.invokestatic 192) 3 86 := ⟨zq_184 zg_14_46_83.1 zg_14_46_83.2.1 zg_14_46_83.2.2.1 rfl, rfl⟩
theorem zd_14_46_86 : zz_B zy_instruction_14_46 86 (Instr.ifCond .ne) 93 89 := ⟨7, zq_154 zg_14_46_83.2.2.2.1 zg_14_46_83.2.2.2.2.1 zg_14_46_83.2.2.2.2.2.1 (by decide), rfl, rfl⟩
theorem zd_14_46_89 : zz_D zy_instruction_14_46 89 (.iconst 1) 1 90 := ⟨zq_4 zg_14_46_83.2.2.2.2.2.2.1, rfl⟩
theorem zd_14_46_90 : zz_B zy_instruction_14_46 90 Instr.goto 94 93 := ⟨4, zq_167 zg_14_46_83.2.2.2.2.2.2.2.1 zg_14_46_83.2.2.2.2.2.2.2.2.1 zg_14_46_83.2.2.2.2.2.2.2.2.2.1 (by decide), rfl, rfl⟩
theorem zd_14_46_102 : zz_D zy_instruction_14_46 102 (.iload_n 2) 1 103 := ⟨zq_28 zg_14_46_83.2.2.2.2.2.2.2.2.2.2.1, rfl⟩
theorem zd_14_46_103 : zz_B zy_instruction_14_46 103 (Instr.ifCond .ne) 115 106 := ⟨12, zq_154 zg_14_46_83.2.2.2.2.2.2.2.2.2.2.2.1 zg_14_46_83.2.2.2.2.2.2.2.2.2.2.2.2.1 zg_14_46_83.2.2.2.2.2.2.2.2.2.2.2.2.2.1 (by decide), rfl, rfl⟩
theorem zd_14_46_115 : zz_D zy_instruction_14_46 115 (.iload_n 2) 1 116 := ⟨zq_28 zg_14_46_83.2.2.2.2.2.2.2.2.2.2.2.2.2.2.1, rfl⟩
theorem zd_14_46_116 : zz_D zy_instruction_14_46 116 (.iconst 1) 1 117 := ⟨zq_4 zg_14_46_83.2.2.2.2.2.2.2.2.2.2.2.2.2.2.2.1, rfl⟩
theorem zd_14_46_117 : zz_B zy_instruction_14_46 117 (Instr.if_icmp .ne) 129 120 := ⟨12, zq_160 zg_14_46_83.2.2.2.2.2.2.2.2.2.2.2.2.2.2.2.2.1 zg_14_46_83.2.2.2.2.2.2.2.2.2.2.2.2.2.2.2.2.2.1 zg_14_46_83.2.2.2.2.2.2.2.2.2.2.2.2.2.2.2.2.2.2.1 (by decide), rfl, rfl⟩
theorem zd_14_46_129 : zz_D zy_instruction_14_46 129 (.aload_n 0) 1 130 := ⟨zq_42 zg_14_46_83.2.2.2.2.2.2.2.2.2.2.2.2.2.2.2.2.2.2.2.1, rfl⟩
theorem zd_14_46_130 : zz_D zy_instruction_14_46 130 (.getfield 60) 3 133 := ⟨zq_180 zg_14_46_83.2.2.2.2.2.2.2.2.2.2.2.2.2.2.2.2.2.2.2.2.1 zg_14_46_83.2.2.2.2.2.2.2.2.2.2.2.2.2.2.2.2.2.2.2.2.2.1 zg_14_46_83.2.2.2.2.2.2.2.2.2.2.2.2.2.2.2.2.2.2.2.2.2.2.1 rfl, rfl⟩
theorem zd_14_46_133 : zz_D zy_instruction_14_46 133 (.iload_n 1) 1 134 := ⟨zq_27 zg_14_46_83.2.2.2.2.2.2.2.2.2.2.2.2.2.2.2.2.2.2.2.2.2.2.2, rfl⟩
theorem zg_14_46_134 : zq_at zy_instruction_14_46.2.1 134 46 ∧ zq_at zy_instruction_14_46.2.1 135 172 ∧ zq_at zy_instruction_14_46.2.1 120 42 ∧ zq_at zy_instruction_14_46.2.1 121 180 ∧ zq_at zy_instruction_14_46.2.1 122 0 ∧ zq_at zy_instruction_14_46.2.1 123 57 ∧ zq_at zy_instruction_14_46.2.1 124 27 ∧ zq_at zy_instruction_14_46.2.1 125 46 ∧ zq_at zy_instruction_14_46.2.1 126 167 ∧ zq_at zy_instruction_14_46.2.1 127 0 ∧ zq_at zy_instruction_14_46.2.1 128 9 ∧ zq_at zy_instruction_14_46.2.1 106 42 ∧ zq_at zy_instruction_14_46.2.1 107 180 ∧ zq_at zy_instruction_14_46.2.1 108 0 ∧ zq_at zy_instruction_14_46.2.1 109 54 ∧ zq_at zy_instruction_14_46.2.1 110 27 ∧ zq_at zy_instruction_14_46.2.1 111 46 ∧ zq_at zy_instruction_14_46.2.1 112 167 ∧ zq_at zy_instruction_14_46.2.1 113 0 ∧ zq_at zy_instruction_14_46.2.1 114 23 := by decide +kernel
theorem zd_14_46_134 : zz_D zy_instruction_14_46 134 (.iaload) 1 135 := ⟨zq_46 zg_14_46_134.1, rfl⟩
theorem zd_14_46_135 : zz_D zy_instruction_14_46 135 (.ireturn) 1 136 := ⟨zq_172 zg_14_46_134.2.1, rfl⟩
theorem zd_14_46_120 : zz_D zy_instruction_14_46 120 (.aload_n 0) 1 121 := ⟨zq_42 zg_14_46_134.2.2.1, rfl⟩
theorem zd_14_46_121 : zz_D zy_instruction_14_46 121 (.getfield 57) 3 124 := ⟨zq_180 zg_14_46_134.2.2.2.1 zg_14_46_134.2.2.2.2.1 zg_14_46_134.2.2.2.2.2.1 rfl, rfl⟩
theorem zd_14_46_124 : zz_D zy_instruction_14_46 124 (.iload_n 1) 1 125 := ⟨zq_27 zg_14_46_134.2.2.2.2.2.2.1, rfl⟩
theorem zd_14_46_125 : zz_D zy_instruction_14_46 125 (.iaload) 1 126 := ⟨zq_46 zg_14_46_134.2.2.2.2.2.2.2.1, rfl⟩
theorem zd_14_46_126 : zz_B zy_instruction_14_46 126 Instr.goto 135 129 := ⟨9, zq_167 zg_14_46_134.2.2.2.2.2.2.2.2.1 zg_14_46_134.2.2.2.2.2.2.2.2.2.1 zg_14_46_134.2.2.2.2.2.2.2.2.2.2.1 (by decide), rfl, rfl⟩
theorem zd_14_46_106 : zz_D zy_instruction_14_46 106 (.aload_n 0) 1 107 := ⟨zq_42 zg_14_46_134.2.2.2.2.2.2.2.2.2.2.2.1, rfl⟩
theorem zd_14_46_107 : zz_D zy_instruction_14_46 107 (.getfield 54) 3 110 := ⟨zq_180 zg_14_46_134.2.2.2.2.2.2.2.2.2.2.2.2.1 zg_14_46_134.2.2.2.2.2.2.2.2.2.2.2.2.2.1 zg_14_46_134.2.2.2.2.2.2.2.2.2.2.2.2.2.2.1 rfl, rfl⟩
theorem zd_14_46_110 : zz_D zy_instruction_14_46 110 (.iload_n 1) 1 111 := ⟨zq_27 zg_14_46_134.2.2.2.2.2.2.2.2.2.2.2.2.2.2.2.1, rfl⟩
theorem zd_14_46_111 : zz_D zy_instruction_14_46 111 (.iaload) 1 112 := ⟨zq_46 zg_14_46_134.2.2.2.2.2.2.2.2.2.2.2.2.2.2.2.2.1, rfl⟩
theorem zd_14_46_112 : zz_B zy_instruction_14_46 112 Instr.goto 135 115 := ⟨23, zq_167 zg_14_46_134.2.2.2.2.2.2.2.2.2.2.2.2.2.2.2.2.2.1 zg_14_46_134.2.2.2.2.2.2.2.2.2.2.2.2.2.2.2.2.2.2.1 zg_14_46_134.2.2.2.2.2.2.2.2.2.2.2.2.2.2.2.2.2.2.2 (by decide), rfl, rfl⟩
-- TensorForgeModel instruction (II)I
abbrev zr_instruction_14_46 : Room := { frames := 1, cells := 0, slots := 0, locals := 20 }
def zp_instruction_14_46 (p0 : Int) (p1 : Int) (S0 : zz_S) : Int → zz_S → Prop := fun r S => zz_G S ∧ zz_fr [(1079, 0)] [] (fun _ _ => False) S0 S ∧ ((-2147483648) ≤ r ∧ r ≤ 2147483647)
theorem zc_instruction_14_46 {g : mm_G} {l : Launch} (p0 : Int) (p1 : Int) (S0 : zz_S) (n : Nat) (hn : zz_end ≤ n) (G_S0 : zz_G S0) (hp0 : (-2147483648) ≤ p0 ∧ p0 ≤ 2147483647) (hp1 : (-2147483648) ≤ p1 ∧ p1 ≤ 2147483647) : mm_Met g l zy_instruction_14_46 zr_instruction_14_46 [.ref 1079, zi p0, zi p1] (zz_M S0 n) n (zz_QI n (zp_instruction_14_46 p0 p1 S0)) := by
  refine zz_enter (by decide) (Nat.le_of_ble_eq_true rfl) (zz_less (ls1 := [some (.ref 1079), some (zi p0), some (zi p1)]) ⟨rfl, ⟨rfl, ⟨rfl, trivial⟩⟩⟩ ?_)
  have F_S0 : zz_fr [(1079, 0)] [] (fun _ _ => False) S0 S0 := zz_fr.refl
  refine zz_aload_n (x := 1079) rfl zd_14_46_0 ?_
  have g1 := zz_G.r G_S0 1079 14 0 4 rfl rfl
  refine zz_geti (z := S0 1079 14) zd_14_46_1 zf_Md_295 zT_1079 rfl (zz_ltn hn rfl) rfl ?_
  refine zz_if_le (by omega) zd_14_46_4 (fun c2 => ?_) (fun c2 => ?_)
  · refine zz_iconst zd_14_46_19 ?_
    refine zz_istore_n [some (.ref 1079), some (zi p0), some (zi p1), some (zi 0)] zd_14_46_20 (by decide) rfl ?_
    refine zz_iload_n (x := 0) rfl zd_14_46_21 ?_
    refine zz_if_eq (by omega) zd_14_46_22 (fun c3 => ?_) (fun c3 => ?_)
    · refine zz_iconst zd_14_46_45 ?_
      refine zz_istore [some (.ref 1079), some (zi p0), some (zi p1), some (zi 0), some (zi 0)] zd_14_46_46 (by decide) rfl ?_
      refine zz_aload_n (x := 1079) rfl zd_14_46_48 ?_
      refine zz_iload_n (x := 0) rfl zd_14_46_49 ?_
      refine zz_if_ne (by omega) zd_14_46_50 (fun c4 => ?_) (fun c4 => ?_)
      · exfalso; omega
      · refine zz_iconst zd_14_46_53 ?_
        refine zz_goto zd_14_46_54 ?_
        refine zz_iload_n (x := 0) rfl zd_14_46_58 ?_
        refine zz_if_eq (by omega) zd_14_46_59 (fun c5 => ?_) (fun c5 => ?_)
        · refine zz_iconst zd_14_46_71 ?_
          refine zz_iload (x := 0) rfl zd_14_46_72 ?_
          refine zz_if_eq (by omega) zd_14_46_74 (fun c6 => ?_) (fun c6 => ?_)
          · refine zz_iconst zd_14_46_93 ?_
            refine zz_callVI [zi 1, zi 0, zi 0] zd_14_46_94 zk_Md_196 zT_1079 (zz_ltn hn rfl) rfl rfl ⟨Nat.le_of_ble_eq_true rfl, Nat.le_of_ble_eq_true rfl⟩ ⟨rfl, rfl⟩ (Nat.zero_le _) (Nat.zero_le _) (zc_refuse_14_3 1 0 0 S0 n hn G_S0 (by omega) (by omega) (by omega)) (fun v8 S7 hP => ?_)
            obtain ⟨G_S7, fS7, o9, o10⟩ := hP
            have F_S7 := zz_fr.trans F_S0 fS7 rfl zz_nv
            rcases (by omega : v8 = 0 ∨ v8 = 1) with rfl | rfl
            · exfalso; omega
            · have e11 : S7 1079 0 = 1 := by omega
              clear o10
              refine zz_if_eq (by omega) zd_14_46_97 (fun c12 => ?_) (fun c12 => ?_)
              · exfalso; omega
              · refine zz_iconst zd_14_46_100 ?_
                exact zz_iret zd_14_46_101 rfl (Nat.zero_le _) (Nat.zero_le _) ⟨_, _, rfl, G_S7, F_S7, by omega⟩
          · exfalso; omega
        · exfalso; omega
    · exfalso; omega
  · refine zz_aload_n (x := 1079) rfl zd_14_46_7 ?_
    refine zz_geti (z := S0 1079 14) zd_14_46_8 zf_Md_295 zT_1079 rfl (zz_ltn hn rfl) rfl ?_
    refine zz_iconst zd_14_46_11 ?_
    refine zz_icmp_eq (by omega) (by omega) zd_14_46_12 (fun c13 => ?_) (fun c13 => ?_)
    · refine zz_iconst zd_14_46_19 ?_
      refine zz_istore_n [some (.ref 1079), some (zi p0), some (zi p1), some (zi 0)] zd_14_46_20 (by decide) rfl ?_
      refine zz_iload_n (x := 0) rfl zd_14_46_21 ?_
      refine zz_if_eq (by omega) zd_14_46_22 (fun c14 => ?_) (fun c14 => ?_)
      · refine zz_iconst zd_14_46_45 ?_
        refine zz_istore [some (.ref 1079), some (zi p0), some (zi p1), some (zi 0), some (zi 0)] zd_14_46_46 (by decide) rfl ?_
        refine zz_aload_n (x := 1079) rfl zd_14_46_48 ?_
        refine zz_iload_n (x := 0) rfl zd_14_46_49 ?_
        refine zz_if_ne (by omega) zd_14_46_50 (fun c15 => ?_) (fun c15 => ?_)
        · exfalso; omega
        · refine zz_iconst zd_14_46_53 ?_
          refine zz_goto zd_14_46_54 ?_
          refine zz_iload_n (x := 0) rfl zd_14_46_58 ?_
          refine zz_if_eq (by omega) zd_14_46_59 (fun c16 => ?_) (fun c16 => ?_)
          · refine zz_iconst zd_14_46_71 ?_
            refine zz_iload (x := 0) rfl zd_14_46_72 ?_
            refine zz_if_eq (by omega) zd_14_46_74 (fun c17 => ?_) (fun c17 => ?_)
            · refine zz_iconst zd_14_46_93 ?_
              refine zz_callVI [zi 1, zi 0, zi 0] zd_14_46_94 zk_Md_196 zT_1079 (zz_ltn hn rfl) rfl rfl ⟨Nat.le_of_ble_eq_true rfl, Nat.le_of_ble_eq_true rfl⟩ ⟨rfl, rfl⟩ (Nat.zero_le _) (Nat.zero_le _) (zc_refuse_14_3 1 0 0 S0 n hn G_S0 (by omega) (by omega) (by omega)) (fun v19 S18 hP => ?_)
              obtain ⟨G_S18, fS18, o20, o21⟩ := hP
              have F_S18 := zz_fr.trans F_S0 fS18 rfl zz_nv
              rcases (by omega : v19 = 0 ∨ v19 = 1) with rfl | rfl
              · exfalso; omega
              · have e22 : S18 1079 0 = 1 := by omega
                clear o21
                refine zz_if_eq (by omega) zd_14_46_97 (fun c23 => ?_) (fun c23 => ?_)
                · exfalso; omega
                · refine zz_iconst zd_14_46_100 ?_
                  exact zz_iret zd_14_46_101 rfl (Nat.zero_le _) (Nat.zero_le _) ⟨_, _, rfl, G_S18, F_S18, by omega⟩
            · exfalso; omega
          · exfalso; omega
      · exfalso; omega
    · refine zz_iconst zd_14_46_15 ?_
      refine zz_goto zd_14_46_16 ?_
      refine zz_istore_n [some (.ref 1079), some (zi p0), some (zi p1), some (zi 1)] zd_14_46_20 (by decide) rfl ?_
      refine zz_iload_n (x := 1) rfl zd_14_46_21 ?_
      refine zz_if_eq (by omega) zd_14_46_22 (fun c24 => ?_) (fun c24 => ?_)
      · exfalso; omega
      · refine zz_iload_n (x := p0) rfl zd_14_46_25 ?_
        refine zz_i2l (by omega) zd_14_46_26 ?_
        refine zz_lconst (z := 0) (by decide) zd_14_46_27 ?_
        refine zz_aload_n (x := 1079) rfl zd_14_46_28 ?_
        have g25 := zz_G.r G_S0 1079 19 (-1) 600 rfl rfl
        refine zz_geti (z := S0 1079 19) zd_14_46_29 zf_Md_272 zT_1079 rfl (zz_ltn hn rfl) rfl ?_
        refine zz_iconst zd_14_46_32 ?_
        refine zz_isub zd_14_46_33 ?_
        refine zz_i2l (by omega) zd_14_46_34 ?_
        refine zz_callSI [zl p0, zl 0, zl ((S0 1079 19) - 1)] zd_14_46_35 zk_Md_192 rfl rfl ⟨Nat.le_of_ble_eq_true rfl, Nat.le_of_ble_eq_true rfl⟩ ⟨rfl, rfl⟩ (Nat.zero_le _) (Nat.zero_le _) (zc_in_14_4 p0 0 ((S0 1079 19) - 1) S0 n hn G_S0 (by omega) (by omega) (by omega)) (fun v27 S26 hP => ?_)
        obtain ⟨rfl, o28, o29⟩ := hP
        rcases (by omega : v27 = 0 ∨ v27 = 1) with rfl | rfl
        · have n30 : p0 < 0 ∨ (S0 1079 19) - 1 < p0 := by omega
          clear o29
          refine zz_if_eq (by omega) zd_14_46_38 (fun c31 => ?_) (fun c31 => ?_)
          · refine zz_iconst zd_14_46_45 ?_
            refine zz_istore [some (.ref 1079), some (zi p0), some (zi p1), some (zi 1), some (zi 0)] zd_14_46_46 (by decide) rfl ?_
            refine zz_aload_n (x := 1079) rfl zd_14_46_48 ?_
            refine zz_iload_n (x := 1) rfl zd_14_46_49 ?_
            refine zz_if_ne (by omega) zd_14_46_50 (fun c32 => ?_) (fun c32 => ?_)
            · refine zz_iconst zd_14_46_57 ?_
              refine zz_iload_n (x := 1) rfl zd_14_46_58 ?_
              refine zz_if_eq (by omega) zd_14_46_59 (fun c33 => ?_) (fun c33 => ?_)
              · exfalso; omega
              · refine zz_iload (x := 0) rfl zd_14_46_62 ?_
                refine zz_if_ne (by omega) zd_14_46_64 (fun c34 => ?_) (fun c34 => ?_)
                · exfalso; omega
                · refine zz_iconst zd_14_46_67 ?_
                  refine zz_goto zd_14_46_68 ?_
                  refine zz_iload (x := 0) rfl zd_14_46_72 ?_
                  refine zz_if_eq (by omega) zd_14_46_74 (fun c35 => ?_) (fun c35 => ?_)
                  · refine zz_iconst zd_14_46_93 ?_
                    refine zz_callVI [zi 0, zi 1, zi 0] zd_14_46_94 zk_Md_196 zT_1079 (zz_ltn hn rfl) rfl rfl ⟨Nat.le_of_ble_eq_true rfl, Nat.le_of_ble_eq_true rfl⟩ ⟨rfl, rfl⟩ (Nat.zero_le _) (Nat.zero_le _) (zc_refuse_14_3 0 1 0 S0 n hn G_S0 (by omega) (by omega) (by omega)) (fun v37 S36 hP => ?_)
                    obtain ⟨G_S36, fS36, o38, o39⟩ := hP
                    have F_S36 := zz_fr.trans F_S0 fS36 rfl zz_nv
                    rcases (by omega : v37 = 0 ∨ v37 = 1) with rfl | rfl
                    · exfalso; omega
                    · have e40 : S36 1079 0 = 2 := by omega
                      clear o39
                      refine zz_if_eq (by omega) zd_14_46_97 (fun c41 => ?_) (fun c41 => ?_)
                      · exfalso; omega
                      · refine zz_iconst zd_14_46_100 ?_
                        exact zz_iret zd_14_46_101 rfl (Nat.zero_le _) (Nat.zero_le _) ⟨_, _, rfl, G_S36, F_S36, by omega⟩
                  · exfalso; omega
            · exfalso; omega
          · exfalso; omega
        · have n42 : 0 ≤ p0 ∧ p0 ≤ (S0 1079 19) - 1 := by omega
          clear o29
          refine zz_if_eq (by omega) zd_14_46_38 (fun c43 => ?_) (fun c43 => ?_)
          · exfalso; omega
          · refine zz_iconst zd_14_46_41 ?_
            refine zz_goto zd_14_46_42 ?_
            refine zz_istore [some (.ref 1079), some (zi p0), some (zi p1), some (zi 1), some (zi 1)] zd_14_46_46 (by decide) rfl ?_
            refine zz_aload_n (x := 1079) rfl zd_14_46_48 ?_
            refine zz_iload_n (x := 1) rfl zd_14_46_49 ?_
            refine zz_if_ne (by omega) zd_14_46_50 (fun c44 => ?_) (fun c44 => ?_)
            · refine zz_iconst zd_14_46_57 ?_
              refine zz_iload_n (x := 1) rfl zd_14_46_58 ?_
              refine zz_if_eq (by omega) zd_14_46_59 (fun c45 => ?_) (fun c45 => ?_)
              · exfalso; omega
              · refine zz_iload (x := 1) rfl zd_14_46_62 ?_
                refine zz_if_ne (by omega) zd_14_46_64 (fun c46 => ?_) (fun c46 => ?_)
                · refine zz_iconst zd_14_46_71 ?_
                  refine zz_iload (x := 1) rfl zd_14_46_72 ?_
                  refine zz_if_eq (by omega) zd_14_46_74 (fun c47 => ?_) (fun c47 => ?_)
                  · exfalso; omega
                  · refine zz_iload_n (x := p1) rfl zd_14_46_77 ?_
                    refine zz_i2l (by omega) zd_14_46_78 ?_
                    refine zz_lconst (z := 0) (by decide) zd_14_46_79 ?_
                    refine zz_ldc2 (z := 2) zq_Md_169 (by decide) zd_14_46_80 ?_
                    refine zz_callSI [zl p1, zl 0, zl 2] zd_14_46_83 zk_Md_192 rfl rfl ⟨Nat.le_of_ble_eq_true rfl, Nat.le_of_ble_eq_true rfl⟩ ⟨rfl, rfl⟩ (Nat.zero_le _) (Nat.zero_le _) (zc_in_14_4 p1 0 2 S0 n hn G_S0 (by omega) (by omega) (by omega)) (fun v49 S48 hP => ?_)
                    obtain ⟨rfl, o50, o51⟩ := hP
                    rcases (by omega : v49 = 0 ∨ v49 = 1) with rfl | rfl
                    · have n52 : p1 < 0 ∨ 2 < p1 := by omega
                      clear o51
                      refine zz_if_ne (by omega) zd_14_46_86 (fun c53 => ?_) (fun c53 => ?_)
                      · exfalso; omega
                      · refine zz_iconst zd_14_46_89 ?_
                        refine zz_goto zd_14_46_90 ?_
                        refine zz_callVI [zi 0, zi 0, zi 1] zd_14_46_94 zk_Md_196 zT_1079 (zz_ltn hn rfl) rfl rfl ⟨Nat.le_of_ble_eq_true rfl, Nat.le_of_ble_eq_true rfl⟩ ⟨rfl, rfl⟩ (Nat.zero_le _) (Nat.zero_le _) (zc_refuse_14_3 0 0 1 S0 n hn G_S0 (by omega) (by omega) (by omega)) (fun v55 S54 hP => ?_)
                        obtain ⟨G_S54, fS54, o56, o57⟩ := hP
                        have F_S54 := zz_fr.trans F_S0 fS54 rfl zz_nv
                        rcases (by omega : v55 = 0 ∨ v55 = 1) with rfl | rfl
                        · exfalso; omega
                        · have e58 : S54 1079 0 = 3 := by omega
                          clear o57
                          refine zz_if_eq (by omega) zd_14_46_97 (fun c59 => ?_) (fun c59 => ?_)
                          · exfalso; omega
                          · refine zz_iconst zd_14_46_100 ?_
                            exact zz_iret zd_14_46_101 rfl (Nat.zero_le _) (Nat.zero_le _) ⟨_, _, rfl, G_S54, F_S54, by omega⟩
                    · have n60 : 0 ≤ p1 ∧ p1 ≤ 2 := by omega
                      clear o51
                      refine zz_if_ne (by omega) zd_14_46_86 (fun c61 => ?_) (fun c61 => ?_)
                      · refine zz_iconst zd_14_46_93 ?_
                        refine zz_callVI [zi 0, zi 0, zi 0] zd_14_46_94 zk_Md_196 zT_1079 (zz_ltn hn rfl) rfl rfl ⟨Nat.le_of_ble_eq_true rfl, Nat.le_of_ble_eq_true rfl⟩ ⟨rfl, rfl⟩ (Nat.zero_le _) (Nat.zero_le _) (zc_refuse_14_3 0 0 0 S0 n hn G_S0 (by omega) (by omega) (by omega)) (fun v63 S62 hP => ?_)
                        obtain ⟨G_S62, fS62, o64, o65⟩ := hP
                        have F_S62 := zz_fr.trans F_S0 fS62 rfl zz_nv
                        rcases (by omega : v63 = 0 ∨ v63 = 1) with rfl | rfl
                        · have e66 : S62 1079 0 = 0 := by omega
                          clear o65
                          refine zz_if_eq (by omega) zd_14_46_97 (fun c67 => ?_) (fun c67 => ?_)
                          · refine zz_iload_n (x := p1) rfl zd_14_46_102 ?_
                            refine zz_if_ne (by omega) zd_14_46_103 (fun c68 => ?_) (fun c68 => ?_)
                            · refine zz_iload_n (x := p1) rfl zd_14_46_115 ?_
                              refine zz_iconst zd_14_46_116 ?_
                              refine zz_icmp_ne (by omega) (by omega) zd_14_46_117 (fun c69 => ?_) (fun c69 => ?_)
                              · refine zz_aload_n (x := 1079) rfl zd_14_46_129 ?_
                                refine zz_getr (kd := 0) (z := 1094) zd_14_46_130 zf_Md_60 zT_1079 rfl (zz_ltn hn rfl) (zz_G.eq G_S62 1079 22 1094 rfl rfl) (by decide) 1094 rfl ?_
                                refine zz_iload_n (x := p0) rfl zd_14_46_133 ?_
                                have g70 := zz_G.r G_S0 1094 p0.toNat (-2147483648) 2147483647 rfl rfl
                                refine zz_iald (z := S0 1094 p0.toNat) zd_14_46_134 zT_1094 rfl (zz_ltn hn rfl) (by decide) (by omega) (zz_rc fS62 (zz_nc1 rfl) rfl (fun h => h) rfl) ?_
                                exact zz_iret zd_14_46_135 rfl (Nat.zero_le _) (Nat.zero_le _) ⟨_, _, rfl, G_S62, F_S62, by omega⟩
                              · refine zz_aload_n (x := 1079) rfl zd_14_46_120 ?_
                                refine zz_getr (kd := 0) (z := 1093) zd_14_46_121 zf_Md_57 zT_1079 rfl (zz_ltn hn rfl) (zz_G.eq G_S62 1079 21 1093 rfl rfl) (by decide) 1093 rfl ?_
                                refine zz_iload_n (x := p0) rfl zd_14_46_124 ?_
                                have g71 := zz_G.r G_S0 1093 p0.toNat (-2147483648) 2147483647 rfl rfl
                                refine zz_iald (z := S0 1093 p0.toNat) zd_14_46_125 zT_1093 rfl (zz_ltn hn rfl) (by decide) (by omega) (zz_rc fS62 (zz_nc1 rfl) rfl (fun h => h) rfl) ?_
                                refine zz_goto zd_14_46_126 ?_
                                exact zz_iret zd_14_46_135 rfl (Nat.zero_le _) (Nat.zero_le _) ⟨_, _, rfl, G_S62, F_S62, by omega⟩
                            · refine zz_aload_n (x := 1079) rfl zd_14_46_106 ?_
                              refine zz_getr (kd := 0) (z := 1092) zd_14_46_107 zf_Md_54 zT_1079 rfl (zz_ltn hn rfl) (zz_G.eq G_S62 1079 20 1092 rfl rfl) (by decide) 1092 rfl ?_
                              refine zz_iload_n (x := p0) rfl zd_14_46_110 ?_
                              have g72 := zz_G.r G_S0 1092 p0.toNat (-2147483648) 2147483647 rfl rfl
                              refine zz_iald (z := S0 1092 p0.toNat) zd_14_46_111 zT_1092 rfl (zz_ltn hn rfl) (by decide) (by omega) (zz_rc fS62 (zz_nc1 rfl) rfl (fun h => h) rfl) ?_
                              refine zz_goto zd_14_46_112 ?_
                              exact zz_iret zd_14_46_135 rfl (Nat.zero_le _) (Nat.zero_le _) ⟨_, _, rfl, G_S62, F_S62, by omega⟩
                          · exfalso; omega
                        · exfalso; omega
                      · exfalso; omega
                · exfalso; omega
            · exfalso; omega
/-- the sign in byte k, how many of the first k are there -/
def zz_sg (p : Int) (k : Nat) : Int := (Int32.ofInt (Int32.ofInt p >>> (Int32.ofInt (8 * (k : Int)) &&& 31)).toInt &&& Int32.ofInt 255).toInt
def zz_ct (p : Int) : Nat → Int
  | 0 => 0
  | k + 1 => zz_ct p k + if 0 < zz_sg p k then 1 else 0
theorem zz_cts {p x v w : Int} (hx : 0 ≤ x) (e1 : v = (Int32.ofInt p >>> (Int32.ofInt (8 * x) &&& 31)).toInt) (e2 : w = (Int32.ofInt v &&& Int32.ofInt 255).toInt) : (0 < w ∧ zz_ct p (x + 1).toNat = zz_ct p x.toNat + 1) ∨ (w ≤ 0 ∧ zz_ct p (x + 1).toNat = zz_ct p x.toNat) := by
  obtain ⟨k, rfl⟩ : ∃ k : Nat, x = (k : Int) := ⟨x.toNat, by omega⟩
  have h1 : ((k : Int) + 1).toNat = k + 1 := by omega
  have h2 : w = zz_sg p k := by rw [e2, e1]; rfl
  rw [h1, Int.toNat_natCast, h2]
  show (0 < zz_sg p k ∧ zz_ct p k + (if 0 < zz_sg p k then 1 else 0) = _) ∨ (zz_sg p k ≤ 0 ∧ zz_ct p k + (if 0 < zz_sg p k then 1 else 0) = _)
  by_cases h : 0 < zz_sg p k
  · exact Or.inl ⟨h, by rw [if_pos h]⟩
  · exact Or.inr ⟨by omega, by rw [if_neg h, Int.add_zero]⟩
theorem zz_ctm1 (p : Int) (k : Nat) : zz_ct p k ≤ zz_ct p (k + 1) := by
  show zz_ct p k ≤ zz_ct p k + (if 0 < zz_sg p k then 1 else 0)
  by_cases h : 0 < zz_sg p k
  · rw [if_pos h]; omega
  · rw [if_neg h]; omega
theorem zz_ctm {p x : Int} (h : 0 ≤ x ∧ x < 4) : zz_ct p (x + 1).toNat ≤ zz_ct p 4 := by
  have m0 : zz_ct p 1 ≤ zz_ct p 2 := zz_ctm1 p 1
  have m1 : zz_ct p 2 ≤ zz_ct p 3 := zz_ctm1 p 2
  have m2 : zz_ct p 3 ≤ zz_ct p 4 := zz_ctm1 p 3
  rcases (by omega : x = 0 ∨ x = 1 ∨ x = 2 ∨ x = 3) with rfl | rfl | rfl | rfl
  · show zz_ct p 1 ≤ zz_ct p 4; omega
  · show zz_ct p 2 ≤ zz_ct p 4; omega
  · show zz_ct p 3 ≤ zz_ct p 4; omega
  · show zz_ct p 4 ≤ zz_ct p 4; omega
/-- are the first k bytes signs (1) or not (0) -/
def zz_gk (p : Int) : Nat → Int
  | 0 => 1
  | k + 1 => if zz_gk p k = 1 ∧ (zz_sg p k = 0 ∨ zz_sg p k = 10 ∨ (32 ≤ zz_sg p k ∧ zz_sg p k ≤ 126)) then 1 else 0
theorem zz_gkS (p : Int) (k : Nat) : zz_gk p (k + 1) = if zz_gk p k = 1 ∧ (zz_sg p k = 0 ∨ zz_sg p k = 10 ∨ (32 ≤ zz_sg p k ∧ zz_sg p k ≤ 126)) then 1 else 0 := rfl
theorem zz_gk01 (p : Int) (k : Nat) : 0 ≤ zz_gk p k ∧ zz_gk p k ≤ 1 := by
  cases k with
  | zero =>
    show (0 : Int) ≤ 1 ∧ (1 : Int) ≤ 1
    decide
  | succ k =>
    rw [zz_gkS]
    split
    · exact ⟨by decide, by decide⟩
    · exact ⟨by decide, by decide⟩
theorem zz_gkd (p : Int) (k : Nat) (h : zz_gk p k = 0) : zz_gk p (k + 1) = 0 := by
  rw [zz_gkS, if_neg (fun h1 => absurd (h.symm.trans h1.1) (by decide))]
theorem zz_gk4 {p x : Int} (hx : 0 ≤ x ∧ x < 4) (h : zz_gk p (x + 1).toNat = 0) : zz_gk p 4 = 0 := by
  rcases (by omega : x = 0 ∨ x = 1 ∨ x = 2 ∨ x = 3) with rfl | rfl | rfl | rfl
  · have h1 : zz_gk p 1 = 0 := h
    exact zz_gkd p 3 (zz_gkd p 2 (zz_gkd p 1 h1))
  · have h1 : zz_gk p 2 = 0 := h
    exact zz_gkd p 3 (zz_gkd p 2 h1)
  · have h1 : zz_gk p 3 = 0 := h
    exact zz_gkd p 3 h1
  · exact h
theorem zz_gks {p x w : Int} (hx : 0 ≤ x) (hw : w = zz_sg p x.toNat) : (zz_gk p x.toNat = 1 → (w = 0 ∨ w = 10 ∨ (32 ≤ w ∧ w ≤ 126)) → zz_gk p (x + 1).toNat = 1) ∧ (¬ (w = 0 ∨ w = 10 ∨ (32 ≤ w ∧ w ≤ 126)) → zz_gk p (x + 1).toNat = 0) ∧ (zz_gk p x.toNat = 0 → zz_gk p (x + 1).toNat = 0) := by
  have h1 : (x + 1).toNat = x.toNat + 1 := by omega
  rw [h1]
  refine ⟨fun h h2 => ?_, fun h => ?_, fun h => zz_gkd p _ h⟩
  · rw [zz_gkS, if_pos ⟨h, by rw [← hw]; exact h2⟩]
  · rw [zz_gkS, if_neg (fun h3 => h (by rw [hw]; exact h3.2))]
theorem zz_sge {p x v w : Int} (hx : 0 ≤ x) (e1 : v = (Int32.ofInt p >>> (Int32.ofInt (8 * x) &&& 31)).toInt) (e2 : w = (Int32.ofInt v &&& Int32.ofInt 255).toInt) : w = zz_sg p x.toNat := by
  obtain ⟨k, rfl⟩ : ∃ k : Nat, x = (k : Int) := ⟨x.toNat, by omega⟩
  rw [e2, e1, Int.toNat_natCast]
  rfl
theorem zz_gk14 {p x : Int} (h : x = 4) : zz_gk p x.toNat = zz_gk p 4 ∧ zz_ct p x.toNat = zz_ct p 4 := by
  subst h
  exact ⟨rfl, rfl⟩
/-- the signs behind k bytes of p, from place n on -/
def zt_tx (f : Nat → Int) (n p : Int) : Nat → Nat → Int
  | 0 => f
  | k + 1 => fun u => if 0 < zz_sg p k ∧ u = (n + zz_ct p k).toNat then zz_sg p k else zt_tx f n p k u
theorem zt_tx1 {f : Nat → Int} {n p x w i : Int} (hx : 0 ≤ x) (hw : w = zz_sg p x.toNat) (h0 : 0 < w) (hi : i = n + zz_ct p x.toNat) : w = zt_tx f n p (x + 1).toNat i.toNat := by
  rw [show (x + 1).toNat = x.toNat + 1 by omega]
  show w = if 0 < zz_sg p x.toNat ∧ i.toNat = (n + zz_ct p x.toNat).toNat then zz_sg p x.toNat else zt_tx f n p x.toNat i.toNat
  rw [if_pos ⟨by rw [← hw]; exact h0, by rw [hi]⟩]
  exact hw
theorem zt_tx2 {f : Nat → Int} {n p x w i : Int} {u : Nat} (hx : 0 ≤ x) (hw : w = zz_sg p x.toNat) (hi : i = n + zz_ct p x.toNat) (h : w ≤ 0 ∨ u ≠ i.toNat) : zt_tx f n p x.toNat u = zt_tx f n p (x + 1).toNat u := by
  rw [show (x + 1).toNat = x.toNat + 1 by omega]
  show _ = if 0 < zz_sg p x.toNat ∧ u = (n + zz_ct p x.toNat).toNat then zz_sg p x.toNat else zt_tx f n p x.toNat u
  rw [if_neg]
  intro h1
  rw [← hw, ← hi] at h1
  rcases h with h2 | h2
  · omega
  · exact h2 h1.2
theorem zt_txe {f g : Nat → Int} {n p : Int} (hn : 0 ≤ n) (h : ∀ i : Int, 0 ≤ i → i < n → f i.toNat = g i.toNat) (k : Nat) : ∀ i : Int, 0 ≤ i → i < n + zz_ct p k → zt_tx f n p k i.toNat = zt_tx g n p k i.toNat := by
  induction k with
  | zero =>
    intro i h1 h2
    have h3 : zz_ct p 0 = 0 := rfl
    exact h i h1 (by omega)
  | succ k ih =>
    intro i h1 h2
    show (if 0 < zz_sg p k ∧ i.toNat = (n + zz_ct p k).toNat then zz_sg p k else zt_tx f n p k i.toNat) = (if 0 < zz_sg p k ∧ i.toNat = (n + zz_ct p k).toNat then zz_sg p k else zt_tx g n p k i.toNat)
    have h3 : zz_ct p (k + 1) = zz_ct p k + if 0 < zz_sg p k then 1 else 0 := rfl
    rw [h3] at h2
    split
    · rfl
    · rename_i h4
      refine ih i h1 ?_
      by_cases h5 : 0 < zz_sg p k
      · rw [if_pos h5] at h2
        have h6 : ¬ i.toNat = (n + zz_ct p k).toNat := fun h7 => h4 ⟨h5, h7⟩
        omega
      · rw [if_neg h5] at h2
        omega
/-- what put leaves in the text: f ahead, g behind -/
def zt_pt (f g : Nat → Int) (n p r : Int) : Prop := (r = 0 → ∀ u : Nat, g u = zt_tx f n p 4 u) ∧ (r ≠ 0 → ∀ u : Nat, g u = f u)
theorem zt_ptU {f g f1 g1 : Nat → Int} {n m p r t n1 : Int} (hn : 0 ≤ n) (hU : ∀ i : Int, 0 ≤ i → i < n → f i.toNat = g i.toNat) (h1 : zt_pt f f1 n p r) (h2 : zt_pt g g1 m p t) (hm : m = n) (hr : r = 0 ↔ t = 0) (hc : (r = 0 ∧ n1 = n + zz_ct p 4) ∨ (r ≠ 0 ∧ n1 = n)) : ∀ i : Int, 0 ≤ i → i < n1 → f1 i.toNat = g1 i.toNat := by
  intro i h3 h4
  subst hm
  rcases hc with ⟨h5, h6⟩ | ⟨h5, h6⟩
  · rw [h1.1 h5, h2.1 (hr.mp h5)]
    exact zt_txe hn hU 4 i h3 (by omega)
  · rw [h1.2 h5, h2.2 (fun h7 => h5 (hr.mpr h7))]
    exact hU i h3 (by omega)
abbrev zy_put_14_47 : mm_Y := (⟨"TensorForgeModel", "put", "(I)I"⟩, prog_14_method_47_code, 6, (some .int))
theorem zyw_put_14_47 : mm_Yw zy_put_14_47 1 := ⟨mm_tb_1 2000 (by decide +kernel) rfl, mm_tb_1 12 (by decide +kernel) rfl, ⟨by decide, by decide⟩, by decide +kernel⟩
theorem zf_Md_331 : mm_Fl "TensorForgeModel" 331 11 28 .int false := ⟨R_Md, F_Md, 69, t_Md, rfl, i_Md, by decide, mm_tb_1 1639 (by decide +kernel) rfl, rfl, t_Md_ok, n_Md, rfl, by decide +kernel⟩
theorem zq_Md_327 : Cond.constantLong "TensorForgeModel" 327 (32 : Int64) ∈ mm_tb := mm_tb_1 2001 (by decide +kernel) rfl
theorem zq_Md_329 : Cond.constantLong "TensorForgeModel" 329 (126 : Int64) ∈ mm_tb := mm_tb_1 2002 (by decide +kernel) rfl
theorem zf_Md_76 : mm_Fl "TensorForgeModel" 76 11 27 (.array .int) true := ⟨R_Md, F_Md, 69, t_Md, rfl, i_Md, by decide, mm_tb_1 1638 (by decide +kernel) rfl, rfl, t_Md_ok, n_Md, rfl, by decide +kernel⟩
theorem zg_14_47_0 : zq_at zy_put_14_47.2.1 0 3 ∧ zq_at zy_put_14_47.2.1 1 61 ∧ zq_at zy_put_14_47.2.1 2 4 ∧ zq_at zy_put_14_47.2.1 3 62 ∧ zq_at zy_put_14_47.2.1 4 3 ∧ zq_at zy_put_14_47.2.1 5 54 ∧ zq_at zy_put_14_47.2.1 6 4 ∧ zq_at zy_put_14_47.2.1 7 21 ∧ zq_at zy_put_14_47.2.1 8 4 ∧ zq_at zy_put_14_47.2.1 9 7 ∧ zq_at zy_put_14_47.2.1 10 162 ∧ zq_at zy_put_14_47.2.1 11 0 ∧ zq_at zy_put_14_47.2.1 12 72 ∧ zq_at zy_put_14_47.2.1 82 42 ∧ zq_at zy_put_14_47.2.1 83 29 ∧ zq_at zy_put_14_47.2.1 84 154 ∧ zq_at zy_put_14_47.2.1 85 0 ∧ zq_at zy_put_14_47.2.1 86 7 ∧ zq_at zy_put_14_47.2.1 91 3 ∧ zq_at zy_put_14_47.2.1 92 42 ∧ zq_at zy_put_14_47.2.1 93 180 ∧ zq_at zy_put_14_47.2.1 94 1 ∧ zq_at zy_put_14_47.2.1 95 75 ∧ zq_at zy_put_14_47.2.1 96 28 := by decide +kernel
theorem zd_14_47_0 : zz_D zy_put_14_47 0 (.iconst 0) 1 1 := ⟨zq_3 zg_14_47_0.1, rfl⟩
theorem zd_14_47_1 : zz_D zy_put_14_47 1 (.istore_n 2) 1 2 := ⟨zq_61 zg_14_47_0.2.1, rfl⟩
theorem zd_14_47_2 : zz_D zy_put_14_47 2 (.iconst 1) 1 3 := ⟨zq_4 zg_14_47_0.2.2.1, rfl⟩
theorem zd_14_47_3 : zz_D zy_put_14_47 3 (.istore_n 3) 1 4 := ⟨zq_62 zg_14_47_0.2.2.2.1, rfl⟩
theorem zd_14_47_4 : zz_D zy_put_14_47 4 (.iconst 0) 1 5 := ⟨zq_3 zg_14_47_0.2.2.2.2.1, rfl⟩
theorem zd_14_47_5 : zz_D zy_put_14_47 5 (.istore 4) 2 7 := ⟨zq_54 zg_14_47_0.2.2.2.2.2.1 zg_14_47_0.2.2.2.2.2.2.1, rfl⟩
theorem zd_14_47_7 : zz_D zy_put_14_47 7 (.iload 4) 2 9 := ⟨zq_21 zg_14_47_0.2.2.2.2.2.2.2.1 zg_14_47_0.2.2.2.2.2.2.2.2.1, rfl⟩
theorem zd_14_47_9 : zz_D zy_put_14_47 9 (.iconst 4) 1 10 := ⟨zq_7 zg_14_47_0.2.2.2.2.2.2.2.2.2.1, rfl⟩
theorem zd_14_47_10 : zz_B zy_put_14_47 10 (Instr.if_icmp .ge) 82 13 := ⟨72, zq_162 zg_14_47_0.2.2.2.2.2.2.2.2.2.2.1 zg_14_47_0.2.2.2.2.2.2.2.2.2.2.2.1 zg_14_47_0.2.2.2.2.2.2.2.2.2.2.2.2.1 (by decide), rfl, rfl⟩
theorem zd_14_47_82 : zz_D zy_put_14_47 82 (.aload_n 0) 1 83 := ⟨zq_42 zg_14_47_0.2.2.2.2.2.2.2.2.2.2.2.2.2.1, rfl⟩
theorem zd_14_47_83 : zz_D zy_put_14_47 83 (.iload_n 3) 1 84 := ⟨zq_29 zg_14_47_0.2.2.2.2.2.2.2.2.2.2.2.2.2.2.1, rfl⟩
theorem zd_14_47_84 : zz_B zy_put_14_47 84 (Instr.ifCond .ne) 91 87 := ⟨7, zq_154 zg_14_47_0.2.2.2.2.2.2.2.2.2.2.2.2.2.2.2.1 zg_14_47_0.2.2.2.2.2.2.2.2.2.2.2.2.2.2.2.2.1 zg_14_47_0.2.2.2.2.2.2.2.2.2.2.2.2.2.2.2.2.2.1 (by decide), rfl, rfl⟩
theorem zd_14_47_91 : zz_D zy_put_14_47 91 (.iconst 0) 1 92 := ⟨zq_3 zg_14_47_0.2.2.2.2.2.2.2.2.2.2.2.2.2.2.2.2.2.2.1, rfl⟩
theorem zd_14_47_92 : zz_D zy_put_14_47 92 (.aload_n 0) 1 93 := ⟨zq_42 zg_14_47_0.2.2.2.2.2.2.2.2.2.2.2.2.2.2.2.2.2.2.2.1, rfl⟩
theorem zd_14_47_93 : zz_D zy_put_14_47 93 (.getfield 331) 3 96 := ⟨zq_180 zg_14_47_0.2.2.2.2.2.2.2.2.2.2.2.2.2.2.2.2.2.2.2.2.1 zg_14_47_0.2.2.2.2.2.2.2.2.2.2.2.2.2.2.2.2.2.2.2.2.2.1 zg_14_47_0.2.2.2.2.2.2.2.2.2.2.2.2.2.2.2.2.2.2.2.2.2.2.1 rfl, rfl⟩
theorem zd_14_47_96 : zz_D zy_put_14_47 96 (.iload_n 2) 1 97 := ⟨zq_28 zg_14_47_0.2.2.2.2.2.2.2.2.2.2.2.2.2.2.2.2.2.2.2.2.2.2.2, rfl⟩
theorem zg_14_47_97 : zq_at zy_put_14_47.2.1 97 96 ∧ zq_at zy_put_14_47.2.1 98 17 ∧ zq_at zy_put_14_47.2.1 99 5 ∧ zq_at zy_put_14_47.2.1 100 220 ∧ zq_at zy_put_14_47.2.1 101 164 ∧ zq_at zy_put_14_47.2.1 102 0 ∧ zq_at zy_put_14_47.2.1 103 7 ∧ zq_at zy_put_14_47.2.1 108 3 ∧ zq_at zy_put_14_47.2.1 109 3 ∧ zq_at zy_put_14_47.2.1 110 182 ∧ zq_at zy_put_14_47.2.1 111 0 ∧ zq_at zy_put_14_47.2.1 112 196 ∧ zq_at zy_put_14_47.2.1 113 153 ∧ zq_at zy_put_14_47.2.1 114 0 ∧ zq_at zy_put_14_47.2.1 115 5 ∧ zq_at zy_put_14_47.2.1 118 3 ∧ zq_at zy_put_14_47.2.1 119 54 ∧ zq_at zy_put_14_47.2.1 120 4 ∧ zq_at zy_put_14_47.2.1 104 4 ∧ zq_at zy_put_14_47.2.1 105 167 ∧ zq_at zy_put_14_47.2.1 106 0 ∧ zq_at zy_put_14_47.2.1 107 4 ∧ zq_at zy_put_14_47.2.1 116 3 ∧ zq_at zy_put_14_47.2.1 117 172 := by decide +kernel
theorem zd_14_47_97 : zz_D zy_put_14_47 97 (.iadd) 1 98 := ⟨zq_96 zg_14_47_97.1, rfl⟩
theorem zd_14_47_98 : zz_D zy_put_14_47 98 (.sipush 1500) 3 101 := ⟨zq_17 zg_14_47_97.2.1 zg_14_47_97.2.2.1 zg_14_47_97.2.2.2.1 (by decide), rfl⟩
theorem zd_14_47_101 : zz_B zy_put_14_47 101 (Instr.if_icmp .le) 108 104 := ⟨7, zq_164 zg_14_47_97.2.2.2.2.1 zg_14_47_97.2.2.2.2.2.1 zg_14_47_97.2.2.2.2.2.2.1 (by decide), rfl, rfl⟩
theorem zd_14_47_108 : zz_D zy_put_14_47 108 (.iconst 0) 1 109 := ⟨zq_3 zg_14_47_97.2.2.2.2.2.2.2.1, rfl⟩
theorem zd_14_47_109 : zz_D zy_put_14_47 109 (.iconst 0) 1 110 := ⟨zq_3 zg_14_47_97.2.2.2.2.2.2.2.2.1, rfl⟩
theorem zd_14_47_110 : zz_D zy_put_14_47 110 (.invokevirtual 196) 3 113 := ⟨zq_182 zg_14_47_97.2.2.2.2.2.2.2.2.2.1 zg_14_47_97.2.2.2.2.2.2.2.2.2.2.1 zg_14_47_97.2.2.2.2.2.2.2.2.2.2.2.1 rfl, rfl⟩
theorem zd_14_47_113 : zz_B zy_put_14_47 113 (Instr.ifCond .eq) 118 116 := ⟨5, zq_153 zg_14_47_97.2.2.2.2.2.2.2.2.2.2.2.2.1 zg_14_47_97.2.2.2.2.2.2.2.2.2.2.2.2.2.1 zg_14_47_97.2.2.2.2.2.2.2.2.2.2.2.2.2.2.1 (by decide), rfl, rfl⟩
theorem zd_14_47_118 : zz_D zy_put_14_47 118 (.iconst 0) 1 119 := ⟨zq_3 zg_14_47_97.2.2.2.2.2.2.2.2.2.2.2.2.2.2.2.1, rfl⟩
theorem zd_14_47_119 : zz_D zy_put_14_47 119 (.istore 4) 2 121 := ⟨zq_54 zg_14_47_97.2.2.2.2.2.2.2.2.2.2.2.2.2.2.2.2.1 zg_14_47_97.2.2.2.2.2.2.2.2.2.2.2.2.2.2.2.2.2.1, rfl⟩
theorem zd_14_47_104 : zz_D zy_put_14_47 104 (.iconst 1) 1 105 := ⟨zq_4 zg_14_47_97.2.2.2.2.2.2.2.2.2.2.2.2.2.2.2.2.2.2.1, rfl⟩
theorem zd_14_47_105 : zz_B zy_put_14_47 105 Instr.goto 109 108 := ⟨4, zq_167 zg_14_47_97.2.2.2.2.2.2.2.2.2.2.2.2.2.2.2.2.2.2.2.1 zg_14_47_97.2.2.2.2.2.2.2.2.2.2.2.2.2.2.2.2.2.2.2.2.1 zg_14_47_97.2.2.2.2.2.2.2.2.2.2.2.2.2.2.2.2.2.2.2.2.2.1 (by decide), rfl, rfl⟩
theorem zd_14_47_116 : zz_D zy_put_14_47 116 (.iconst 0) 1 117 := ⟨zq_3 zg_14_47_97.2.2.2.2.2.2.2.2.2.2.2.2.2.2.2.2.2.2.2.2.2.2.1, rfl⟩
theorem zd_14_47_117 : zz_D zy_put_14_47 117 (.ireturn) 1 118 := ⟨zq_172 zg_14_47_97.2.2.2.2.2.2.2.2.2.2.2.2.2.2.2.2.2.2.2.2.2.2.2, rfl⟩
theorem zg_14_47_87 : zq_at zy_put_14_47.2.1 87 4 ∧ zq_at zy_put_14_47.2.1 88 167 ∧ zq_at zy_put_14_47.2.1 89 0 ∧ zq_at zy_put_14_47.2.1 90 4 ∧ zq_at zy_put_14_47.2.1 13 27 ∧ zq_at zy_put_14_47.2.1 14 16 ∧ zq_at zy_put_14_47.2.1 15 8 ∧ zq_at zy_put_14_47.2.1 16 21 ∧ zq_at zy_put_14_47.2.1 17 4 ∧ zq_at zy_put_14_47.2.1 18 104 ∧ zq_at zy_put_14_47.2.1 19 122 ∧ zq_at zy_put_14_47.2.1 20 17 ∧ zq_at zy_put_14_47.2.1 21 0 ∧ zq_at zy_put_14_47.2.1 22 255 ∧ zq_at zy_put_14_47.2.1 23 126 ∧ zq_at zy_put_14_47.2.1 24 54 ∧ zq_at zy_put_14_47.2.1 25 5 ∧ zq_at zy_put_14_47.2.1 26 29 ∧ zq_at zy_put_14_47.2.1 27 153 ∧ zq_at zy_put_14_47.2.1 28 0 ∧ zq_at zy_put_14_47.2.1 29 34 ∧ zq_at zy_put_14_47.2.1 61 3 ∧ zq_at zy_put_14_47.2.1 62 62 := by decide +kernel
theorem zd_14_47_87 : zz_D zy_put_14_47 87 (.iconst 1) 1 88 := ⟨zq_4 zg_14_47_87.1, rfl⟩
theorem zd_14_47_88 : zz_B zy_put_14_47 88 Instr.goto 92 91 := ⟨4, zq_167 zg_14_47_87.2.1 zg_14_47_87.2.2.1 zg_14_47_87.2.2.2.1 (by decide), rfl, rfl⟩
theorem zd_14_47_13 : zz_D zy_put_14_47 13 (.iload_n 1) 1 14 := ⟨zq_27 zg_14_47_87.2.2.2.2.1, rfl⟩
theorem zd_14_47_14 : zz_D zy_put_14_47 14 (.bipush 8) 2 16 := ⟨zq_16 zg_14_47_87.2.2.2.2.2.1 zg_14_47_87.2.2.2.2.2.2.1 (by decide), rfl⟩
theorem zd_14_47_16 : zz_D zy_put_14_47 16 (.iload 4) 2 18 := ⟨zq_21 zg_14_47_87.2.2.2.2.2.2.2.1 zg_14_47_87.2.2.2.2.2.2.2.2.1, rfl⟩
theorem zd_14_47_18 : zz_D zy_put_14_47 18 (.imul) 1 19 := ⟨zq_104 zg_14_47_87.2.2.2.2.2.2.2.2.2.1, rfl⟩
theorem zd_14_47_19 : zz_D zy_put_14_47 19 (.ishr) 1 20 := ⟨zq_122 zg_14_47_87.2.2.2.2.2.2.2.2.2.2.1, rfl⟩
theorem zd_14_47_20 : zz_D zy_put_14_47 20 (.sipush 255) 3 23 := ⟨zq_17 zg_14_47_87.2.2.2.2.2.2.2.2.2.2.2.1 zg_14_47_87.2.2.2.2.2.2.2.2.2.2.2.2.1 zg_14_47_87.2.2.2.2.2.2.2.2.2.2.2.2.2.1 (by decide), rfl⟩
theorem zd_14_47_23 : zz_D zy_put_14_47 23 (.iand) 1 24 := ⟨zq_126 zg_14_47_87.2.2.2.2.2.2.2.2.2.2.2.2.2.2.1, rfl⟩
theorem zd_14_47_24 : zz_D zy_put_14_47 24 (.istore 5) 2 26 := ⟨zq_54 zg_14_47_87.2.2.2.2.2.2.2.2.2.2.2.2.2.2.2.1 zg_14_47_87.2.2.2.2.2.2.2.2.2.2.2.2.2.2.2.2.1, rfl⟩
theorem zd_14_47_26 : zz_D zy_put_14_47 26 (.iload_n 3) 1 27 := ⟨zq_29 zg_14_47_87.2.2.2.2.2.2.2.2.2.2.2.2.2.2.2.2.2.1, rfl⟩
theorem zd_14_47_27 : zz_B zy_put_14_47 27 (Instr.ifCond .eq) 61 30 := ⟨34, zq_153 zg_14_47_87.2.2.2.2.2.2.2.2.2.2.2.2.2.2.2.2.2.2.1 zg_14_47_87.2.2.2.2.2.2.2.2.2.2.2.2.2.2.2.2.2.2.2.1 zg_14_47_87.2.2.2.2.2.2.2.2.2.2.2.2.2.2.2.2.2.2.2.2.1 (by decide), rfl, rfl⟩
theorem zd_14_47_61 : zz_D zy_put_14_47 61 (.iconst 0) 1 62 := ⟨zq_3 zg_14_47_87.2.2.2.2.2.2.2.2.2.2.2.2.2.2.2.2.2.2.2.2.2.1, rfl⟩
theorem zd_14_47_62 : zz_D zy_put_14_47 62 (.istore_n 3) 1 63 := ⟨zq_62 zg_14_47_87.2.2.2.2.2.2.2.2.2.2.2.2.2.2.2.2.2.2.2.2.2.2, rfl⟩
theorem zg_14_47_63 : zq_at zy_put_14_47.2.1 63 21 ∧ zq_at zy_put_14_47.2.1 64 5 ∧ zq_at zy_put_14_47.2.1 65 158 ∧ zq_at zy_put_14_47.2.1 66 0 ∧ zq_at zy_put_14_47.2.1 67 9 ∧ zq_at zy_put_14_47.2.1 74 28 ∧ zq_at zy_put_14_47.2.1 75 61 ∧ zq_at zy_put_14_47.2.1 76 132 ∧ zq_at zy_put_14_47.2.1 77 4 ∧ zq_at zy_put_14_47.2.1 78 1 ∧ zq_at zy_put_14_47.2.1 79 167 ∧ zq_at zy_put_14_47.2.1 80 255 ∧ zq_at zy_put_14_47.2.1 81 184 ∧ zq_at zy_put_14_47.2.1 68 28 ∧ zq_at zy_put_14_47.2.1 69 4 ∧ zq_at zy_put_14_47.2.1 70 96 ∧ zq_at zy_put_14_47.2.1 71 167 ∧ zq_at zy_put_14_47.2.1 72 0 ∧ zq_at zy_put_14_47.2.1 73 4 ∧ zq_at zy_put_14_47.2.1 30 21 ∧ zq_at zy_put_14_47.2.1 31 5 ∧ zq_at zy_put_14_47.2.1 32 153 ∧ zq_at zy_put_14_47.2.1 33 0 ∧ zq_at zy_put_14_47.2.1 34 25 := by decide +kernel
theorem zd_14_47_63 : zz_D zy_put_14_47 63 (.iload 5) 2 65 := ⟨zq_21 zg_14_47_63.1 zg_14_47_63.2.1, rfl⟩
theorem zd_14_47_65 : zz_B zy_put_14_47 65 (Instr.ifCond .le) 74 68 := ⟨9, zq_158 zg_14_47_63.2.2.1 zg_14_47_63.2.2.2.1 zg_14_47_63.2.2.2.2.1 (by decide), rfl, rfl⟩
theorem zd_14_47_74 : zz_D zy_put_14_47 74 (.iload_n 2) 1 75 := ⟨zq_28 zg_14_47_63.2.2.2.2.2.1, rfl⟩
theorem zd_14_47_75 : zz_D zy_put_14_47 75 (.istore_n 2) 1 76 := ⟨zq_61 zg_14_47_63.2.2.2.2.2.2.1, rfl⟩
theorem zd_14_47_76 : zz_D zy_put_14_47 76 (.iinc 4 1) 3 79 := ⟨zq_132 zg_14_47_63.2.2.2.2.2.2.2.1 zg_14_47_63.2.2.2.2.2.2.2.2.1 zg_14_47_63.2.2.2.2.2.2.2.2.2.1 (by decide), rfl⟩
theorem zd_14_47_79 : zz_B zy_put_14_47 79 Instr.goto 7 82 := ⟨(-72), zq_167 zg_14_47_63.2.2.2.2.2.2.2.2.2.2.1 zg_14_47_63.2.2.2.2.2.2.2.2.2.2.2.1 zg_14_47_63.2.2.2.2.2.2.2.2.2.2.2.2.1 (by decide), rfl, rfl⟩
theorem zd_14_47_68 : zz_D zy_put_14_47 68 (.iload_n 2) 1 69 := ⟨zq_28 zg_14_47_63.2.2.2.2.2.2.2.2.2.2.2.2.2.1, rfl⟩
theorem zd_14_47_69 : zz_D zy_put_14_47 69 (.iconst 1) 1 70 := ⟨zq_4 zg_14_47_63.2.2.2.2.2.2.2.2.2.2.2.2.2.2.1, rfl⟩
theorem zd_14_47_70 : zz_D zy_put_14_47 70 (.iadd) 1 71 := ⟨zq_96 zg_14_47_63.2.2.2.2.2.2.2.2.2.2.2.2.2.2.2.1, rfl⟩
theorem zd_14_47_71 : zz_B zy_put_14_47 71 Instr.goto 75 74 := ⟨4, zq_167 zg_14_47_63.2.2.2.2.2.2.2.2.2.2.2.2.2.2.2.2.1 zg_14_47_63.2.2.2.2.2.2.2.2.2.2.2.2.2.2.2.2.2.1 zg_14_47_63.2.2.2.2.2.2.2.2.2.2.2.2.2.2.2.2.2.2.1 (by decide), rfl, rfl⟩
theorem zd_14_47_30 : zz_D zy_put_14_47 30 (.iload 5) 2 32 := ⟨zq_21 zg_14_47_63.2.2.2.2.2.2.2.2.2.2.2.2.2.2.2.2.2.2.2.1 zg_14_47_63.2.2.2.2.2.2.2.2.2.2.2.2.2.2.2.2.2.2.2.2.1, rfl⟩
theorem zd_14_47_32 : zz_B zy_put_14_47 32 (Instr.ifCond .eq) 57 35 := ⟨25, zq_153 zg_14_47_63.2.2.2.2.2.2.2.2.2.2.2.2.2.2.2.2.2.2.2.2.2.1 zg_14_47_63.2.2.2.2.2.2.2.2.2.2.2.2.2.2.2.2.2.2.2.2.2.2.1 zg_14_47_63.2.2.2.2.2.2.2.2.2.2.2.2.2.2.2.2.2.2.2.2.2.2.2 (by decide), rfl, rfl⟩
theorem zg_14_47_57 : zq_at zy_put_14_47.2.1 57 4 ∧ zq_at zy_put_14_47.2.1 58 167 ∧ zq_at zy_put_14_47.2.1 59 0 ∧ zq_at zy_put_14_47.2.1 60 4 ∧ zq_at zy_put_14_47.2.1 35 21 ∧ zq_at zy_put_14_47.2.1 36 5 ∧ zq_at zy_put_14_47.2.1 37 16 ∧ zq_at zy_put_14_47.2.1 38 10 ∧ zq_at zy_put_14_47.2.1 39 159 ∧ zq_at zy_put_14_47.2.1 40 0 ∧ zq_at zy_put_14_47.2.1 41 18 ∧ zq_at zy_put_14_47.2.1 42 21 ∧ zq_at zy_put_14_47.2.1 43 5 ∧ zq_at zy_put_14_47.2.1 44 133 ∧ zq_at zy_put_14_47.2.1 45 20 ∧ zq_at zy_put_14_47.2.1 46 1 ∧ zq_at zy_put_14_47.2.1 47 71 ∧ zq_at zy_put_14_47.2.1 48 20 ∧ zq_at zy_put_14_47.2.1 49 1 ∧ zq_at zy_put_14_47.2.1 50 73 ∧ zq_at zy_put_14_47.2.1 51 184 ∧ zq_at zy_put_14_47.2.1 52 0 ∧ zq_at zy_put_14_47.2.1 53 192 := by decide +kernel
theorem zd_14_47_57 : zz_D zy_put_14_47 57 (.iconst 1) 1 58 := ⟨zq_4 zg_14_47_57.1, rfl⟩
theorem zd_14_47_58 : zz_B zy_put_14_47 58 Instr.goto 62 61 := ⟨4, zq_167 zg_14_47_57.2.1 zg_14_47_57.2.2.1 zg_14_47_57.2.2.2.1 (by decide), rfl, rfl⟩
theorem zd_14_47_35 : zz_D zy_put_14_47 35 (.iload 5) 2 37 := ⟨zq_21 zg_14_47_57.2.2.2.2.1 zg_14_47_57.2.2.2.2.2.1, rfl⟩
theorem zd_14_47_37 : zz_D zy_put_14_47 37 (.bipush 10) 2 39 := ⟨zq_16 zg_14_47_57.2.2.2.2.2.2.1 zg_14_47_57.2.2.2.2.2.2.2.1 (by decide), rfl⟩
theorem zd_14_47_39 : zz_B zy_put_14_47 39 (Instr.if_icmp .eq) 57 42 := ⟨18, zq_159 zg_14_47_57.2.2.2.2.2.2.2.2.1 zg_14_47_57.2.2.2.2.2.2.2.2.2.1 zg_14_47_57.2.2.2.2.2.2.2.2.2.2.1 (by decide), rfl, rfl⟩
theorem zd_14_47_42 : zz_D zy_put_14_47 42 (.iload 5) 2 44 := ⟨zq_21 zg_14_47_57.2.2.2.2.2.2.2.2.2.2.2.1 zg_14_47_57.2.2.2.2.2.2.2.2.2.2.2.2.1, rfl⟩
theorem zd_14_47_44 : zz_D zy_put_14_47 44 (.i2l) 1 45 := ⟨zq_133 zg_14_47_57.2.2.2.2.2.2.2.2.2.2.2.2.2.1, rfl⟩
theorem zd_14_47_45 : zz_D zy_put_14_47 45 (.ldc2_w 327) 3 48 := ⟨zq_20 zg_14_47_57.2.2.2.2.2.2.2.2.2.2.2.2.2.2.1 zg_14_47_57.2.2.2.2.2.2.2.2.2.2.2.2.2.2.2.1 zg_14_47_57.2.2.2.2.2.2.2.2.2.2.2.2.2.2.2.2.1 rfl, rfl⟩
theorem zd_14_47_48 : zz_D zy_put_14_47 48 (.ldc2_w 329) 3 51 := ⟨zq_20 zg_14_47_57.2.2.2.2.2.2.2.2.2.2.2.2.2.2.2.2.2.1 zg_14_47_57.2.2.2.2.2.2.2.2.2.2.2.2.2.2.2.2.2.2.1 zg_14_47_57.2.2.2.2.2.2.2.2.2.2.2.2.2.2.2.2.2.2.2.1 rfl, rfl⟩
theorem zd_14_47_51 : zz_D zy_put_14_47 51 (.invokestatic 192) 3 54 := ⟨zq_184 zg_14_47_57.2.2.2.2.2.2.2.2.2.2.2.2.2.2.2.2.2.2.2.2.1 zg_14_47_57.2.2.2.2.2.2.2.2.2.2.2.2.2.2.2.2.2.2.2.2.2.1 zg_14_47_57.2.2.2.2.2.2.2.2.2.2.2.2.2.2.2.2.2.2.2.2.2.2 rfl, rfl⟩
theorem zg_14_47_54 : zq_at zy_put_14_47.2.1 54 153 ∧ zq_at zy_put_14_47.2.1 55 0 ∧ zq_at zy_put_14_47.2.1 56 7 ∧ zq_at zy_put_14_47.2.1 121 21 ∧ zq_at zy_put_14_47.2.1 122 4 ∧ zq_at zy_put_14_47.2.1 123 7 ∧ zq_at zy_put_14_47.2.1 124 162 ∧ zq_at zy_put_14_47.2.1 125 0 ∧ zq_at zy_put_14_47.2.1 126 48 ∧ zq_at zy_put_14_47.2.1 172 42 ∧ zq_at zy_put_14_47.2.1 173 180 ∧ zq_at zy_put_14_47.2.1 174 1 ∧ zq_at zy_put_14_47.2.1 175 75 ∧ zq_at zy_put_14_47.2.1 176 172 ∧ zq_at zy_put_14_47.2.1 127 27 ∧ zq_at zy_put_14_47.2.1 128 16 ∧ zq_at zy_put_14_47.2.1 129 8 ∧ zq_at zy_put_14_47.2.1 130 21 ∧ zq_at zy_put_14_47.2.1 131 4 ∧ zq_at zy_put_14_47.2.1 132 104 ∧ zq_at zy_put_14_47.2.1 133 122 ∧ zq_at zy_put_14_47.2.1 134 17 ∧ zq_at zy_put_14_47.2.1 135 0 ∧ zq_at zy_put_14_47.2.1 136 255 := by decide +kernel
theorem zd_14_47_54 : zz_B zy_put_14_47 54 (Instr.ifCond .eq) 61 57 := ⟨7, zq_153 zg_14_47_54.1 zg_14_47_54.2.1 zg_14_47_54.2.2.1 (by decide), rfl, rfl⟩
theorem zd_14_47_121 : zz_D zy_put_14_47 121 (.iload 4) 2 123 := ⟨zq_21 zg_14_47_54.2.2.2.1 zg_14_47_54.2.2.2.2.1, rfl⟩
theorem zd_14_47_123 : zz_D zy_put_14_47 123 (.iconst 4) 1 124 := ⟨zq_7 zg_14_47_54.2.2.2.2.2.1, rfl⟩
theorem zd_14_47_124 : zz_B zy_put_14_47 124 (Instr.if_icmp .ge) 172 127 := ⟨48, zq_162 zg_14_47_54.2.2.2.2.2.2.1 zg_14_47_54.2.2.2.2.2.2.2.1 zg_14_47_54.2.2.2.2.2.2.2.2.1 (by decide), rfl, rfl⟩
theorem zd_14_47_172 : zz_D zy_put_14_47 172 (.aload_n 0) 1 173 := ⟨zq_42 zg_14_47_54.2.2.2.2.2.2.2.2.2.1, rfl⟩
theorem zd_14_47_173 : zz_D zy_put_14_47 173 (.getfield 331) 3 176 := ⟨zq_180 zg_14_47_54.2.2.2.2.2.2.2.2.2.2.1 zg_14_47_54.2.2.2.2.2.2.2.2.2.2.2.1 zg_14_47_54.2.2.2.2.2.2.2.2.2.2.2.2.1 rfl, rfl⟩
theorem zd_14_47_176 : zz_D zy_put_14_47 176 (.ireturn) 1 177 := ⟨zq_172 zg_14_47_54.2.2.2.2.2.2.2.2.2.2.2.2.2.1, rfl⟩
theorem zd_14_47_127 : zz_D zy_put_14_47 127 (.iload_n 1) 1 128 := ⟨zq_27 zg_14_47_54.2.2.2.2.2.2.2.2.2.2.2.2.2.2.1, rfl⟩
theorem zd_14_47_128 : zz_D zy_put_14_47 128 (.bipush 8) 2 130 := ⟨zq_16 zg_14_47_54.2.2.2.2.2.2.2.2.2.2.2.2.2.2.2.1 zg_14_47_54.2.2.2.2.2.2.2.2.2.2.2.2.2.2.2.2.1 (by decide), rfl⟩
theorem zd_14_47_130 : zz_D zy_put_14_47 130 (.iload 4) 2 132 := ⟨zq_21 zg_14_47_54.2.2.2.2.2.2.2.2.2.2.2.2.2.2.2.2.2.1 zg_14_47_54.2.2.2.2.2.2.2.2.2.2.2.2.2.2.2.2.2.2.1, rfl⟩
theorem zd_14_47_132 : zz_D zy_put_14_47 132 (.imul) 1 133 := ⟨zq_104 zg_14_47_54.2.2.2.2.2.2.2.2.2.2.2.2.2.2.2.2.2.2.2.1, rfl⟩
theorem zd_14_47_133 : zz_D zy_put_14_47 133 (.ishr) 1 134 := ⟨zq_122 zg_14_47_54.2.2.2.2.2.2.2.2.2.2.2.2.2.2.2.2.2.2.2.2.1, rfl⟩
theorem zd_14_47_134 : zz_D zy_put_14_47 134 (.sipush 255) 3 137 := ⟨zq_17 zg_14_47_54.2.2.2.2.2.2.2.2.2.2.2.2.2.2.2.2.2.2.2.2.2.1 zg_14_47_54.2.2.2.2.2.2.2.2.2.2.2.2.2.2.2.2.2.2.2.2.2.2.1 zg_14_47_54.2.2.2.2.2.2.2.2.2.2.2.2.2.2.2.2.2.2.2.2.2.2.2 (by decide), rfl⟩
theorem zg_14_47_137 : zq_at zy_put_14_47.2.1 137 126 ∧ zq_at zy_put_14_47.2.1 138 54 ∧ zq_at zy_put_14_47.2.1 139 5 ∧ zq_at zy_put_14_47.2.1 140 21 ∧ zq_at zy_put_14_47.2.1 141 5 ∧ zq_at zy_put_14_47.2.1 142 158 ∧ zq_at zy_put_14_47.2.1 143 0 ∧ zq_at zy_put_14_47.2.1 144 24 ∧ zq_at zy_put_14_47.2.1 166 132 ∧ zq_at zy_put_14_47.2.1 167 4 ∧ zq_at zy_put_14_47.2.1 168 1 ∧ zq_at zy_put_14_47.2.1 169 167 ∧ zq_at zy_put_14_47.2.1 170 255 ∧ zq_at zy_put_14_47.2.1 171 208 ∧ zq_at zy_put_14_47.2.1 145 42 ∧ zq_at zy_put_14_47.2.1 146 180 ∧ zq_at zy_put_14_47.2.1 147 0 ∧ zq_at zy_put_14_47.2.1 148 76 ∧ zq_at zy_put_14_47.2.1 149 42 ∧ zq_at zy_put_14_47.2.1 150 180 ∧ zq_at zy_put_14_47.2.1 151 1 ∧ zq_at zy_put_14_47.2.1 152 75 ∧ zq_at zy_put_14_47.2.1 153 21 ∧ zq_at zy_put_14_47.2.1 154 5 := by decide +kernel
theorem zd_14_47_137 : zz_D zy_put_14_47 137 (.iand) 1 138 := ⟨zq_126 zg_14_47_137.1, rfl⟩
theorem zd_14_47_138 : zz_D zy_put_14_47 138 (.istore 5) 2 140 := ⟨zq_54 zg_14_47_137.2.1 zg_14_47_137.2.2.1, rfl⟩
theorem zd_14_47_140 : zz_D zy_put_14_47 140 (.iload 5) 2 142 := ⟨zq_21 zg_14_47_137.2.2.2.1 zg_14_47_137.2.2.2.2.1, rfl⟩
theorem zd_14_47_142 : zz_B zy_put_14_47 142 (Instr.ifCond .le) 166 145 := ⟨24, zq_158 zg_14_47_137.2.2.2.2.2.1 zg_14_47_137.2.2.2.2.2.2.1 zg_14_47_137.2.2.2.2.2.2.2.1 (by decide), rfl, rfl⟩
theorem zd_14_47_166 : zz_D zy_put_14_47 166 (.iinc 4 1) 3 169 := ⟨zq_132 zg_14_47_137.2.2.2.2.2.2.2.2.1 zg_14_47_137.2.2.2.2.2.2.2.2.2.1 zg_14_47_137.2.2.2.2.2.2.2.2.2.2.1 (by decide), rfl⟩
theorem zd_14_47_169 : zz_B zy_put_14_47 169 Instr.goto 121 172 := ⟨(-48), zq_167 zg_14_47_137.2.2.2.2.2.2.2.2.2.2.2.1 zg_14_47_137.2.2.2.2.2.2.2.2.2.2.2.2.1 zg_14_47_137.2.2.2.2.2.2.2.2.2.2.2.2.2.1 (by decide), rfl, rfl⟩
theorem zd_14_47_145 : zz_D zy_put_14_47 145 (.aload_n 0) 1 146 := ⟨zq_42 zg_14_47_137.2.2.2.2.2.2.2.2.2.2.2.2.2.2.1, rfl⟩
theorem zd_14_47_146 : zz_D zy_put_14_47 146 (.getfield 76) 3 149 := ⟨zq_180 zg_14_47_137.2.2.2.2.2.2.2.2.2.2.2.2.2.2.2.1 zg_14_47_137.2.2.2.2.2.2.2.2.2.2.2.2.2.2.2.2.1 zg_14_47_137.2.2.2.2.2.2.2.2.2.2.2.2.2.2.2.2.2.1 rfl, rfl⟩
theorem zd_14_47_149 : zz_D zy_put_14_47 149 (.aload_n 0) 1 150 := ⟨zq_42 zg_14_47_137.2.2.2.2.2.2.2.2.2.2.2.2.2.2.2.2.2.2.1, rfl⟩
theorem zd_14_47_150 : zz_D zy_put_14_47 150 (.getfield 331) 3 153 := ⟨zq_180 zg_14_47_137.2.2.2.2.2.2.2.2.2.2.2.2.2.2.2.2.2.2.2.1 zg_14_47_137.2.2.2.2.2.2.2.2.2.2.2.2.2.2.2.2.2.2.2.2.1 zg_14_47_137.2.2.2.2.2.2.2.2.2.2.2.2.2.2.2.2.2.2.2.2.2.1 rfl, rfl⟩
theorem zd_14_47_153 : zz_D zy_put_14_47 153 (.iload 5) 2 155 := ⟨zq_21 zg_14_47_137.2.2.2.2.2.2.2.2.2.2.2.2.2.2.2.2.2.2.2.2.2.2.1 zg_14_47_137.2.2.2.2.2.2.2.2.2.2.2.2.2.2.2.2.2.2.2.2.2.2.2, rfl⟩
theorem zg_14_47_155 : zq_at zy_put_14_47.2.1 155 79 ∧ zq_at zy_put_14_47.2.1 156 42 ∧ zq_at zy_put_14_47.2.1 157 89 ∧ zq_at zy_put_14_47.2.1 158 180 ∧ zq_at zy_put_14_47.2.1 159 1 ∧ zq_at zy_put_14_47.2.1 160 75 ∧ zq_at zy_put_14_47.2.1 161 4 ∧ zq_at zy_put_14_47.2.1 162 96 ∧ zq_at zy_put_14_47.2.1 163 181 ∧ zq_at zy_put_14_47.2.1 164 1 ∧ zq_at zy_put_14_47.2.1 165 75 := by decide +kernel
theorem zd_14_47_155 : zz_D zy_put_14_47 155 (.iastore) 1 156 := ⟨zq_79 zg_14_47_155.1, rfl⟩
theorem zd_14_47_156 : zz_D zy_put_14_47 156 (.aload_n 0) 1 157 := ⟨zq_42 zg_14_47_155.2.1, rfl⟩
theorem zd_14_47_157 : zz_D zy_put_14_47 157 (.dup) 1 158 := ⟨zq_89 zg_14_47_155.2.2.1, rfl⟩
theorem zd_14_47_158 : zz_D zy_put_14_47 158 (.getfield 331) 3 161 := ⟨zq_180 zg_14_47_155.2.2.2.1 zg_14_47_155.2.2.2.2.1 zg_14_47_155.2.2.2.2.2.1 rfl, rfl⟩
theorem zd_14_47_161 : zz_D zy_put_14_47 161 (.iconst 1) 1 162 := ⟨zq_4 zg_14_47_155.2.2.2.2.2.2.1, rfl⟩
theorem zd_14_47_162 : zz_D zy_put_14_47 162 (.iadd) 1 163 := ⟨zq_96 zg_14_47_155.2.2.2.2.2.2.2.1, rfl⟩
theorem zd_14_47_163 : zz_D zy_put_14_47 163 (.putfield 331) 3 166 := ⟨zq_181 zg_14_47_155.2.2.2.2.2.2.2.2.1 zg_14_47_155.2.2.2.2.2.2.2.2.2.1 zg_14_47_155.2.2.2.2.2.2.2.2.2.2 rfl, rfl⟩

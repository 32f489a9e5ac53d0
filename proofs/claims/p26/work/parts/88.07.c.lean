-- TensorForge$Compiler clearPlaces (II)V
abbrev zr_clearPlaces_3_9 : Room := { frames := 1, cells := 0, slots := 0, locals := 16 }
def zp_clearPlaces_3_9 (p0 : Int) (p1 : Int) (S0 : zz_S) : zz_S → Prop := fun S => zz_G S ∧ zz_fr [(1076, 1)] [] (fun a i => a = zz_rf 4 (S0 1076 0)) S0 S ∧ (S0 1076 1 ≤ S 1076 1 ∧ S 1076 1 ≤ S0 1076 1 + 1)
theorem zc_clearPlaces_3_9 {g : mm_G} {l : Launch} (p0 : Int) (p1 : Int) (S0 : zz_S) (n : Nat) (hn : zz_end ≤ n) (G_S0 : zz_G S0) (hp0 : (-2147483648) ≤ p0 ∧ p0 ≤ 2147483647) (hp1 : (-2147483648) ≤ p1 ∧ p1 ≤ 2147483647) (hq : S0 1076 1 ≤ 980000) (hl : 0 ≤ S0 1076 3 ∧ 0 ≤ S0 1076 4 ∧ 0 ≤ S0 1076 5) : mm_Met g l zy_clearPlaces_3_9 zr_clearPlaces_3_9 [.ref 1076, zi p0, zi p1] (zz_M S0 n) n (zz_QV n (zp_clearPlaces_3_9 p0 p1 S0)) := by
  refine zz_enter (by decide) (Nat.le_of_ble_eq_true rfl) (zz_less (ls1 := [some (.ref 1076), some (zi p0), some (zi p1)]) ⟨rfl, ⟨rfl, ⟨rfl, trivial⟩⟩⟩ ?_)
  have F_S0 : zz_fr [(1076, 1)] [] (fun a i => a = zz_rf 4 (S0 1076 0)) S0 S0 := zz_fr.refl
  refine zz_iload_n (x := p1) rfl zd_3_9_0 ?_
  refine zz_iload_n (x := p0) rfl zd_3_9_1 ?_
  refine zz_icmp_le (by omega) (by omega) zd_3_9_2 (fun c1 => ?_) (fun c1 => ?_)
  · have g2 := zz_G.r G_S0 1076 1 0 1000000 rfl rfl
    exact zz_vret zd_3_9_37 rfl (Nat.zero_le _) (Nat.zero_le _) ⟨_, rfl, G_S0, F_S0, by omega⟩
  · refine zz_aload_n (x := 1076) rfl zd_3_9_5 ?_
    refine zz_iconst zd_3_9_6 ?_
    refine zz_iload_n (x := p1) rfl zd_3_9_7 ?_
    refine zz_iload_n (x := p0) rfl zd_3_9_8 ?_
    refine zz_isub zd_3_9_9 ?_
    refine zz_nrm (fun v3 hv3 ev3 => ?_)
    refine zz_aload_n (x := 1076) rfl zd_3_9_10 ?_
    have g4 := zz_G.r G_S0 1076 16 (-2147483648) 2147483647 rfl rfl
    refine zz_geti (z := S0 1076 16) zd_3_9_11 zf_Compiler_115 zT_1076 rfl (zz_ltn hn rfl) rfl ?_
    refine zz_callSJ [zi 3, zi v3, zi (S0 1076 16)] zd_3_9_14 zk_Compiler_128 rfl rfl ⟨Nat.le_of_ble_eq_true rfl, Nat.le_of_ble_eq_true rfl⟩ ⟨rfl, rfl⟩ (Nat.zero_le _) (Nat.zero_le _) (zc_shaped_12_6 3 v3 (S0 1076 16) S0 n hn G_S0 (by omega) (by omega) (by omega)) (fun v6 S5 hP => ?_)
    obtain ⟨rfl, o7⟩ := hP
    refine zz_bipush (by decide) zd_3_9_17 ?_
    refine zz_aload_n (x := 1076) rfl zd_3_9_19 ?_
    refine zz_callVI [] zd_3_9_20 zk_Compiler_175 zT_1076 (zz_ltn hn rfl) rfl rfl ⟨Nat.le_of_ble_eq_true rfl, Nat.le_of_ble_eq_true rfl⟩ ⟨rfl, rfl⟩ (Nat.zero_le _) (Nat.zero_le _) (zc_groupHalf_3_14  S0 n hn G_S0 ) (fun v9 S8 hP => ?_)
    obtain ⟨rfl, o10⟩ := hP
    refine zz_iload_n (x := p0) rfl zd_3_9_23 ?_
    refine zz_aload_n (x := 1076) rfl zd_3_9_24 ?_
    have g11 := zz_G.r G_S0 1076 2 2 8 rfl rfl
    refine zz_geti (z := S0 1076 2) zd_3_9_25 zf_Compiler_21 zT_1076 rfl (zz_ltn hn rfl) rfl ?_
    refine zz_imul zd_3_9_28 ?_
    refine zz_nrm (fun v12 hv12 ev12 => ?_)
    refine zz_iadd zd_3_9_29 ?_
    refine zz_nrm (fun v13 hv13 ev13 => ?_)
    refine zz_callSJ [zi 8, zi v13] zd_3_9_30 zk_Compiler_132 rfl rfl ⟨Nat.le_of_ble_eq_true rfl, Nat.le_of_ble_eq_true rfl⟩ ⟨rfl, rfl⟩ (Nat.zero_le _) (Nat.zero_le _) (zc_bits_12_4 8 v13 S0 n hn G_S0 (by omega) (by omega)) (fun v15 S14 hP => ?_)
    obtain ⟨rfl, o16⟩ := hP
    refine zz_lor zd_3_9_33 (fun v17 hv17 ev17 => ?_)
    have g18 := zz_G.r G_S0 1076 1 0 1000000 rfl rfl
    refine zz_callVV [zl v17] zd_3_9_34 zk_Compiler_143 zT_1076 (zz_ltn hn rfl) rfl rfl ⟨Nat.le_of_ble_eq_true rfl, Nat.le_of_ble_eq_true rfl⟩ ⟨rfl, rfl⟩ (Nat.zero_le _) (Nat.zero_le _) (zc_emit_3_15 v17 S0 n hn G_S0 (by omega) (by omega)) (fun S19 hP => ?_)
    obtain ⟨G_S19, fS19, o21⟩ := hP
    have g22 := zz_G.r G_S0 1076 0 0 1 rfl rfl
    have F_S19 := zz_fr.trans F_S0 fS19 rfl (fun a i h => Or.inr (Or.inr (h)))
    have b23 := zz_rf4 (z := (S0 1076 0)) (by omega)
    have g24 := zz_G.r G_S19 1076 1 0 1000000 rfl rfl
    exact zz_vret zd_3_9_37 rfl (Nat.zero_le _) (Nat.zero_le _) ⟨_, rfl, G_S19, F_S19, by omega⟩
theorem zk_Compiler_188 : mm_Vl "TensorForge$Compiler" 188 9 2 zy_clearPlaces_3_9 := ⟨zyw_clearPlaces_3_9, (R_Compiler, F_Compiler, 17), rfl, mm_tb_1 1450 (by decide +kernel) rfl, mm_tb_1 1452 (by decide +kernel) rfl, mm_tb_s 70 (by decide +kernel) rfl⟩
abbrev zy_metColumn_3_8 : mm_Y := (⟨"TensorForge$Compiler", "metColumn", "(I)I"⟩, prog_3_method_8_code, 2, (some .int))
theorem zyw_metColumn_3_8 : mm_Yw zy_metColumn_3_8 1 := ⟨mm_tb_1 1457 (by decide +kernel) rfl, mm_tb_1 10 (by decide +kernel) rfl, ⟨by decide, by decide⟩, by decide +kernel⟩
theorem zg_3_7_50 : zq_at zy_loadMet_3_7.2.1 50 177 ∧ zq_at zy_loadMet_3_7.2.1 30 28 ∧ zq_at zy_loadMet_3_7.2.1 31 42 ∧ zq_at zy_loadMet_3_7.2.1 32 180 ∧ zq_at zy_loadMet_3_7.2.1 33 0 ∧ zq_at zy_loadMet_3_7.2.1 34 55 ∧ zq_at zy_loadMet_3_7.2.1 35 180 ∧ zq_at zy_loadMet_3_7.2.1 36 0 ∧ zq_at zy_loadMet_3_7.2.1 37 64 ∧ zq_at zy_loadMet_3_7.2.1 38 161 ∧ zq_at zy_loadMet_3_7.2.1 39 0 ∧ zq_at zy_loadMet_3_7.2.1 40 13 ∧ zq_at zy_loadMet_3_7.2.1 51 3 ∧ zq_at zy_loadMet_3_7.2.1 52 62 ∧ zq_at zy_loadMet_3_7.2.1 53 29 ∧ zq_at zy_loadMet_3_7.2.1 54 42 ∧ zq_at zy_loadMet_3_7.2.1 55 180 ∧ zq_at zy_loadMet_3_7.2.1 56 0 ∧ zq_at zy_loadMet_3_7.2.1 57 91 ∧ zq_at zy_loadMet_3_7.2.1 58 162 ∧ zq_at zy_loadMet_3_7.2.1 59 0 ∧ zq_at zy_loadMet_3_7.2.1 60 17 ∧ zq_at zy_loadMet_3_7.2.1 75 29 := by decide +kernel
theorem zd_3_7_50 : zz_D zy_loadMet_3_7 50 (.return_) 1 51 := ⟨zq_177 zg_3_7_50.1, rfl⟩
theorem zd_3_7_30 : zz_D zy_loadMet_3_7 30 (.iload_n 2) 1 31 := ⟨zq_28 zg_3_7_50.2.1, rfl⟩
theorem zd_3_7_31 : zz_D zy_loadMet_3_7 31 (.aload_n 0) 1 32 := ⟨zq_42 zg_3_7_50.2.2.1, rfl⟩
theorem zd_3_7_32 : zz_D zy_loadMet_3_7 32 (.getfield 55) 3 35 := ⟨zq_180 zg_3_7_50.2.2.2.1 zg_3_7_50.2.2.2.2.1 zg_3_7_50.2.2.2.2.2.1 rfl, rfl⟩
theorem zd_3_7_35 : zz_D zy_loadMet_3_7 35 (.getfield 64) 3 38 := ⟨zq_180 zg_3_7_50.2.2.2.2.2.2.1 zg_3_7_50.2.2.2.2.2.2.2.1 zg_3_7_50.2.2.2.2.2.2.2.2.1 rfl, rfl⟩
theorem zd_3_7_38 : zz_B zy_loadMet_3_7 38 (Instr.if_icmp .lt) 51 41 := ⟨13, zq_161 zg_3_7_50.2.2.2.2.2.2.2.2.2.1 zg_3_7_50.2.2.2.2.2.2.2.2.2.2.1 zg_3_7_50.2.2.2.2.2.2.2.2.2.2.2.1 (by decide), rfl, rfl⟩
theorem zd_3_7_51 : zz_D zy_loadMet_3_7 51 (.iconst 0) 1 52 := ⟨zq_3 zg_3_7_50.2.2.2.2.2.2.2.2.2.2.2.2.1, rfl⟩
theorem zd_3_7_52 : zz_D zy_loadMet_3_7 52 (.istore_n 3) 1 53 := ⟨zq_62 zg_3_7_50.2.2.2.2.2.2.2.2.2.2.2.2.2.1, rfl⟩
theorem zd_3_7_53 : zz_D zy_loadMet_3_7 53 (.iload_n 3) 1 54 := ⟨zq_29 zg_3_7_50.2.2.2.2.2.2.2.2.2.2.2.2.2.2.1, rfl⟩
theorem zd_3_7_54 : zz_D zy_loadMet_3_7 54 (.aload_n 0) 1 55 := ⟨zq_42 zg_3_7_50.2.2.2.2.2.2.2.2.2.2.2.2.2.2.2.1, rfl⟩
theorem zd_3_7_55 : zz_D zy_loadMet_3_7 55 (.getfield 91) 3 58 := ⟨zq_180 zg_3_7_50.2.2.2.2.2.2.2.2.2.2.2.2.2.2.2.2.1 zg_3_7_50.2.2.2.2.2.2.2.2.2.2.2.2.2.2.2.2.2.1 zg_3_7_50.2.2.2.2.2.2.2.2.2.2.2.2.2.2.2.2.2.2.1 rfl, rfl⟩
theorem zd_3_7_58 : zz_B zy_loadMet_3_7 58 (Instr.if_icmp .ge) 75 61 := ⟨17, zq_162 zg_3_7_50.2.2.2.2.2.2.2.2.2.2.2.2.2.2.2.2.2.2.2.1 zg_3_7_50.2.2.2.2.2.2.2.2.2.2.2.2.2.2.2.2.2.2.2.2.1 zg_3_7_50.2.2.2.2.2.2.2.2.2.2.2.2.2.2.2.2.2.2.2.2.2.1 (by decide), rfl, rfl⟩
theorem zd_3_7_75 : zz_D zy_loadMet_3_7 75 (.iload_n 3) 1 76 := ⟨zq_29 zg_3_7_50.2.2.2.2.2.2.2.2.2.2.2.2.2.2.2.2.2.2.2.2.2.2, rfl⟩
theorem zg_3_7_76 : zq_at zy_loadMet_3_7.2.1 76 54 ∧ zq_at zy_loadMet_3_7.2.1 77 4 ∧ zq_at zy_loadMet_3_7.2.1 61 42 ∧ zq_at zy_loadMet_3_7.2.1 62 29 ∧ zq_at zy_loadMet_3_7.2.1 63 182 ∧ zq_at zy_loadMet_3_7.2.1 64 0 ∧ zq_at zy_loadMet_3_7.2.1 65 191 := by decide +kernel
theorem zd_3_7_76 : zz_D zy_loadMet_3_7 76 (.istore 4) 2 78 := ⟨zq_54 zg_3_7_76.1 zg_3_7_76.2.1, rfl⟩
theorem zd_3_7_61 : zz_D zy_loadMet_3_7 61 (.aload_n 0) 1 62 := ⟨zq_42 zg_3_7_76.2.2.1, rfl⟩
theorem zd_3_7_62 : zz_D zy_loadMet_3_7 62 (.iload_n 3) 1 63 := ⟨zq_29 zg_3_7_76.2.2.2.1, rfl⟩
theorem zd_3_7_63 : zz_D zy_loadMet_3_7 63 (.invokevirtual 191) 3 66 := ⟨zq_182 zg_3_7_76.2.2.2.2.1 zg_3_7_76.2.2.2.2.2.1 zg_3_7_76.2.2.2.2.2.2 rfl, rfl⟩
theorem zg_3_8_0 : zq_at zy_metColumn_3_8.2.1 0 42 ∧ zq_at zy_metColumn_3_8.2.1 1 180 ∧ zq_at zy_metColumn_3_8.2.1 2 0 ∧ zq_at zy_metColumn_3_8.2.1 3 51 ∧ zq_at zy_metColumn_3_8.2.1 4 180 ∧ zq_at zy_metColumn_3_8.2.1 5 0 ∧ zq_at zy_metColumn_3_8.2.1 6 182 ∧ zq_at zy_metColumn_3_8.2.1 7 42 ∧ zq_at zy_metColumn_3_8.2.1 8 180 ∧ zq_at zy_metColumn_3_8.2.1 9 0 ∧ zq_at zy_metColumn_3_8.2.1 10 88 ∧ zq_at zy_metColumn_3_8.2.1 11 27 ∧ zq_at zy_metColumn_3_8.2.1 12 96 ∧ zq_at zy_metColumn_3_8.2.1 13 104 ∧ zq_at zy_metColumn_3_8.2.1 14 42 ∧ zq_at zy_metColumn_3_8.2.1 15 180 ∧ zq_at zy_metColumn_3_8.2.1 16 0 ∧ zq_at zy_metColumn_3_8.2.1 17 109 ∧ zq_at zy_metColumn_3_8.2.1 18 96 ∧ zq_at zy_metColumn_3_8.2.1 19 42 ∧ zq_at zy_metColumn_3_8.2.1 20 180 ∧ zq_at zy_metColumn_3_8.2.1 21 0 ∧ zq_at zy_metColumn_3_8.2.1 22 51 := by decide +kernel
theorem zd_3_8_0 : zz_D zy_metColumn_3_8 0 (.aload_n 0) 1 1 := ⟨zq_42 zg_3_8_0.1, rfl⟩
theorem zd_3_8_1 : zz_D zy_metColumn_3_8 1 (.getfield 51) 3 4 := ⟨zq_180 zg_3_8_0.2.1 zg_3_8_0.2.2.1 zg_3_8_0.2.2.2.1 rfl, rfl⟩
theorem zd_3_8_4 : zz_D zy_metColumn_3_8 4 (.getfield 182) 3 7 := ⟨zq_180 zg_3_8_0.2.2.2.2.1 zg_3_8_0.2.2.2.2.2.1 zg_3_8_0.2.2.2.2.2.2.1 rfl, rfl⟩
theorem zd_3_8_7 : zz_D zy_metColumn_3_8 7 (.aload_n 0) 1 8 := ⟨zq_42 zg_3_8_0.2.2.2.2.2.2.2.1, rfl⟩
theorem zd_3_8_8 : zz_D zy_metColumn_3_8 8 (.getfield 88) 3 11 := ⟨zq_180 zg_3_8_0.2.2.2.2.2.2.2.2.1 zg_3_8_0.2.2.2.2.2.2.2.2.2.1 zg_3_8_0.2.2.2.2.2.2.2.2.2.2.1 rfl, rfl⟩
theorem zd_3_8_11 : zz_D zy_metColumn_3_8 11 (.iload_n 1) 1 12 := ⟨zq_27 zg_3_8_0.2.2.2.2.2.2.2.2.2.2.2.1, rfl⟩
theorem zd_3_8_12 : zz_D zy_metColumn_3_8 12 (.iadd) 1 13 := ⟨zq_96 zg_3_8_0.2.2.2.2.2.2.2.2.2.2.2.2.1, rfl⟩
theorem zd_3_8_13 : zz_D zy_metColumn_3_8 13 (.imul) 1 14 := ⟨zq_104 zg_3_8_0.2.2.2.2.2.2.2.2.2.2.2.2.2.1, rfl⟩
theorem zd_3_8_14 : zz_D zy_metColumn_3_8 14 (.aload_n 0) 1 15 := ⟨zq_42 zg_3_8_0.2.2.2.2.2.2.2.2.2.2.2.2.2.2.1, rfl⟩
theorem zd_3_8_15 : zz_D zy_metColumn_3_8 15 (.getfield 109) 3 18 := ⟨zq_180 zg_3_8_0.2.2.2.2.2.2.2.2.2.2.2.2.2.2.2.1 zg_3_8_0.2.2.2.2.2.2.2.2.2.2.2.2.2.2.2.2.1 zg_3_8_0.2.2.2.2.2.2.2.2.2.2.2.2.2.2.2.2.2.1 rfl, rfl⟩
theorem zd_3_8_18 : zz_D zy_metColumn_3_8 18 (.iadd) 1 19 := ⟨zq_96 zg_3_8_0.2.2.2.2.2.2.2.2.2.2.2.2.2.2.2.2.2.2.1, rfl⟩
theorem zd_3_8_19 : zz_D zy_metColumn_3_8 19 (.aload_n 0) 1 20 := ⟨zq_42 zg_3_8_0.2.2.2.2.2.2.2.2.2.2.2.2.2.2.2.2.2.2.2.1, rfl⟩
theorem zd_3_8_20 : zz_D zy_metColumn_3_8 20 (.getfield 51) 3 23 := ⟨zq_180 zg_3_8_0.2.2.2.2.2.2.2.2.2.2.2.2.2.2.2.2.2.2.2.2.1 zg_3_8_0.2.2.2.2.2.2.2.2.2.2.2.2.2.2.2.2.2.2.2.2.2.1 zg_3_8_0.2.2.2.2.2.2.2.2.2.2.2.2.2.2.2.2.2.2.2.2.2.2 rfl, rfl⟩
theorem zg_3_8_23 : zq_at zy_metColumn_3_8.2.1 23 180 ∧ zq_at zy_metColumn_3_8.2.1 24 0 ∧ zq_at zy_metColumn_3_8.2.1 25 185 ∧ zq_at zy_metColumn_3_8.2.1 26 100 ∧ zq_at zy_metColumn_3_8.2.1 27 172 := by decide +kernel
theorem zd_3_8_23 : zz_D zy_metColumn_3_8 23 (.getfield 185) 3 26 := ⟨zq_180 zg_3_8_23.1 zg_3_8_23.2.1 zg_3_8_23.2.2.1 rfl, rfl⟩
theorem zd_3_8_26 : zz_D zy_metColumn_3_8 26 (.isub) 1 27 := ⟨zq_100 zg_3_8_23.2.2.2.1, rfl⟩
theorem zd_3_8_27 : zz_D zy_metColumn_3_8 27 (.ireturn) 1 28 := ⟨zq_172 zg_3_8_23.2.2.2.2, rfl⟩
-- TensorForge$Compiler metColumn (I)I
abbrev zr_metColumn_3_8 : Room := { frames := 0, cells := 0, slots := 0, locals := 0 }
def zp_metColumn_3_8 (p0 : Int) (S0 : zz_S) : Int → zz_S → Prop := fun r S => S0 = S ∧ ((-2147483648) ≤ r ∧ r ≤ 2147483647)
theorem zc_metColumn_3_8 {g : mm_G} {l : Launch} (p0 : Int) (S0 : zz_S) (n : Nat) (hn : zz_end ≤ n) (G_S0 : zz_G S0) (hp0 : (-2147483648) ≤ p0 ∧ p0 ≤ 2147483647) (hl : 0 ≤ S0 1076 3 ∧ 0 ≤ S0 1076 4 ∧ 0 ≤ S0 1076 5) : mm_Met g l zy_metColumn_3_8 zr_metColumn_3_8 [.ref 1076, zi p0] (zz_M S0 n) n (zz_QI n (zp_metColumn_3_8 p0 S0)) := by
  refine zz_enter (by decide) (Nat.le_of_ble_eq_true rfl) (zz_less (ls1 := [some (.ref 1076), some (zi p0)]) ⟨rfl, ⟨rfl, trivial⟩⟩ ?_)
  refine zz_aload_n (x := 1076) rfl zd_3_8_0 ?_
  have g1 := zz_G.r G_S0 1076 3 (-1) 23 rfl rfl
  refine zz_getr (kd := 4) (z := S0 1076 3) zd_3_8_1 zf_Compiler_51 zT_1076 rfl (zz_ltn hn rfl) rfl (by omega) (zz_rf 6 (S0 1076 3)) rfl ?_
  have g2 := zz_G.r G_S0 (zz_rf 6 (S0 1076 3)) 5 (-2147483648) 2147483647 (zR_k6_5 (by omega)) (zB_k6 (by omega))
  refine zz_geti (z := S0 (zz_rf 6 (S0 1076 3)) 5) zd_3_8_4 zf_Compiler_182 (zT_k6 (by omega)) rfl (zN_k6 hn (by omega)) rfl ?_
  refine zz_aload_n (x := 1076) rfl zd_3_8_7 ?_
  have g3 := zz_G.r G_S0 1076 10 (-2147483648) 2147483647 rfl rfl
  refine zz_geti (z := S0 1076 10) zd_3_8_8 zf_Compiler_88 zT_1076 rfl (zz_ltn hn rfl) rfl ?_
  refine zz_iload_n (x := p0) rfl zd_3_8_11 ?_
  refine zz_iadd zd_3_8_12 ?_
  refine zz_nrm (fun v4 hv4 ev4 => ?_)
  refine zz_imul zd_3_8_13 ?_
  refine zz_nrm (fun v5 hv5 ev5 => ?_)
  refine zz_aload_n (x := 1076) rfl zd_3_8_14 ?_
  have g6 := zz_G.r G_S0 1076 14 (-2147483648) 2147483647 rfl rfl
  refine zz_geti (z := S0 1076 14) zd_3_8_15 zf_Compiler_109 zT_1076 rfl (zz_ltn hn rfl) rfl ?_
  refine zz_iadd zd_3_8_18 ?_
  refine zz_nrm (fun v7 hv7 ev7 => ?_)
  refine zz_aload_n (x := 1076) rfl zd_3_8_19 ?_
  refine zz_getr (kd := 4) (z := S0 1076 3) zd_3_8_20 zf_Compiler_51 zT_1076 rfl (zz_ltn hn rfl) rfl (by omega) (zz_rf 6 (S0 1076 3)) rfl ?_
  have g8 := zz_G.r G_S0 (zz_rf 6 (S0 1076 3)) 6 (-2147483648) 2147483647 (zR_k6_6 (by omega)) (zB_k6 (by omega))
  refine zz_geti (z := S0 (zz_rf 6 (S0 1076 3)) 6) zd_3_8_23 zf_Compiler_185 (zT_k6 (by omega)) rfl (zN_k6 hn (by omega)) rfl ?_
  refine zz_isub zd_3_8_26 ?_
  refine zz_nrm (fun v9 hv9 ev9 => ?_)
  exact zz_iret zd_3_8_27 rfl (Nat.zero_le _) (Nat.zero_le _) ⟨_, _, rfl, rfl, by omega⟩
theorem zk_Compiler_191 : mm_Vl "TensorForge$Compiler" 191 9 1 zy_metColumn_3_8 := ⟨zyw_metColumn_3_8, (R_Compiler, F_Compiler, 17), rfl, mm_tb_1 1454 (by decide +kernel) rfl, mm_tb_1 1456 (by decide +kernel) rfl, mm_tb_s 71 (by decide +kernel) rfl⟩
theorem zg_3_7_66 : zq_at zy_loadMet_3_7.2.1 66 156 ∧ zq_at zy_loadMet_3_7.2.1 67 0 ∧ zq_at zy_loadMet_3_7.2.1 68 9 ∧ zq_at zy_loadMet_3_7.2.1 69 132 ∧ zq_at zy_loadMet_3_7.2.1 70 3 ∧ zq_at zy_loadMet_3_7.2.1 71 1 ∧ zq_at zy_loadMet_3_7.2.1 72 167 ∧ zq_at zy_loadMet_3_7.2.1 73 255 ∧ zq_at zy_loadMet_3_7.2.1 74 237 ∧ zq_at zy_loadMet_3_7.2.1 78 21 ∧ zq_at zy_loadMet_3_7.2.1 79 4 ∧ zq_at zy_loadMet_3_7.2.1 80 42 ∧ zq_at zy_loadMet_3_7.2.1 81 180 ∧ zq_at zy_loadMet_3_7.2.1 82 0 ∧ zq_at zy_loadMet_3_7.2.1 83 91 ∧ zq_at zy_loadMet_3_7.2.1 84 162 ∧ zq_at zy_loadMet_3_7.2.1 85 0 ∧ zq_at zy_loadMet_3_7.2.1 86 25 ∧ zq_at zy_loadMet_3_7.2.1 109 42 ∧ zq_at zy_loadMet_3_7.2.1 110 3 ∧ zq_at zy_loadMet_3_7.2.1 111 29 ∧ zq_at zy_loadMet_3_7.2.1 112 182 ∧ zq_at zy_loadMet_3_7.2.1 113 0 ∧ zq_at zy_loadMet_3_7.2.1 114 188 := by decide +kernel
theorem zd_3_7_66 : zz_B zy_loadMet_3_7 66 (Instr.ifCond .ge) 75 69 := ⟨9, zq_156 zg_3_7_66.1 zg_3_7_66.2.1 zg_3_7_66.2.2.1 (by decide), rfl, rfl⟩
theorem zd_3_7_69 : zz_D zy_loadMet_3_7 69 (.iinc 3 1) 3 72 := ⟨zq_132 zg_3_7_66.2.2.2.1 zg_3_7_66.2.2.2.2.1 zg_3_7_66.2.2.2.2.2.1 (by decide), rfl⟩
theorem zd_3_7_72 : zz_B zy_loadMet_3_7 72 Instr.goto 53 75 := ⟨(-19), zq_167 zg_3_7_66.2.2.2.2.2.2.1 zg_3_7_66.2.2.2.2.2.2.2.1 zg_3_7_66.2.2.2.2.2.2.2.2.1 (by decide), rfl, rfl⟩
theorem zd_3_7_78 : zz_D zy_loadMet_3_7 78 (.iload 4) 2 80 := ⟨zq_21 zg_3_7_66.2.2.2.2.2.2.2.2.2.1 zg_3_7_66.2.2.2.2.2.2.2.2.2.2.1, rfl⟩
theorem zd_3_7_80 : zz_D zy_loadMet_3_7 80 (.aload_n 0) 1 81 := ⟨zq_42 zg_3_7_66.2.2.2.2.2.2.2.2.2.2.2.1, rfl⟩
theorem zd_3_7_81 : zz_D zy_loadMet_3_7 81 (.getfield 91) 3 84 := ⟨zq_180 zg_3_7_66.2.2.2.2.2.2.2.2.2.2.2.2.1 zg_3_7_66.2.2.2.2.2.2.2.2.2.2.2.2.2.1 zg_3_7_66.2.2.2.2.2.2.2.2.2.2.2.2.2.2.1 rfl, rfl⟩
theorem zd_3_7_84 : zz_B zy_loadMet_3_7 84 (Instr.if_icmp .ge) 109 87 := ⟨25, zq_162 zg_3_7_66.2.2.2.2.2.2.2.2.2.2.2.2.2.2.2.1 zg_3_7_66.2.2.2.2.2.2.2.2.2.2.2.2.2.2.2.2.1 zg_3_7_66.2.2.2.2.2.2.2.2.2.2.2.2.2.2.2.2.2.1 (by decide), rfl, rfl⟩
theorem zd_3_7_109 : zz_D zy_loadMet_3_7 109 (.aload_n 0) 1 110 := ⟨zq_42 zg_3_7_66.2.2.2.2.2.2.2.2.2.2.2.2.2.2.2.2.2.2.1, rfl⟩
theorem zd_3_7_110 : zz_D zy_loadMet_3_7 110 (.iconst 0) 1 111 := ⟨zq_3 zg_3_7_66.2.2.2.2.2.2.2.2.2.2.2.2.2.2.2.2.2.2.2.1, rfl⟩
theorem zd_3_7_111 : zz_D zy_loadMet_3_7 111 (.iload_n 3) 1 112 := ⟨zq_29 zg_3_7_66.2.2.2.2.2.2.2.2.2.2.2.2.2.2.2.2.2.2.2.2.1, rfl⟩
theorem zd_3_7_112 : zz_D zy_loadMet_3_7 112 (.invokevirtual 188) 3 115 := ⟨zq_182 zg_3_7_66.2.2.2.2.2.2.2.2.2.2.2.2.2.2.2.2.2.2.2.2.2.1 zg_3_7_66.2.2.2.2.2.2.2.2.2.2.2.2.2.2.2.2.2.2.2.2.2.2.1 zg_3_7_66.2.2.2.2.2.2.2.2.2.2.2.2.2.2.2.2.2.2.2.2.2.2.2 rfl, rfl⟩
theorem zg_3_7_115 : zq_at zy_loadMet_3_7.2.1 115 42 ∧ zq_at zy_loadMet_3_7.2.1 116 29 ∧ zq_at zy_loadMet_3_7.2.1 117 21 ∧ zq_at zy_loadMet_3_7.2.1 118 4 ∧ zq_at zy_loadMet_3_7.2.1 119 42 ∧ zq_at zy_loadMet_3_7.2.1 120 180 ∧ zq_at zy_loadMet_3_7.2.1 121 0 ∧ zq_at zy_loadMet_3_7.2.1 122 55 ∧ zq_at zy_loadMet_3_7.2.1 123 28 ∧ zq_at zy_loadMet_3_7.2.1 124 42 ∧ zq_at zy_loadMet_3_7.2.1 125 29 ∧ zq_at zy_loadMet_3_7.2.1 126 182 ∧ zq_at zy_loadMet_3_7.2.1 127 0 ∧ zq_at zy_loadMet_3_7.2.1 128 191 ∧ zq_at zy_loadMet_3_7.2.1 129 27 ∧ zq_at zy_loadMet_3_7.2.1 130 182 ∧ zq_at zy_loadMet_3_7.2.1 131 0 ∧ zq_at zy_loadMet_3_7.2.1 132 147 ∧ zq_at zy_loadMet_3_7.2.1 133 42 ∧ zq_at zy_loadMet_3_7.2.1 134 180 ∧ zq_at zy_loadMet_3_7.2.1 135 0 ∧ zq_at zy_loadMet_3_7.2.1 136 51 := by decide +kernel
theorem zd_3_7_115 : zz_D zy_loadMet_3_7 115 (.aload_n 0) 1 116 := ⟨zq_42 zg_3_7_115.1, rfl⟩
theorem zd_3_7_116 : zz_D zy_loadMet_3_7 116 (.iload_n 3) 1 117 := ⟨zq_29 zg_3_7_115.2.1, rfl⟩
theorem zd_3_7_117 : zz_D zy_loadMet_3_7 117 (.iload 4) 2 119 := ⟨zq_21 zg_3_7_115.2.2.1 zg_3_7_115.2.2.2.1, rfl⟩
theorem zd_3_7_119 : zz_D zy_loadMet_3_7 119 (.aload_n 0) 1 120 := ⟨zq_42 zg_3_7_115.2.2.2.2.1, rfl⟩
theorem zd_3_7_120 : zz_D zy_loadMet_3_7 120 (.getfield 55) 3 123 := ⟨zq_180 zg_3_7_115.2.2.2.2.2.1 zg_3_7_115.2.2.2.2.2.2.1 zg_3_7_115.2.2.2.2.2.2.2.1 rfl, rfl⟩
theorem zd_3_7_123 : zz_D zy_loadMet_3_7 123 (.iload_n 2) 1 124 := ⟨zq_28 zg_3_7_115.2.2.2.2.2.2.2.2.1, rfl⟩
theorem zd_3_7_124 : zz_D zy_loadMet_3_7 124 (.aload_n 0) 1 125 := ⟨zq_42 zg_3_7_115.2.2.2.2.2.2.2.2.2.1, rfl⟩
theorem zd_3_7_125 : zz_D zy_loadMet_3_7 125 (.iload_n 3) 1 126 := ⟨zq_29 zg_3_7_115.2.2.2.2.2.2.2.2.2.2.1, rfl⟩
theorem zd_3_7_126 : zz_D zy_loadMet_3_7 126 (.invokevirtual 191) 3 129 := ⟨zq_182 zg_3_7_115.2.2.2.2.2.2.2.2.2.2.2.1 zg_3_7_115.2.2.2.2.2.2.2.2.2.2.2.2.1 zg_3_7_115.2.2.2.2.2.2.2.2.2.2.2.2.2.1 rfl, rfl⟩
theorem zd_3_7_129 : zz_D zy_loadMet_3_7 129 (.iload_n 1) 1 130 := ⟨zq_27 zg_3_7_115.2.2.2.2.2.2.2.2.2.2.2.2.2.2.1, rfl⟩
theorem zd_3_7_130 : zz_D zy_loadMet_3_7 130 (.invokevirtual 147) 3 133 := ⟨zq_182 zg_3_7_115.2.2.2.2.2.2.2.2.2.2.2.2.2.2.2.1 zg_3_7_115.2.2.2.2.2.2.2.2.2.2.2.2.2.2.2.2.1 zg_3_7_115.2.2.2.2.2.2.2.2.2.2.2.2.2.2.2.2.2.1 rfl, rfl⟩
theorem zd_3_7_133 : zz_D zy_loadMet_3_7 133 (.aload_n 0) 1 134 := ⟨zq_42 zg_3_7_115.2.2.2.2.2.2.2.2.2.2.2.2.2.2.2.2.2.2.1, rfl⟩
theorem zd_3_7_134 : zz_D zy_loadMet_3_7 134 (.getfield 51) 3 137 := ⟨zq_180 zg_3_7_115.2.2.2.2.2.2.2.2.2.2.2.2.2.2.2.2.2.2.2.1 zg_3_7_115.2.2.2.2.2.2.2.2.2.2.2.2.2.2.2.2.2.2.2.2.1 zg_3_7_115.2.2.2.2.2.2.2.2.2.2.2.2.2.2.2.2.2.2.2.2.2 rfl, rfl⟩
theorem zg_3_7_137 : zq_at zy_loadMet_3_7.2.1 137 180 ∧ zq_at zy_loadMet_3_7.2.1 138 0 ∧ zq_at zy_loadMet_3_7.2.1 139 182 ∧ zq_at zy_loadMet_3_7.2.1 140 42 ∧ zq_at zy_loadMet_3_7.2.1 141 180 ∧ zq_at zy_loadMet_3_7.2.1 142 0 ∧ zq_at zy_loadMet_3_7.2.1 143 55 ∧ zq_at zy_loadMet_3_7.2.1 144 180 ∧ zq_at zy_loadMet_3_7.2.1 145 0 ∧ zq_at zy_loadMet_3_7.2.1 146 79 ∧ zq_at zy_loadMet_3_7.2.1 147 104 ∧ zq_at zy_loadMet_3_7.2.1 148 182 ∧ zq_at zy_loadMet_3_7.2.1 149 0 ∧ zq_at zy_loadMet_3_7.2.1 150 159 ∧ zq_at zy_loadMet_3_7.2.1 151 42 ∧ zq_at zy_loadMet_3_7.2.1 152 21 ∧ zq_at zy_loadMet_3_7.2.1 153 4 ∧ zq_at zy_loadMet_3_7.2.1 154 42 ∧ zq_at zy_loadMet_3_7.2.1 155 180 ∧ zq_at zy_loadMet_3_7.2.1 156 0 ∧ zq_at zy_loadMet_3_7.2.1 157 91 ∧ zq_at zy_loadMet_3_7.2.1 158 182 ∧ zq_at zy_loadMet_3_7.2.1 159 0 ∧ zq_at zy_loadMet_3_7.2.1 160 188 := by decide +kernel
theorem zd_3_7_137 : zz_D zy_loadMet_3_7 137 (.getfield 182) 3 140 := ⟨zq_180 zg_3_7_137.1 zg_3_7_137.2.1 zg_3_7_137.2.2.1 rfl, rfl⟩
theorem zd_3_7_140 : zz_D zy_loadMet_3_7 140 (.aload_n 0) 1 141 := ⟨zq_42 zg_3_7_137.2.2.2.1, rfl⟩
theorem zd_3_7_141 : zz_D zy_loadMet_3_7 141 (.getfield 55) 3 144 := ⟨zq_180 zg_3_7_137.2.2.2.2.1 zg_3_7_137.2.2.2.2.2.1 zg_3_7_137.2.2.2.2.2.2.1 rfl, rfl⟩
theorem zd_3_7_144 : zz_D zy_loadMet_3_7 144 (.getfield 79) 3 147 := ⟨zq_180 zg_3_7_137.2.2.2.2.2.2.2.1 zg_3_7_137.2.2.2.2.2.2.2.2.1 zg_3_7_137.2.2.2.2.2.2.2.2.2.1 rfl, rfl⟩
theorem zd_3_7_147 : zz_D zy_loadMet_3_7 147 (.imul) 1 148 := ⟨zq_104 zg_3_7_137.2.2.2.2.2.2.2.2.2.2.1, rfl⟩
theorem zd_3_7_148 : zz_D zy_loadMet_3_7 148 (.invokevirtual 159) 3 151 := ⟨zq_182 zg_3_7_137.2.2.2.2.2.2.2.2.2.2.2.1 zg_3_7_137.2.2.2.2.2.2.2.2.2.2.2.2.1 zg_3_7_137.2.2.2.2.2.2.2.2.2.2.2.2.2.1 rfl, rfl⟩
theorem zd_3_7_151 : zz_D zy_loadMet_3_7 151 (.aload_n 0) 1 152 := ⟨zq_42 zg_3_7_137.2.2.2.2.2.2.2.2.2.2.2.2.2.2.1, rfl⟩
theorem zd_3_7_152 : zz_D zy_loadMet_3_7 152 (.iload 4) 2 154 := ⟨zq_21 zg_3_7_137.2.2.2.2.2.2.2.2.2.2.2.2.2.2.2.1 zg_3_7_137.2.2.2.2.2.2.2.2.2.2.2.2.2.2.2.2.1, rfl⟩
theorem zd_3_7_154 : zz_D zy_loadMet_3_7 154 (.aload_n 0) 1 155 := ⟨zq_42 zg_3_7_137.2.2.2.2.2.2.2.2.2.2.2.2.2.2.2.2.2.1, rfl⟩
theorem zd_3_7_155 : zz_D zy_loadMet_3_7 155 (.getfield 91) 3 158 := ⟨zq_180 zg_3_7_137.2.2.2.2.2.2.2.2.2.2.2.2.2.2.2.2.2.2.1 zg_3_7_137.2.2.2.2.2.2.2.2.2.2.2.2.2.2.2.2.2.2.2.1 zg_3_7_137.2.2.2.2.2.2.2.2.2.2.2.2.2.2.2.2.2.2.2.2.1 rfl, rfl⟩
theorem zd_3_7_158 : zz_D zy_loadMet_3_7 158 (.invokevirtual 188) 3 161 := ⟨zq_182 zg_3_7_137.2.2.2.2.2.2.2.2.2.2.2.2.2.2.2.2.2.2.2.2.2.1 zg_3_7_137.2.2.2.2.2.2.2.2.2.2.2.2.2.2.2.2.2.2.2.2.2.2.1 zg_3_7_137.2.2.2.2.2.2.2.2.2.2.2.2.2.2.2.2.2.2.2.2.2.2.2 rfl, rfl⟩
theorem zg_3_7_161 : zq_at zy_loadMet_3_7.2.1 161 177 ∧ zq_at zy_loadMet_3_7.2.1 87 42 ∧ zq_at zy_loadMet_3_7.2.1 88 21 ∧ zq_at zy_loadMet_3_7.2.1 89 4 ∧ zq_at zy_loadMet_3_7.2.1 90 182 ∧ zq_at zy_loadMet_3_7.2.1 91 0 ∧ zq_at zy_loadMet_3_7.2.1 92 191 ∧ zq_at zy_loadMet_3_7.2.1 93 42 ∧ zq_at zy_loadMet_3_7.2.1 94 180 ∧ zq_at zy_loadMet_3_7.2.1 95 0 ∧ zq_at zy_loadMet_3_7.2.1 96 55 ∧ zq_at zy_loadMet_3_7.2.1 97 180 ∧ zq_at zy_loadMet_3_7.2.1 98 0 ∧ zq_at zy_loadMet_3_7.2.1 99 67 ∧ zq_at zy_loadMet_3_7.2.1 100 162 ∧ zq_at zy_loadMet_3_7.2.1 101 0 ∧ zq_at zy_loadMet_3_7.2.1 102 9 ∧ zq_at zy_loadMet_3_7.2.1 103 132 ∧ zq_at zy_loadMet_3_7.2.1 104 4 ∧ zq_at zy_loadMet_3_7.2.1 105 1 ∧ zq_at zy_loadMet_3_7.2.1 106 167 ∧ zq_at zy_loadMet_3_7.2.1 107 255 ∧ zq_at zy_loadMet_3_7.2.1 108 228 := by decide +kernel
theorem zd_3_7_161 : zz_D zy_loadMet_3_7 161 (.return_) 1 162 := ⟨zq_177 zg_3_7_161.1, rfl⟩
theorem zd_3_7_87 : zz_D zy_loadMet_3_7 87 (.aload_n 0) 1 88 := ⟨zq_42 zg_3_7_161.2.1, rfl⟩
theorem zd_3_7_88 : zz_D zy_loadMet_3_7 88 (.iload 4) 2 90 := ⟨zq_21 zg_3_7_161.2.2.1 zg_3_7_161.2.2.2.1, rfl⟩
theorem zd_3_7_90 : zz_D zy_loadMet_3_7 90 (.invokevirtual 191) 3 93 := ⟨zq_182 zg_3_7_161.2.2.2.2.1 zg_3_7_161.2.2.2.2.2.1 zg_3_7_161.2.2.2.2.2.2.1 rfl, rfl⟩
theorem zd_3_7_93 : zz_D zy_loadMet_3_7 93 (.aload_n 0) 1 94 := ⟨zq_42 zg_3_7_161.2.2.2.2.2.2.2.1, rfl⟩
theorem zd_3_7_94 : zz_D zy_loadMet_3_7 94 (.getfield 55) 3 97 := ⟨zq_180 zg_3_7_161.2.2.2.2.2.2.2.2.1 zg_3_7_161.2.2.2.2.2.2.2.2.2.1 zg_3_7_161.2.2.2.2.2.2.2.2.2.2.1 rfl, rfl⟩
theorem zd_3_7_97 : zz_D zy_loadMet_3_7 97 (.getfield 67) 3 100 := ⟨zq_180 zg_3_7_161.2.2.2.2.2.2.2.2.2.2.2.1 zg_3_7_161.2.2.2.2.2.2.2.2.2.2.2.2.1 zg_3_7_161.2.2.2.2.2.2.2.2.2.2.2.2.2.1 rfl, rfl⟩
theorem zd_3_7_100 : zz_B zy_loadMet_3_7 100 (Instr.if_icmp .ge) 109 103 := ⟨9, zq_162 zg_3_7_161.2.2.2.2.2.2.2.2.2.2.2.2.2.2.1 zg_3_7_161.2.2.2.2.2.2.2.2.2.2.2.2.2.2.2.1 zg_3_7_161.2.2.2.2.2.2.2.2.2.2.2.2.2.2.2.2.1 (by decide), rfl, rfl⟩
theorem zd_3_7_103 : zz_D zy_loadMet_3_7 103 (.iinc 4 1) 3 106 := ⟨zq_132 zg_3_7_161.2.2.2.2.2.2.2.2.2.2.2.2.2.2.2.2.2.1 zg_3_7_161.2.2.2.2.2.2.2.2.2.2.2.2.2.2.2.2.2.2.1 zg_3_7_161.2.2.2.2.2.2.2.2.2.2.2.2.2.2.2.2.2.2.2.1 (by decide), rfl⟩
theorem zd_3_7_106 : zz_B zy_loadMet_3_7 106 Instr.goto 78 109 := ⟨(-28), zq_167 zg_3_7_161.2.2.2.2.2.2.2.2.2.2.2.2.2.2.2.2.2.2.2.2.1 zg_3_7_161.2.2.2.2.2.2.2.2.2.2.2.2.2.2.2.2.2.2.2.2.2.1 zg_3_7_161.2.2.2.2.2.2.2.2.2.2.2.2.2.2.2.2.2.2.2.2.2.2 (by decide), rfl, rfl⟩
-- TensorForge$Compiler loadMet (I)V
abbrev zr_loadMet_3_7 : Room := { frames := 2, cells := 0, slots := 0, locals := 32 }
def zp_loadMet_3_7 (p0 : Int) (S0 : zz_S) : zz_S → Prop := fun S => zz_G S ∧ zz_fr [(1076, 1)] [1029, 1030] (fun _ _ => False) S0 S ∧ (S0 1076 1 ≤ S 1076 1 ∧ S 1076 1 ≤ S0 1076 1 + 3)
theorem zb_loadMet_3_7_53 {g : mm_G} {l : Launch} (p0 : Int) (S0 : zz_S) (n : Nat) (hn : zz_end ≤ n) (G_S0 : zz_G S0) (hp0 : (-2147483648) ≤ p0 ∧ p0 ≤ 2147483647) (hq : S0 1076 1 ≤ 970000) (hl : 0 ≤ S0 1076 3 ∧ 0 ≤ S0 1076 4 ∧ 0 ≤ S0 1076 5) (x2 : Int) (x3 : Int) (S : zz_S) (G_S : zz_G S) (F_S : zz_fr [(1076, 1)] [1029, 1030] (fun _ _ => False) S0 S) (i53_0 : 0 ≤ x2 ∧ x2 ≤ 2147483646) (i53_1 : 0 ≤ x3 ∧ x3 ≤ 2147483647) (i53_2 : S 1076 1 = S0 1076 1) (R : Nat) (hR : (34359738368 + (S0 1076 11 - x3).toNat) = R) (k53 : ∀ (x2 : Int) (x3 : Int) (S : zz_S), zz_G S → zz_fr [(1076, 1)] [1029, 1030] (fun _ _ => False) S0 S → (0 ≤ x2 ∧ x2 ≤ 2147483646) → (0 ≤ x3 ∧ x3 ≤ 2147483647) → (S 1076 1 = S0 1076 1) → (34359738368 + (S0 1076 11 - x3).toNat) < R → zz_E g l zy_loadMet_3_7 zr_loadMet_3_7 (zz_QV n (zp_loadMet_3_7 p0 S0)) S n 53 [some (.ref 1076), some (zi p0), some (zi x2), some (zi x3)] [] 0 0) (k78 : ∀ (x2 : Int) (x3 : Int) (x4 : Int) (S : zz_S), zz_G S → zz_fr [(1076, 1)] [1029, 1030] (fun _ _ => False) S0 S → (0 ≤ x2 ∧ x2 ≤ 2147483646) → (0 ≤ x3 ∧ x3 ≤ 2147483647) → (0 ≤ x4 ∧ x4 ≤ 2147483647) → (S 1076 1 = S0 1076 1) → (17179869184 + (S0 1076 11 - x4).toNat) < R → zz_E g l zy_loadMet_3_7 zr_loadMet_3_7 (zz_QV n (zp_loadMet_3_7 p0 S0)) S n 78 [some (.ref 1076), some (zi p0), some (zi x2), some (zi x3), some (zi x4)] [] 0 0) : zz_E g l zy_loadMet_3_7 zr_loadMet_3_7 (zz_QV n (zp_loadMet_3_7 p0 S0)) S n 53 [some (.ref 1076), some (zi p0), some (zi x2), some (zi x3)] [] 0 0 := by
  refine zz_iload_n (x := x3) rfl zd_3_7_53 ?_
  refine zz_aload_n (x := 1076) rfl zd_3_7_54 ?_
  have g34 := zz_G.r G_S0 1076 11 (-2147483648) 2147483647 rfl rfl
  refine zz_geti (z := S0 1076 11) zd_3_7_55 zf_Compiler_91 zT_1076 rfl (zz_ltn hn rfl) (zz_rc F_S rfl rfl (fun h => h) rfl) ?_
  refine zz_icmp_ge (by omega) (by omega) zd_3_7_58 (fun c35 => ?_) (fun c35 => ?_)
  · refine zz_iload_n (x := x3) rfl zd_3_7_75 ?_
    refine zz_istore [some (.ref 1076), some (zi p0), some (zi x2), some (zi x3), some (zi x3)] zd_3_7_76 (by decide) rfl ?_
    have g36 := zz_G.r G_S 1076 1 0 1000000 rfl rfl
    refine zz_less (ls1 := [some (.ref 1076), some (zi p0), some (zi x2), some (zi x3), some (zi x3)]) ⟨rfl, ⟨rfl, ⟨rfl, ⟨rfl, ⟨rfl, trivial⟩⟩⟩⟩⟩ ?_
    exact k78 x2 x3 x3 S G_S F_S (by omega) (by omega) (by omega) (by omega) (by omega)
  · refine zz_aload_n (x := 1076) rfl zd_3_7_61 ?_
    refine zz_iload_n (x := x3) rfl zd_3_7_62 ?_
    have g37 := zz_G.r G_S0 1076 3 (-1) 23 rfl rfl
    have e38 : S 1076 3 = S0 1076 3 := (zz_rc F_S rfl rfl (fun h => h) rfl)
    have g39 := zz_G.r G_S0 1076 4 (-1) 23 rfl rfl
    have e40 : S 1076 4 = S0 1076 4 := (zz_rc F_S rfl rfl (fun h => h) rfl)
    have g41 := zz_G.r G_S0 1076 5 (-1) 23 rfl rfl
    have e42 : S 1076 5 = S0 1076 5 := (zz_rc F_S rfl rfl (fun h => h) rfl)
    refine zz_callVI [zi x3] zd_3_7_63 zk_Compiler_191 zT_1076 (zz_ltn hn rfl) rfl rfl ⟨Nat.le_of_ble_eq_true rfl, Nat.le_of_ble_eq_true rfl⟩ ⟨rfl, rfl⟩ (Nat.zero_le _) (Nat.zero_le _) (zc_metColumn_3_8 x3 S n hn G_S (by omega) (by omega)) (fun v44 S43 hP => ?_)
    obtain ⟨rfl, o45⟩ := hP
    refine zz_if_ge (by omega) zd_3_7_66 (fun c46 => ?_) (fun c46 => ?_)
    · refine zz_iload_n (x := x3) rfl zd_3_7_75 ?_
      refine zz_istore [some (.ref 1076), some (zi p0), some (zi x2), some (zi x3), some (zi x3)] zd_3_7_76 (by decide) rfl ?_
      have g47 := zz_G.r G_S 1076 1 0 1000000 rfl rfl
      refine zz_less (ls1 := [some (.ref 1076), some (zi p0), some (zi x2), some (zi x3), some (zi x3)]) ⟨rfl, ⟨rfl, ⟨rfl, ⟨rfl, ⟨rfl, trivial⟩⟩⟩⟩⟩ ?_
      exact k78 x2 x3 x3 S G_S F_S (by omega) (by omega) (by omega) (by omega) (by omega)
    · refine zz_iinc [some (.ref 1076), some (zi p0), some (zi x2), some (zi (x3 + 1))] zd_3_7_69 rfl rfl ?_
      refine zz_goto zd_3_7_72 ?_
      have g48 := zz_G.r G_S 1076 1 0 1000000 rfl rfl
      refine zz_less (ls1 := [some (.ref 1076), some (zi p0), some (zi x2), some (zi (x3 + 1))]) ⟨rfl, ⟨rfl, ⟨rfl, ⟨rfl, trivial⟩⟩⟩⟩ ?_
      exact k53 x2 (x3 + 1) S G_S F_S (by omega) (by omega) (by omega) (by omega)
theorem zb_loadMet_3_7_78 {g : mm_G} {l : Launch} (p0 : Int) (S0 : zz_S) (n : Nat) (hn : zz_end ≤ n) (G_S0 : zz_G S0) (hp0 : (-2147483648) ≤ p0 ∧ p0 ≤ 2147483647) (hq : S0 1076 1 ≤ 970000) (hl : 0 ≤ S0 1076 3 ∧ 0 ≤ S0 1076 4 ∧ 0 ≤ S0 1076 5) (x2 : Int) (x3 : Int) (x4 : Int) (S : zz_S) (G_S : zz_G S) (F_S : zz_fr [(1076, 1)] [1029, 1030] (fun _ _ => False) S0 S) (i78_0 : 0 ≤ x2 ∧ x2 ≤ 2147483646) (i78_1 : 0 ≤ x3 ∧ x3 ≤ 2147483647) (i78_2 : 0 ≤ x4 ∧ x4 ≤ 2147483647) (i78_3 : S 1076 1 = S0 1076 1) (R : Nat) (hR : (17179869184 + (S0 1076 11 - x4).toNat) = R) (k78 : ∀ (x2 : Int) (x3 : Int) (x4 : Int) (S : zz_S), zz_G S → zz_fr [(1076, 1)] [1029, 1030] (fun _ _ => False) S0 S → (0 ≤ x2 ∧ x2 ≤ 2147483646) → (0 ≤ x3 ∧ x3 ≤ 2147483647) → (0 ≤ x4 ∧ x4 ≤ 2147483647) → (S 1076 1 = S0 1076 1) → (17179869184 + (S0 1076 11 - x4).toNat) < R → zz_E g l zy_loadMet_3_7 zr_loadMet_3_7 (zz_QV n (zp_loadMet_3_7 p0 S0)) S n 78 [some (.ref 1076), some (zi p0), some (zi x2), some (zi x3), some (zi x4)] [] 0 0) : zz_E g l zy_loadMet_3_7 zr_loadMet_3_7 (zz_QV n (zp_loadMet_3_7 p0 S0)) S n 78 [some (.ref 1076), some (zi p0), some (zi x2), some (zi x3), some (zi x4)] [] 0 0 := by
  refine zz_iload (x := x4) rfl zd_3_7_78 ?_
  refine zz_aload_n (x := 1076) rfl zd_3_7_80 ?_
  have g49 := zz_G.r G_S0 1076 11 (-2147483648) 2147483647 rfl rfl
  refine zz_geti (z := S0 1076 11) zd_3_7_81 zf_Compiler_91 zT_1076 rfl (zz_ltn hn rfl) (zz_rc F_S rfl rfl (fun h => h) rfl) ?_
  refine zz_icmp_ge (by omega) (by omega) zd_3_7_84 (fun c50 => ?_) (fun c50 => ?_)
  · refine zz_aload_n (x := 1076) rfl zd_3_7_109 ?_
    refine zz_iconst zd_3_7_110 ?_
    refine zz_iload_n (x := x3) rfl zd_3_7_111 ?_
    have g51 := zz_G.r G_S 1076 1 0 1000000 rfl rfl
    have g52 := zz_G.r G_S0 1076 3 (-1) 23 rfl rfl
    have e53 : S 1076 3 = S0 1076 3 := (zz_rc F_S rfl rfl (fun h => h) rfl)
    have g54 := zz_G.r G_S0 1076 4 (-1) 23 rfl rfl
    have e55 : S 1076 4 = S0 1076 4 := (zz_rc F_S rfl rfl (fun h => h) rfl)
    have g56 := zz_G.r G_S0 1076 5 (-1) 23 rfl rfl
    have e57 : S 1076 5 = S0 1076 5 := (zz_rc F_S rfl rfl (fun h => h) rfl)
    refine zz_callVV [zi 0, zi x3] zd_3_7_112 zk_Compiler_188 zT_1076 (zz_ltn hn rfl) rfl rfl ⟨Nat.le_of_ble_eq_true rfl, Nat.le_of_ble_eq_true rfl⟩ ⟨rfl, rfl⟩ (Nat.zero_le _) (Nat.zero_le _) (zc_clearPlaces_3_9 0 x3 S n hn G_S (by omega) (by omega) (by omega) (by omega)) (fun S58 hP => ?_)
    obtain ⟨G_S58, fS58, o60⟩ := hP
    have g61 := zz_G.r G_S 1076 0 0 1 rfl rfl
    have F_S58 := zz_fr.trans F_S fS58 rfl (fun a i h => Or.inr (Or.inl (h ▸ zM_k4 (z := (S 1076 0)) (by omega) rfl)))
    have b62 := zz_rf4 (z := (S 1076 0)) (by omega)
    refine zz_aload_n (x := 1076) rfl zd_3_7_115 ?_
    refine zz_iload_n (x := x3) rfl zd_3_7_116 ?_
    refine zz_iload (x := x4) rfl zd_3_7_117 ?_
    refine zz_aload_n (x := 1076) rfl zd_3_7_119 ?_
    refine zz_getr (kd := 4) (z := S0 1076 4) zd_3_7_120 zf_Compiler_55 zT_1076 rfl (zz_ltn hn rfl) (zz_rc fS58 rfl rfl (by first | decide | omega) (zz_rc F_S rfl rfl (fun h => h) rfl)) (by omega) (zz_rf 6 (S0 1076 4)) rfl ?_
    refine zz_iload_n (x := x2) rfl zd_3_7_123 ?_
    refine zz_aload_n (x := 1076) rfl zd_3_7_124 ?_
    refine zz_iload_n (x := x3) rfl zd_3_7_125 ?_
    have e63 : S58 1076 3 = S0 1076 3 := (zz_rc fS58 rfl rfl (by first | decide | omega) (zz_rc F_S rfl rfl (fun h => h) rfl))
    have e64 : S58 1076 4 = S0 1076 4 := (zz_rc fS58 rfl rfl (by first | decide | omega) (zz_rc F_S rfl rfl (fun h => h) rfl))
    have e65 : S58 1076 5 = S0 1076 5 := (zz_rc fS58 rfl rfl (by first | decide | omega) (zz_rc F_S rfl rfl (fun h => h) rfl))
    refine zz_callVI [zi x3] zd_3_7_126 zk_Compiler_191 zT_1076 (zz_ltn hn rfl) rfl rfl ⟨Nat.le_of_ble_eq_true rfl, Nat.le_of_ble_eq_true rfl⟩ ⟨rfl, rfl⟩ (Nat.zero_le _) (Nat.zero_le _) (zc_metColumn_3_8 x3 S58 n hn G_S58 (by omega) (by omega)) (fun v67 S66 hP => ?_)
    obtain ⟨rfl, o68⟩ := hP
    refine zz_iload_n (x := p0) rfl zd_3_7_129 ?_
    refine zz_callVI [zi x2, zi v67, zi p0] zd_3_7_130 zk_Compiler_147 (zT_k6 (by omega)) (zN_k6 hn (by omega)) rfl rfl ⟨Nat.le_of_ble_eq_true rfl, Nat.le_of_ble_eq_true rfl⟩ ⟨rfl, rfl⟩ (Nat.zero_le _) (Nat.zero_le _) (zc_cellAt_4_15 (S0 1076 4) x2 v67 p0 S58 n hn G_S58 (by omega) (by omega) (by omega) (by omega)) (fun v70 S69 hP => ?_)
    obtain ⟨rfl, o71⟩ := hP
    refine zz_aload_n (x := 1076) rfl zd_3_7_133 ?_
    refine zz_getr (kd := 4) (z := S0 1076 3) zd_3_7_134 zf_Compiler_51 zT_1076 rfl (zz_ltn hn rfl) (zz_rc fS58 rfl rfl (by first | decide | omega) (zz_rc F_S rfl rfl (fun h => h) rfl)) (by omega) (zz_rf 6 (S0 1076 3)) rfl ?_
    have g72 := zz_G.r G_S0 (zz_rf 6 (S0 1076 3)) 5 (-2147483648) 2147483647 (zR_k6_5 (by omega)) (zB_k6 (by omega))
    refine zz_geti (z := S0 (zz_rf 6 (S0 1076 3)) 5) zd_3_7_137 zf_Compiler_182 (zT_k6 (by omega)) rfl (zN_k6 hn (by omega)) (zz_rc fS58 (zP_k6 (by omega) rfl) (zQ_k6 (by omega) rfl) (by have hz_ := zz_rf6 (z := S0 1076 3) (by omega); omega) (zz_rc F_S (zP_k6 (by omega) rfl) (zQ_k6 (by omega) rfl) (fun h => h) rfl)) ?_
    refine zz_aload_n (x := 1076) rfl zd_3_7_140 ?_
    refine zz_getr (kd := 4) (z := S0 1076 4) zd_3_7_141 zf_Compiler_55 zT_1076 rfl (zz_ltn hn rfl) (zz_rc fS58 rfl rfl (by first | decide | omega) (zz_rc F_S rfl rfl (fun h => h) rfl)) (by omega) (zz_rf 6 (S0 1076 4)) rfl ?_
    have g73 := zz_G.r G_S0 (zz_rf 6 (S0 1076 4)) 12 (-2147483648) 2147483647 (zR_k6_12 (by omega)) (zB_k6 (by omega))
    refine zz_geti (z := S0 (zz_rf 6 (S0 1076 4)) 12) zd_3_7_144 zf_Compiler_79 (zT_k6 (by omega)) rfl (zN_k6 hn (by omega)) (zz_rc fS58 (zP_k6 (by omega) rfl) (zQ_k6 (by omega) rfl) (by have hz_ := zz_rf6 (z := S0 1076 4) (by omega); omega) (zz_rc F_S (zP_k6 (by omega) rfl) (zQ_k6 (by omega) rfl) (fun h => h) rfl)) ?_
    refine zz_imul zd_3_7_147 ?_
    refine zz_nrm (fun v74 hv74 ev74 => ?_)
    have g75 := zz_G.r G_S58 1076 1 0 1000000 rfl rfl
    refine zz_callVV [zi x3, zi x4, zi v70, zi v74] zd_3_7_148 zk_Compiler_159 zT_1076 (zz_ltn hn rfl) rfl rfl ⟨Nat.le_of_ble_eq_true rfl, Nat.le_of_ble_eq_true rfl⟩ ⟨rfl, rfl⟩ (Nat.zero_le _) (Nat.zero_le _) (zc_loadPlaces_3_10 x3 x4 v70 v74 S58 n hn G_S58 (by omega) (by omega) (by omega) (by omega) (by omega) (by omega)) (fun S76 hP => ?_)
    obtain ⟨G_S76, fS76, o78⟩ := hP
    have g79 := zz_G.r G_S58 1076 0 0 1 rfl rfl
    have F_S76 := zz_fr.trans F_S58 fS76 rfl (fun a i h => Or.inr (Or.inl (h ▸ zM_k4 (z := (S58 1076 0)) (by omega) rfl)))
    have b80 := zz_rf4 (z := (S58 1076 0)) (by omega)
    refine zz_aload_n (x := 1076) rfl zd_3_7_151 ?_
    refine zz_iload (x := x4) rfl zd_3_7_152 ?_
    refine zz_aload_n (x := 1076) rfl zd_3_7_154 ?_
    refine zz_geti (z := S0 1076 11) zd_3_7_155 zf_Compiler_91 zT_1076 rfl (zz_ltn hn rfl) (zz_rc fS76 rfl rfl (by first | decide | omega) (zz_rc fS58 rfl rfl (by first | decide | omega) (zz_rc F_S rfl rfl (fun h => h) rfl))) ?_
    have g81 := zz_G.r G_S76 1076 1 0 1000000 rfl rfl
    have e82 : S76 1076 3 = S0 1076 3 := (zz_rc fS76 rfl rfl (by first | decide | omega) (zz_rc fS58 rfl rfl (by first | decide | omega) (zz_rc F_S rfl rfl (fun h => h) rfl)))
    have e83 : S76 1076 4 = S0 1076 4 := (zz_rc fS76 rfl rfl (by first | decide | omega) (zz_rc fS58 rfl rfl (by first | decide | omega) (zz_rc F_S rfl rfl (fun h => h) rfl)))
    have e84 : S76 1076 5 = S0 1076 5 := (zz_rc fS76 rfl rfl (by first | decide | omega) (zz_rc fS58 rfl rfl (by first | decide | omega) (zz_rc F_S rfl rfl (fun h => h) rfl)))
    refine zz_callVV [zi x4, zi (S0 1076 11)] zd_3_7_158 zk_Compiler_188 zT_1076 (zz_ltn hn rfl) rfl rfl ⟨Nat.le_of_ble_eq_true rfl, Nat.le_of_ble_eq_true rfl⟩ ⟨rfl, rfl⟩ (Nat.zero_le _) (Nat.zero_le _) (zc_clearPlaces_3_9 x4 (S0 1076 11) S76 n hn G_S76 (by omega) (by omega) (by omega) (by omega)) (fun S85 hP => ?_)
    obtain ⟨G_S85, fS85, o87⟩ := hP
    have g88 := zz_G.r G_S76 1076 0 0 1 rfl rfl
    have F_S85 := zz_fr.trans F_S76 fS85 rfl (fun a i h => Or.inr (Or.inl (h ▸ zM_k4 (z := (S76 1076 0)) (by omega) rfl)))
    have b89 := zz_rf4 (z := (S76 1076 0)) (by omega)
    have g90 := zz_G.r G_S85 1076 1 0 1000000 rfl rfl
    exact zz_vret zd_3_7_161 rfl (Nat.zero_le _) (Nat.zero_le _) ⟨_, rfl, G_S85, F_S85, by omega⟩
  · refine zz_aload_n (x := 1076) rfl zd_3_7_87 ?_
    refine zz_iload (x := x4) rfl zd_3_7_88 ?_
    have g91 := zz_G.r G_S0 1076 3 (-1) 23 rfl rfl
    have e92 : S 1076 3 = S0 1076 3 := (zz_rc F_S rfl rfl (fun h => h) rfl)
    have g93 := zz_G.r G_S0 1076 4 (-1) 23 rfl rfl
    have e94 : S 1076 4 = S0 1076 4 := (zz_rc F_S rfl rfl (fun h => h) rfl)
    have g95 := zz_G.r G_S0 1076 5 (-1) 23 rfl rfl
    have e96 : S 1076 5 = S0 1076 5 := (zz_rc F_S rfl rfl (fun h => h) rfl)
    refine zz_callVI [zi x4] zd_3_7_90 zk_Compiler_191 zT_1076 (zz_ltn hn rfl) rfl rfl ⟨Nat.le_of_ble_eq_true rfl, Nat.le_of_ble_eq_true rfl⟩ ⟨rfl, rfl⟩ (Nat.zero_le _) (Nat.zero_le _) (zc_metColumn_3_8 x4 S n hn G_S (by omega) (by omega)) (fun v98 S97 hP => ?_)
    obtain ⟨rfl, o99⟩ := hP
    refine zz_aload_n (x := 1076) rfl zd_3_7_93 ?_
    refine zz_getr (kd := 4) (z := S0 1076 4) zd_3_7_94 zf_Compiler_55 zT_1076 rfl (zz_ltn hn rfl) (zz_rc F_S rfl rfl (fun h => h) rfl) (by omega) (zz_rf 6 (S0 1076 4)) rfl ?_
    have g100 := zz_G.r G_S0 (zz_rf 6 (S0 1076 4)) 11 (-2147483648) 2147483647 (zR_k6_11 (by omega)) (zB_k6 (by omega))
    refine zz_geti (z := S0 (zz_rf 6 (S0 1076 4)) 11) zd_3_7_97 zf_Compiler_67 (zT_k6 (by omega)) rfl (zN_k6 hn (by omega)) (zz_rc F_S (zP_k6 (by omega) rfl) (zQ_k6 (by omega) rfl) (fun h => h) rfl) ?_
    refine zz_icmp_ge (by omega) (by omega) zd_3_7_100 (fun c101 => ?_) (fun c101 => ?_)
    · refine zz_aload_n (x := 1076) rfl zd_3_7_109 ?_
      refine zz_iconst zd_3_7_110 ?_
      refine zz_iload_n (x := x3) rfl zd_3_7_111 ?_
      have g102 := zz_G.r G_S 1076 1 0 1000000 rfl rfl
      refine zz_callVV [zi 0, zi x3] zd_3_7_112 zk_Compiler_188 zT_1076 (zz_ltn hn rfl) rfl rfl ⟨Nat.le_of_ble_eq_true rfl, Nat.le_of_ble_eq_true rfl⟩ ⟨rfl, rfl⟩ (Nat.zero_le _) (Nat.zero_le _) (zc_clearPlaces_3_9 0 x3 S n hn G_S (by omega) (by omega) (by omega) (by omega)) (fun S103 hP => ?_)
      obtain ⟨G_S103, fS103, o105⟩ := hP
      have g106 := zz_G.r G_S 1076 0 0 1 rfl rfl
      have F_S103 := zz_fr.trans F_S fS103 rfl (fun a i h => Or.inr (Or.inl (h ▸ zM_k4 (z := (S 1076 0)) (by omega) rfl)))
      have b107 := zz_rf4 (z := (S 1076 0)) (by omega)
      refine zz_aload_n (x := 1076) rfl zd_3_7_115 ?_
      refine zz_iload_n (x := x3) rfl zd_3_7_116 ?_
      refine zz_iload (x := x4) rfl zd_3_7_117 ?_
      refine zz_aload_n (x := 1076) rfl zd_3_7_119 ?_
      refine zz_getr (kd := 4) (z := S0 1076 4) zd_3_7_120 zf_Compiler_55 zT_1076 rfl (zz_ltn hn rfl) (zz_rc fS103 rfl rfl (by first | decide | omega) (zz_rc F_S rfl rfl (fun h => h) rfl)) (by omega) (zz_rf 6 (S0 1076 4)) rfl ?_
      refine zz_iload_n (x := x2) rfl zd_3_7_123 ?_
      refine zz_aload_n (x := 1076) rfl zd_3_7_124 ?_
      refine zz_iload_n (x := x3) rfl zd_3_7_125 ?_
      have e108 : S103 1076 3 = S0 1076 3 := (zz_rc fS103 rfl rfl (by first | decide | omega) (zz_rc F_S rfl rfl (fun h => h) rfl))
      have e109 : S103 1076 4 = S0 1076 4 := (zz_rc fS103 rfl rfl (by first | decide | omega) (zz_rc F_S rfl rfl (fun h => h) rfl))
      have e110 : S103 1076 5 = S0 1076 5 := (zz_rc fS103 rfl rfl (by first | decide | omega) (zz_rc F_S rfl rfl (fun h => h) rfl))
      refine zz_callVI [zi x3] zd_3_7_126 zk_Compiler_191 zT_1076 (zz_ltn hn rfl) rfl rfl ⟨Nat.le_of_ble_eq_true rfl, Nat.le_of_ble_eq_true rfl⟩ ⟨rfl, rfl⟩ (Nat.zero_le _) (Nat.zero_le _) (zc_metColumn_3_8 x3 S103 n hn G_S103 (by omega) (by omega)) (fun v112 S111 hP => ?_)
      obtain ⟨rfl, o113⟩ := hP
      refine zz_iload_n (x := p0) rfl zd_3_7_129 ?_
      refine zz_callVI [zi x2, zi v112, zi p0] zd_3_7_130 zk_Compiler_147 (zT_k6 (by omega)) (zN_k6 hn (by omega)) rfl rfl ⟨Nat.le_of_ble_eq_true rfl, Nat.le_of_ble_eq_true rfl⟩ ⟨rfl, rfl⟩ (Nat.zero_le _) (Nat.zero_le _) (zc_cellAt_4_15 (S0 1076 4) x2 v112 p0 S103 n hn G_S103 (by omega) (by omega) (by omega) (by omega)) (fun v115 S114 hP => ?_)
      obtain ⟨rfl, o116⟩ := hP
      refine zz_aload_n (x := 1076) rfl zd_3_7_133 ?_
      refine zz_getr (kd := 4) (z := S0 1076 3) zd_3_7_134 zf_Compiler_51 zT_1076 rfl (zz_ltn hn rfl) (zz_rc fS103 rfl rfl (by first | decide | omega) (zz_rc F_S rfl rfl (fun h => h) rfl)) (by omega) (zz_rf 6 (S0 1076 3)) rfl ?_
      have g117 := zz_G.r G_S0 (zz_rf 6 (S0 1076 3)) 5 (-2147483648) 2147483647 (zR_k6_5 (by omega)) (zB_k6 (by omega))
      refine zz_geti (z := S0 (zz_rf 6 (S0 1076 3)) 5) zd_3_7_137 zf_Compiler_182 (zT_k6 (by omega)) rfl (zN_k6 hn (by omega)) (zz_rc fS103 (zP_k6 (by omega) rfl) (zQ_k6 (by omega) rfl) (by have hz_ := zz_rf6 (z := S0 1076 3) (by omega); omega) (zz_rc F_S (zP_k6 (by omega) rfl) (zQ_k6 (by omega) rfl) (fun h => h) rfl)) ?_
      refine zz_aload_n (x := 1076) rfl zd_3_7_140 ?_
      refine zz_getr (kd := 4) (z := S0 1076 4) zd_3_7_141 zf_Compiler_55 zT_1076 rfl (zz_ltn hn rfl) (zz_rc fS103 rfl rfl (by first | decide | omega) (zz_rc F_S rfl rfl (fun h => h) rfl)) (by omega) (zz_rf 6 (S0 1076 4)) rfl ?_
      have g118 := zz_G.r G_S0 (zz_rf 6 (S0 1076 4)) 12 (-2147483648) 2147483647 (zR_k6_12 (by omega)) (zB_k6 (by omega))
      refine zz_geti (z := S0 (zz_rf 6 (S0 1076 4)) 12) zd_3_7_144 zf_Compiler_79 (zT_k6 (by omega)) rfl (zN_k6 hn (by omega)) (zz_rc fS103 (zP_k6 (by omega) rfl) (zQ_k6 (by omega) rfl) (by have hz_ := zz_rf6 (z := S0 1076 4) (by omega); omega) (zz_rc F_S (zP_k6 (by omega) rfl) (zQ_k6 (by omega) rfl) (fun h => h) rfl)) ?_
      refine zz_imul zd_3_7_147 ?_
      refine zz_nrm (fun v119 hv119 ev119 => ?_)
      have g120 := zz_G.r G_S103 1076 1 0 1000000 rfl rfl
      refine zz_callVV [zi x3, zi x4, zi v115, zi v119] zd_3_7_148 zk_Compiler_159 zT_1076 (zz_ltn hn rfl) rfl rfl ⟨Nat.le_of_ble_eq_true rfl, Nat.le_of_ble_eq_true rfl⟩ ⟨rfl, rfl⟩ (Nat.zero_le _) (Nat.zero_le _) (zc_loadPlaces_3_10 x3 x4 v115 v119 S103 n hn G_S103 (by omega) (by omega) (by omega) (by omega) (by omega) (by omega)) (fun S121 hP => ?_)
      obtain ⟨G_S121, fS121, o123⟩ := hP
      have g124 := zz_G.r G_S103 1076 0 0 1 rfl rfl
      have F_S121 := zz_fr.trans F_S103 fS121 rfl (fun a i h => Or.inr (Or.inl (h ▸ zM_k4 (z := (S103 1076 0)) (by omega) rfl)))
      have b125 := zz_rf4 (z := (S103 1076 0)) (by omega)
      refine zz_aload_n (x := 1076) rfl zd_3_7_151 ?_
      refine zz_iload (x := x4) rfl zd_3_7_152 ?_
      refine zz_aload_n (x := 1076) rfl zd_3_7_154 ?_
      refine zz_geti (z := S0 1076 11) zd_3_7_155 zf_Compiler_91 zT_1076 rfl (zz_ltn hn rfl) (zz_rc fS121 rfl rfl (by first | decide | omega) (zz_rc fS103 rfl rfl (by first | decide | omega) (zz_rc F_S rfl rfl (fun h => h) rfl))) ?_
      have g126 := zz_G.r G_S121 1076 1 0 1000000 rfl rfl
      have e127 : S121 1076 3 = S0 1076 3 := (zz_rc fS121 rfl rfl (by first | decide | omega) (zz_rc fS103 rfl rfl (by first | decide | omega) (zz_rc F_S rfl rfl (fun h => h) rfl)))
      have e128 : S121 1076 4 = S0 1076 4 := (zz_rc fS121 rfl rfl (by first | decide | omega) (zz_rc fS103 rfl rfl (by first | decide | omega) (zz_rc F_S rfl rfl (fun h => h) rfl)))
      have e129 : S121 1076 5 = S0 1076 5 := (zz_rc fS121 rfl rfl (by first | decide | omega) (zz_rc fS103 rfl rfl (by first | decide | omega) (zz_rc F_S rfl rfl (fun h => h) rfl)))
      refine zz_callVV [zi x4, zi (S0 1076 11)] zd_3_7_158 zk_Compiler_188 zT_1076 (zz_ltn hn rfl) rfl rfl ⟨Nat.le_of_ble_eq_true rfl, Nat.le_of_ble_eq_true rfl⟩ ⟨rfl, rfl⟩ (Nat.zero_le _) (Nat.zero_le _) (zc_clearPlaces_3_9 x4 (S0 1076 11) S121 n hn G_S121 (by omega) (by omega) (by omega) (by omega)) (fun S130 hP => ?_)
      obtain ⟨G_S130, fS130, o132⟩ := hP
      have g133 := zz_G.r G_S121 1076 0 0 1 rfl rfl
      have F_S130 := zz_fr.trans F_S121 fS130 rfl (fun a i h => Or.inr (Or.inl (h ▸ zM_k4 (z := (S121 1076 0)) (by omega) rfl)))
      have b134 := zz_rf4 (z := (S121 1076 0)) (by omega)
      have g135 := zz_G.r G_S130 1076 1 0 1000000 rfl rfl
      exact zz_vret zd_3_7_161 rfl (Nat.zero_le _) (Nat.zero_le _) ⟨_, rfl, G_S130, F_S130, by omega⟩
    · refine zz_iinc [some (.ref 1076), some (zi p0), some (zi x2), some (zi x3), some (zi (x4 + 1))] zd_3_7_103 rfl rfl ?_
      refine zz_goto zd_3_7_106 ?_
      have g136 := zz_G.r G_S 1076 1 0 1000000 rfl rfl
      refine zz_less (ls1 := [some (.ref 1076), some (zi p0), some (zi x2), some (zi x3), some (zi (x4 + 1))]) ⟨rfl, ⟨rfl, ⟨rfl, ⟨rfl, ⟨rfl, trivial⟩⟩⟩⟩⟩ ?_
      exact k78 x2 x3 (x4 + 1) S G_S F_S (by omega) (by omega) (by omega) (by omega) (by omega)
theorem zi_loadMet_3_7 {g : mm_G} {l : Launch} (p0 : Int) (S0 : zz_S) (n : Nat) (hn : zz_end ≤ n) (G_S0 : zz_G S0) (hp0 : (-2147483648) ≤ p0 ∧ p0 ≤ 2147483647) (hq : S0 1076 1 ≤ 970000) (hl : 0 ≤ S0 1076 3 ∧ 0 ≤ S0 1076 4 ∧ 0 ≤ S0 1076 5) : ∀ N : Nat, (∀ (x2 : Int) (x3 : Int) (S : zz_S), zz_G S → zz_fr [(1076, 1)] [1029, 1030] (fun _ _ => False) S0 S → (0 ≤ x2 ∧ x2 ≤ 2147483646) → (0 ≤ x3 ∧ x3 ≤ 2147483647) → (S 1076 1 = S0 1076 1) → (34359738368 + (S0 1076 11 - x3).toNat) < N → zz_E g l zy_loadMet_3_7 zr_loadMet_3_7 (zz_QV n (zp_loadMet_3_7 p0 S0)) S n 53 [some (.ref 1076), some (zi p0), some (zi x2), some (zi x3)] [] 0 0) ∧ (∀ (x2 : Int) (x3 : Int) (x4 : Int) (S : zz_S), zz_G S → zz_fr [(1076, 1)] [1029, 1030] (fun _ _ => False) S0 S → (0 ≤ x2 ∧ x2 ≤ 2147483646) → (0 ≤ x3 ∧ x3 ≤ 2147483647) → (0 ≤ x4 ∧ x4 ≤ 2147483647) → (S 1076 1 = S0 1076 1) → (17179869184 + (S0 1076 11 - x4).toNat) < N → zz_E g l zy_loadMet_3_7 zr_loadMet_3_7 (zz_QV n (zp_loadMet_3_7 p0 S0)) S n 78 [some (.ref 1076), some (zi p0), some (zi x2), some (zi x3), some (zi x4)] [] 0 0) := by
  intro N
  induction N with
  | zero => exact ⟨fun x2 x3 S _ _ _ _ _ h => absurd h (Nat.not_lt_zero _), fun x2 x3 x4 S _ _ _ _ _ _ h => absurd h (Nat.not_lt_zero _)⟩
  | succ N ih =>
    exact ⟨fun x2 x3 S a b j0 j1 j2 hR => zb_loadMet_3_7_53 p0 S0 n hn G_S0 hp0 hq hl x2 x3 S a b j0 j1 j2 _ rfl (fun x2 x3 S a b j0 j1 j2 h => ih.1 x2 x3 S a b j0 j1 j2 (Nat.lt_of_lt_of_le h (Nat.le_of_lt_succ hR))) (fun x2 x3 x4 S a b j0 j1 j2 j3 h => ih.2 x2 x3 x4 S a b j0 j1 j2 j3 (Nat.lt_of_lt_of_le h (Nat.le_of_lt_succ hR))),
      fun x2 x3 x4 S a b j0 j1 j2 j3 hR => zb_loadMet_3_7_78 p0 S0 n hn G_S0 hp0 hq hl x2 x3 x4 S a b j0 j1 j2 j3 _ rfl (fun x2 x3 x4 S a b j0 j1 j2 j3 h => ih.2 x2 x3 x4 S a b j0 j1 j2 j3 (Nat.lt_of_lt_of_le h (Nat.le_of_lt_succ hR)))⟩
theorem zc_loadMet_3_7 {g : mm_G} {l : Launch} (p0 : Int) (S0 : zz_S) (n : Nat) (hn : zz_end ≤ n) (G_S0 : zz_G S0) (hp0 : (-2147483648) ≤ p0 ∧ p0 ≤ 2147483647) (hq : S0 1076 1 ≤ 970000) (hl : 0 ≤ S0 1076 3 ∧ 0 ≤ S0 1076 4 ∧ 0 ≤ S0 1076 5) : mm_Met g l zy_loadMet_3_7 zr_loadMet_3_7 [.ref 1076, zi p0] (zz_M S0 n) n (zz_QV n (zp_loadMet_3_7 p0 S0)) := by
  refine zz_enter (by decide) (Nat.le_of_ble_eq_true rfl) (zz_less (ls1 := [some (.ref 1076), some (zi p0)]) ⟨rfl, ⟨rfl, trivial⟩⟩ ?_)
  have F_S0 : zz_fr [(1076, 1)] [1029, 1030] (fun _ _ => False) S0 S0 := zz_fr.refl
  have k53 : ∀ (x2 : Int) (x3 : Int) (S : zz_S), zz_G S → zz_fr [(1076, 1)] [1029, 1030] (fun _ _ => False) S0 S → (0 ≤ x2 ∧ x2 ≤ 2147483646) → (0 ≤ x3 ∧ x3 ≤ 2147483647) → (S 1076 1 = S0 1076 1) → zz_E g l zy_loadMet_3_7 zr_loadMet_3_7 (zz_QV n (zp_loadMet_3_7 p0 S0)) S n 53 [some (.ref 1076), some (zi p0), some (zi x2), some (zi x3)] [] 0 0 := fun x2 x3 S a b j0 j1 j2 => (zi_loadMet_3_7 (g := g) (l := l) p0 S0 n hn G_S0 hp0 hq hl _).1 x2 x3 S a b j0 j1 j2 (Nat.lt_succ_self _)
  refine zz_aload_n (x := 1076) rfl zd_3_7_0 ?_
  have g1 := zz_G.r G_S0 1076 3 (-1) 23 rfl rfl
  refine zz_getr (kd := 4) (z := S0 1076 3) zd_3_7_1 zf_Compiler_51 zT_1076 rfl (zz_ltn hn rfl) rfl (by omega) (zz_rf 6 (S0 1076 3)) rfl ?_
  have g2 := zz_G.r G_S0 (zz_rf 6 (S0 1076 3)) 5 (-2147483648) 2147483647 (zR_k6_5 (by omega)) (zB_k6 (by omega))
  refine zz_geti (z := S0 (zz_rf 6 (S0 1076 3)) 5) zd_3_7_4 zf_Compiler_182 (zT_k6 (by omega)) rfl (zN_k6 hn (by omega)) rfl ?_
  refine zz_aload_n (x := 1076) rfl zd_3_7_7 ?_
  have g3 := zz_G.r G_S0 1076 9 (-2147483648) 2147483647 rfl rfl
  refine zz_geti (z := S0 1076 9) zd_3_7_8 zf_Compiler_85 zT_1076 rfl (zz_ltn hn rfl) rfl ?_
  refine zz_imul zd_3_7_11 ?_
  refine zz_nrm (fun v4 hv4 ev4 => ?_)
  refine zz_aload_n (x := 1076) rfl zd_3_7_12 ?_
  have g5 := zz_G.r G_S0 1076 13 (-2147483648) 2147483647 rfl rfl
  refine zz_geti (z := S0 1076 13) zd_3_7_13 zf_Compiler_106 zT_1076 rfl (zz_ltn hn rfl) rfl ?_
  refine zz_iadd zd_3_7_16 ?_
  refine zz_nrm (fun v6 hv6 ev6 => ?_)
  refine zz_aload_n (x := 1076) rfl zd_3_7_17 ?_
  refine zz_getr (kd := 4) (z := S0 1076 3) zd_3_7_18 zf_Compiler_51 zT_1076 rfl (zz_ltn hn rfl) rfl (by omega) (zz_rf 6 (S0 1076 3)) rfl ?_
  have g7 := zz_G.r G_S0 (zz_rf 6 (S0 1076 3)) 6 (-2147483648) 2147483647 (zR_k6_6 (by omega)) (zB_k6 (by omega))
  refine zz_geti (z := S0 (zz_rf 6 (S0 1076 3)) 6) zd_3_7_21 zf_Compiler_185 (zT_k6 (by omega)) rfl (zN_k6 hn (by omega)) rfl ?_
  refine zz_isub zd_3_7_24 ?_
  refine zz_nrm (fun v8 hv8 ev8 => ?_)
  refine zz_istore_n [some (.ref 1076), some (zi p0), some (zi v8)] zd_3_7_25 (by decide) rfl ?_
  refine zz_iload_n (x := v8) rfl zd_3_7_26 ?_
  refine zz_if_lt (by omega) zd_3_7_27 (fun c9 => ?_) (fun c9 => ?_)
  · refine zz_aload_n (x := 1076) rfl zd_3_7_41 ?_
    refine zz_iconst zd_3_7_42 ?_
    refine zz_aload_n (x := 1076) rfl zd_3_7_43 ?_
    have g10 := zz_G.r G_S0 1076 11 (-2147483648) 2147483647 rfl rfl
    refine zz_geti (z := S0 1076 11) zd_3_7_44 zf_Compiler_91 zT_1076 rfl (zz_ltn hn rfl) rfl ?_
    have g11 := zz_G.r G_S0 1076 1 0 1000000 rfl rfl
    have g12 := zz_G.r G_S0 1076 4 (-1) 23 rfl rfl
    have g13 := zz_G.r G_S0 1076 5 (-1) 23 rfl rfl
    refine zz_callVV [zi 0, zi (S0 1076 11)] zd_3_7_47 zk_Compiler_188 zT_1076 (zz_ltn hn rfl) rfl rfl ⟨Nat.le_of_ble_eq_true rfl, Nat.le_of_ble_eq_true rfl⟩ ⟨rfl, rfl⟩ (Nat.zero_le _) (Nat.zero_le _) (zc_clearPlaces_3_9 0 (S0 1076 11) S0 n hn G_S0 (by omega) (by omega) (by omega) (by omega)) (fun S14 hP => ?_)
    obtain ⟨G_S14, fS14, o16⟩ := hP
    have g17 := zz_G.r G_S0 1076 0 0 1 rfl rfl
    have F_S14 := zz_fr.trans F_S0 fS14 rfl (fun a i h => Or.inr (Or.inl (h ▸ zM_k4 (z := (S0 1076 0)) (by omega) rfl)))
    have b18 := zz_rf4 (z := (S0 1076 0)) (by omega)
    have g19 := zz_G.r G_S14 1076 1 0 1000000 rfl rfl
    exact zz_vret zd_3_7_50 rfl (Nat.zero_le _) (Nat.zero_le _) ⟨_, rfl, G_S14, F_S14, by omega⟩
  · refine zz_iload_n (x := v8) rfl zd_3_7_30 ?_
    refine zz_aload_n (x := 1076) rfl zd_3_7_31 ?_
    have g20 := zz_G.r G_S0 1076 4 (-1) 23 rfl rfl
    refine zz_getr (kd := 4) (z := S0 1076 4) zd_3_7_32 zf_Compiler_55 zT_1076 rfl (zz_ltn hn rfl) rfl (by omega) (zz_rf 6 (S0 1076 4)) rfl ?_
    have g21 := zz_G.r G_S0 (zz_rf 6 (S0 1076 4)) 10 (-2147483648) 2147483647 (zR_k6_10 (by omega)) (zB_k6 (by omega))
    refine zz_geti (z := S0 (zz_rf 6 (S0 1076 4)) 10) zd_3_7_35 zf_Compiler_64 (zT_k6 (by omega)) rfl (zN_k6 hn (by omega)) rfl ?_
    refine zz_icmp_lt (by omega) (by omega) zd_3_7_38 (fun c22 => ?_) (fun c22 => ?_)
    · refine zz_iconst zd_3_7_51 ?_
      refine zz_istore_n [some (.ref 1076), some (zi p0), some (zi v8), some (zi 0)] zd_3_7_52 (by decide) rfl ?_
      have g23 := zz_G.r G_S0 1076 1 0 1000000 rfl rfl
      have g24 := zz_G.r G_S0 1076 11 (-2147483648) 2147483647 rfl rfl
      refine zz_less (ls1 := [some (.ref 1076), some (zi p0), some (zi v8), some (zi 0)]) ⟨rfl, ⟨rfl, ⟨rfl, ⟨rfl, trivial⟩⟩⟩⟩ ?_
      exact k53 v8 0 S0 G_S0 F_S0 (by omega) (by omega) (by omega)
    · refine zz_aload_n (x := 1076) rfl zd_3_7_41 ?_
      refine zz_iconst zd_3_7_42 ?_
      refine zz_aload_n (x := 1076) rfl zd_3_7_43 ?_
      have g25 := zz_G.r G_S0 1076 11 (-2147483648) 2147483647 rfl rfl
      refine zz_geti (z := S0 1076 11) zd_3_7_44 zf_Compiler_91 zT_1076 rfl (zz_ltn hn rfl) rfl ?_
      have g26 := zz_G.r G_S0 1076 1 0 1000000 rfl rfl
      have g27 := zz_G.r G_S0 1076 5 (-1) 23 rfl rfl
      refine zz_callVV [zi 0, zi (S0 1076 11)] zd_3_7_47 zk_Compiler_188 zT_1076 (zz_ltn hn rfl) rfl rfl ⟨Nat.le_of_ble_eq_true rfl, Nat.le_of_ble_eq_true rfl⟩ ⟨rfl, rfl⟩ (Nat.zero_le _) (Nat.zero_le _) (zc_clearPlaces_3_9 0 (S0 1076 11) S0 n hn G_S0 (by omega) (by omega) (by omega) (by omega)) (fun S28 hP => ?_)
      obtain ⟨G_S28, fS28, o30⟩ := hP
      have g31 := zz_G.r G_S0 1076 0 0 1 rfl rfl
      have F_S28 := zz_fr.trans F_S0 fS28 rfl (fun a i h => Or.inr (Or.inl (h ▸ zM_k4 (z := (S0 1076 0)) (by omega) rfl)))
      have b32 := zz_rf4 (z := (S0 1076 0)) (by omega)
      have g33 := zz_G.r G_S28 1076 1 0 1000000 rfl rfl
      exact zz_vret zd_3_7_50 rfl (Nat.zero_le _) (Nat.zero_le _) ⟨_, rfl, G_S28, F_S28, by omega⟩
theorem zk_Compiler_155 : mm_Vl "TensorForge$Compiler" 155 9 1 zy_loadMet_3_7 := ⟨zyw_loadMet_3_7, (R_Compiler, F_Compiler, 17), rfl, mm_tb_1 1446 (by decide +kernel) rfl, mm_tb_1 1448 (by decide +kernel) rfl, mm_tb_s 69 (by decide +kernel) rfl⟩
abbrev zy_loadParameters_3_6 : mm_Y := (⟨"TensorForge$Compiler", "loadParameters", "(Z)V"⟩, prog_3_method_6_code, 2, none)
theorem zyw_loadParameters_3_6 : mm_Yw zy_loadParameters_3_6 1 := ⟨mm_tb_1 1427 (by decide +kernel) rfl, mm_tb_1 10 (by decide +kernel) rfl, ⟨by decide, by decide⟩, by decide +kernel⟩
abbrev zy_weightAt_4_14 : mm_Y := (⟨"TensorForge$Layer", "weightAt", "(LTensorForge$Layer;IIII)I"⟩, prog_4_method_14_code, 7, (some .int))
theorem zyw_weightAt_4_14 : mm_Yw zy_weightAt_4_14 5 := ⟨mm_tb_1 890 (by decide +kernel) rfl, mm_tb_1 3 (by decide +kernel) rfl, ⟨by decide, by decide⟩, by decide +kernel⟩
theorem zg_3_5_51 : zq_at zy_makeGroup_3_5.2.1 51 167 ∧ zq_at zy_makeGroup_3_5.2.1 52 0 ∧ zq_at zy_makeGroup_3_5.2.1 53 51 ∧ zq_at zy_makeGroup_3_5.2.1 16 42 ∧ zq_at zy_makeGroup_3_5.2.1 17 27 ∧ zq_at zy_makeGroup_3_5.2.1 18 182 ∧ zq_at zy_makeGroup_3_5.2.1 19 0 ∧ zq_at zy_makeGroup_3_5.2.1 20 151 := by decide +kernel
theorem zd_3_5_51 : zz_B zy_makeGroup_3_5 51 Instr.goto 102 54 := ⟨51, zq_167 zg_3_5_51.1 zg_3_5_51.2.1 zg_3_5_51.2.2.1 (by decide), rfl, rfl⟩
theorem zd_3_5_16 : zz_D zy_makeGroup_3_5 16 (.aload_n 0) 1 17 := ⟨zq_42 zg_3_5_51.2.2.2.1, rfl⟩
theorem zd_3_5_17 : zz_D zy_makeGroup_3_5 17 (.iload_n 1) 1 18 := ⟨zq_27 zg_3_5_51.2.2.2.2.1, rfl⟩
theorem zd_3_5_18 : zz_D zy_makeGroup_3_5 18 (.invokevirtual 151) 3 21 := ⟨zq_182 zg_3_5_51.2.2.2.2.2.1 zg_3_5_51.2.2.2.2.2.2.1 zg_3_5_51.2.2.2.2.2.2.2 rfl, rfl⟩
theorem zg_3_6_0 : zq_at zy_loadParameters_3_6.2.1 0 27 ∧ zq_at zy_loadParameters_3_6.2.1 1 153 ∧ zq_at zy_loadParameters_3_6.2.1 2 0 ∧ zq_at zy_loadParameters_3_6.2.1 3 45 ∧ zq_at zy_loadParameters_3_6.2.1 46 42 ∧ zq_at zy_loadParameters_3_6.2.1 47 5 ∧ zq_at zy_loadParameters_3_6.2.1 48 42 ∧ zq_at zy_loadParameters_3_6.2.1 49 180 ∧ zq_at zy_loadParameters_3_6.2.1 50 0 ∧ zq_at zy_loadParameters_3_6.2.1 51 115 ∧ zq_at zy_loadParameters_3_6.2.1 52 42 ∧ zq_at zy_loadParameters_3_6.2.1 53 180 ∧ zq_at zy_loadParameters_3_6.2.1 54 0 ∧ zq_at zy_loadParameters_3_6.2.1 55 82 ∧ zq_at zy_loadParameters_3_6.2.1 56 184 ∧ zq_at zy_loadParameters_3_6.2.1 57 0 ∧ zq_at zy_loadParameters_3_6.2.1 58 128 ∧ zq_at zy_loadParameters_3_6.2.1 59 16 ∧ zq_at zy_loadParameters_3_6.2.1 60 8 ∧ zq_at zy_loadParameters_3_6.2.1 61 42 ∧ zq_at zy_loadParameters_3_6.2.1 62 182 ∧ zq_at zy_loadParameters_3_6.2.1 63 0 ∧ zq_at zy_loadParameters_3_6.2.1 64 175 := by decide +kernel
theorem zd_3_6_0 : zz_D zy_loadParameters_3_6 0 (.iload_n 1) 1 1 := ⟨zq_27 zg_3_6_0.1, rfl⟩
theorem zd_3_6_1 : zz_B zy_loadParameters_3_6 1 (Instr.ifCond .eq) 46 4 := ⟨45, zq_153 zg_3_6_0.2.1 zg_3_6_0.2.2.1 zg_3_6_0.2.2.2.1 (by decide), rfl, rfl⟩
theorem zd_3_6_46 : zz_D zy_loadParameters_3_6 46 (.aload_n 0) 1 47 := ⟨zq_42 zg_3_6_0.2.2.2.2.1, rfl⟩
theorem zd_3_6_47 : zz_D zy_loadParameters_3_6 47 (.iconst 2) 1 48 := ⟨zq_5 zg_3_6_0.2.2.2.2.2.1, rfl⟩
theorem zd_3_6_48 : zz_D zy_loadParameters_3_6 48 (.aload_n 0) 1 49 := ⟨zq_42 zg_3_6_0.2.2.2.2.2.2.1, rfl⟩
theorem zd_3_6_49 : zz_D zy_loadParameters_3_6 49 (.getfield 115) 3 52 := ⟨zq_180 zg_3_6_0.2.2.2.2.2.2.2.1 zg_3_6_0.2.2.2.2.2.2.2.2.1 zg_3_6_0.2.2.2.2.2.2.2.2.2.1 rfl, rfl⟩
theorem zd_3_6_52 : zz_D zy_loadParameters_3_6 52 (.aload_n 0) 1 53 := ⟨zq_42 zg_3_6_0.2.2.2.2.2.2.2.2.2.2.1, rfl⟩
theorem zd_3_6_53 : zz_D zy_loadParameters_3_6 53 (.getfield 82) 3 56 := ⟨zq_180 zg_3_6_0.2.2.2.2.2.2.2.2.2.2.2.1 zg_3_6_0.2.2.2.2.2.2.2.2.2.2.2.2.1 zg_3_6_0.2.2.2.2.2.2.2.2.2.2.2.2.2.1 rfl, rfl⟩
theorem zd_3_6_56 : zz_D zy_loadParameters_3_6 56 (.invokestatic 128) 3 59 := ⟨zq_184 zg_3_6_0.2.2.2.2.2.2.2.2.2.2.2.2.2.2.1 zg_3_6_0.2.2.2.2.2.2.2.2.2.2.2.2.2.2.2.1 zg_3_6_0.2.2.2.2.2.2.2.2.2.2.2.2.2.2.2.2.1 rfl, rfl⟩
theorem zd_3_6_59 : zz_D zy_loadParameters_3_6 59 (.bipush 8) 2 61 := ⟨zq_16 zg_3_6_0.2.2.2.2.2.2.2.2.2.2.2.2.2.2.2.2.2.1 zg_3_6_0.2.2.2.2.2.2.2.2.2.2.2.2.2.2.2.2.2.2.1 (by decide), rfl⟩
theorem zd_3_6_61 : zz_D zy_loadParameters_3_6 61 (.aload_n 0) 1 62 := ⟨zq_42 zg_3_6_0.2.2.2.2.2.2.2.2.2.2.2.2.2.2.2.2.2.2.2.1, rfl⟩
theorem zd_3_6_62 : zz_D zy_loadParameters_3_6 62 (.invokevirtual 175) 3 65 := ⟨zq_182 zg_3_6_0.2.2.2.2.2.2.2.2.2.2.2.2.2.2.2.2.2.2.2.2.1 zg_3_6_0.2.2.2.2.2.2.2.2.2.2.2.2.2.2.2.2.2.2.2.2.2.1 zg_3_6_0.2.2.2.2.2.2.2.2.2.2.2.2.2.2.2.2.2.2.2.2.2.2 rfl, rfl⟩
theorem zg_3_6_65 : zq_at zy_loadParameters_3_6.2.1 65 184 ∧ zq_at zy_loadParameters_3_6.2.1 66 0 ∧ zq_at zy_loadParameters_3_6.2.1 67 132 ∧ zq_at zy_loadParameters_3_6.2.1 68 129 ∧ zq_at zy_loadParameters_3_6.2.1 69 8 ∧ zq_at zy_loadParameters_3_6.2.1 70 42 ∧ zq_at zy_loadParameters_3_6.2.1 71 180 ∧ zq_at zy_loadParameters_3_6.2.1 72 0 ∧ zq_at zy_loadParameters_3_6.2.1 73 51 ∧ zq_at zy_loadParameters_3_6.2.1 74 42 ∧ zq_at zy_loadParameters_3_6.2.1 75 180 ∧ zq_at zy_loadParameters_3_6.2.1 76 0 ∧ zq_at zy_loadParameters_3_6.2.1 77 55 ∧ zq_at zy_loadParameters_3_6.2.1 78 42 ∧ zq_at zy_loadParameters_3_6.2.1 79 180 ∧ zq_at zy_loadParameters_3_6.2.1 80 0 ∧ zq_at zy_loadParameters_3_6.2.1 81 106 ∧ zq_at zy_loadParameters_3_6.2.1 82 42 ∧ zq_at zy_loadParameters_3_6.2.1 83 180 ∧ zq_at zy_loadParameters_3_6.2.1 84 0 ∧ zq_at zy_loadParameters_3_6.2.1 85 109 ∧ zq_at zy_loadParameters_3_6.2.1 86 42 := by decide +kernel
theorem zd_3_6_65 : zz_D zy_loadParameters_3_6 65 (.invokestatic 132) 3 68 := ⟨zq_184 zg_3_6_65.1 zg_3_6_65.2.1 zg_3_6_65.2.2.1 rfl, rfl⟩
theorem zd_3_6_68 : zz_D zy_loadParameters_3_6 68 (.lor) 1 69 := ⟨zq_129 zg_3_6_65.2.2.2.1, rfl⟩
theorem zd_3_6_69 : zz_D zy_loadParameters_3_6 69 (.iconst 5) 1 70 := ⟨zq_8 zg_3_6_65.2.2.2.2.1, rfl⟩
theorem zd_3_6_70 : zz_D zy_loadParameters_3_6 70 (.aload_n 0) 1 71 := ⟨zq_42 zg_3_6_65.2.2.2.2.2.1, rfl⟩
theorem zd_3_6_71 : zz_D zy_loadParameters_3_6 71 (.getfield 51) 3 74 := ⟨zq_180 zg_3_6_65.2.2.2.2.2.2.1 zg_3_6_65.2.2.2.2.2.2.2.1 zg_3_6_65.2.2.2.2.2.2.2.2.1 rfl, rfl⟩
theorem zd_3_6_74 : zz_D zy_loadParameters_3_6 74 (.aload_n 0) 1 75 := ⟨zq_42 zg_3_6_65.2.2.2.2.2.2.2.2.2.1, rfl⟩
theorem zd_3_6_75 : zz_D zy_loadParameters_3_6 75 (.getfield 55) 3 78 := ⟨zq_180 zg_3_6_65.2.2.2.2.2.2.2.2.2.2.1 zg_3_6_65.2.2.2.2.2.2.2.2.2.2.2.1 zg_3_6_65.2.2.2.2.2.2.2.2.2.2.2.2.1 rfl, rfl⟩
theorem zd_3_6_78 : zz_D zy_loadParameters_3_6 78 (.aload_n 0) 1 79 := ⟨zq_42 zg_3_6_65.2.2.2.2.2.2.2.2.2.2.2.2.2.1, rfl⟩
theorem zd_3_6_79 : zz_D zy_loadParameters_3_6 79 (.getfield 106) 3 82 := ⟨zq_180 zg_3_6_65.2.2.2.2.2.2.2.2.2.2.2.2.2.2.1 zg_3_6_65.2.2.2.2.2.2.2.2.2.2.2.2.2.2.2.1 zg_3_6_65.2.2.2.2.2.2.2.2.2.2.2.2.2.2.2.2.1 rfl, rfl⟩
theorem zd_3_6_82 : zz_D zy_loadParameters_3_6 82 (.aload_n 0) 1 83 := ⟨zq_42 zg_3_6_65.2.2.2.2.2.2.2.2.2.2.2.2.2.2.2.2.2.1, rfl⟩
theorem zd_3_6_83 : zz_D zy_loadParameters_3_6 83 (.getfield 109) 3 86 := ⟨zq_180 zg_3_6_65.2.2.2.2.2.2.2.2.2.2.2.2.2.2.2.2.2.2.1 zg_3_6_65.2.2.2.2.2.2.2.2.2.2.2.2.2.2.2.2.2.2.2.1 zg_3_6_65.2.2.2.2.2.2.2.2.2.2.2.2.2.2.2.2.2.2.2.2.1 rfl, rfl⟩
theorem zd_3_6_86 : zz_D zy_loadParameters_3_6 86 (.aload_n 0) 1 87 := ⟨zq_42 zg_3_6_65.2.2.2.2.2.2.2.2.2.2.2.2.2.2.2.2.2.2.2.2.2, rfl⟩
theorem zg_3_6_87 : zq_at zy_loadParameters_3_6.2.1 87 180 ∧ zq_at zy_loadParameters_3_6.2.1 88 0 ∧ zq_at zy_loadParameters_3_6.2.1 89 112 ∧ zq_at zy_loadParameters_3_6.2.1 90 42 ∧ zq_at zy_loadParameters_3_6.2.1 91 180 ∧ zq_at zy_loadParameters_3_6.2.1 92 0 ∧ zq_at zy_loadParameters_3_6.2.1 93 76 ∧ zq_at zy_loadParameters_3_6.2.1 94 182 ∧ zq_at zy_loadParameters_3_6.2.1 95 0 ∧ zq_at zy_loadParameters_3_6.2.1 96 178 := by decide +kernel
theorem zd_3_6_87 : zz_D zy_loadParameters_3_6 87 (.getfield 112) 3 90 := ⟨zq_180 zg_3_6_87.1 zg_3_6_87.2.1 zg_3_6_87.2.2.1 rfl, rfl⟩
theorem zd_3_6_90 : zz_D zy_loadParameters_3_6 90 (.aload_n 0) 1 91 := ⟨zq_42 zg_3_6_87.2.2.2.1, rfl⟩
theorem zd_3_6_91 : zz_D zy_loadParameters_3_6 91 (.getfield 76) 3 94 := ⟨zq_180 zg_3_6_87.2.2.2.2.1 zg_3_6_87.2.2.2.2.2.1 zg_3_6_87.2.2.2.2.2.2.1 rfl, rfl⟩
theorem zd_3_6_94 : zz_D zy_loadParameters_3_6 94 (.invokevirtual 178) 3 97 := ⟨zq_182 zg_3_6_87.2.2.2.2.2.2.2.1 zg_3_6_87.2.2.2.2.2.2.2.2.1 zg_3_6_87.2.2.2.2.2.2.2.2.2 rfl, rfl⟩
theorem zg_4_14_0 : zq_at zy_weightAt_4_14.2.1 0 28 ∧ zq_at zy_weightAt_4_14.2.1 1 42 ∧ zq_at zy_weightAt_4_14.2.1 2 180 ∧ zq_at zy_weightAt_4_14.2.1 3 0 ∧ zq_at zy_weightAt_4_14.2.1 4 26 ∧ zq_at zy_weightAt_4_14.2.1 5 104 ∧ zq_at zy_weightAt_4_14.2.1 6 29 ∧ zq_at zy_weightAt_4_14.2.1 7 96 ∧ zq_at zy_weightAt_4_14.2.1 8 43 ∧ zq_at zy_weightAt_4_14.2.1 9 180 ∧ zq_at zy_weightAt_4_14.2.1 10 0 ∧ zq_at zy_weightAt_4_14.2.1 11 60 ∧ zq_at zy_weightAt_4_14.2.1 12 104 ∧ zq_at zy_weightAt_4_14.2.1 13 21 ∧ zq_at zy_weightAt_4_14.2.1 14 4 ∧ zq_at zy_weightAt_4_14.2.1 15 96 ∧ zq_at zy_weightAt_4_14.2.1 16 54 ∧ zq_at zy_weightAt_4_14.2.1 17 6 ∧ zq_at zy_weightAt_4_14.2.1 18 42 ∧ zq_at zy_weightAt_4_14.2.1 19 180 ∧ zq_at zy_weightAt_4_14.2.1 20 0 ∧ zq_at zy_weightAt_4_14.2.1 21 42 ∧ zq_at zy_weightAt_4_14.2.1 22 7 ∧ zq_at zy_weightAt_4_14.2.1 23 42 := by decide +kernel
theorem zd_4_14_0 : zz_D zy_weightAt_4_14 0 (.iload_n 2) 1 1 := ⟨zq_28 zg_4_14_0.1, rfl⟩
theorem zd_4_14_1 : zz_D zy_weightAt_4_14 1 (.aload_n 0) 1 2 := ⟨zq_42 zg_4_14_0.2.1, rfl⟩
theorem zd_4_14_2 : zz_D zy_weightAt_4_14 2 (.getfield 26) 3 5 := ⟨zq_180 zg_4_14_0.2.2.1 zg_4_14_0.2.2.2.1 zg_4_14_0.2.2.2.2.1 rfl, rfl⟩
theorem zd_4_14_5 : zz_D zy_weightAt_4_14 5 (.imul) 1 6 := ⟨zq_104 zg_4_14_0.2.2.2.2.2.1, rfl⟩
theorem zd_4_14_6 : zz_D zy_weightAt_4_14 6 (.iload_n 3) 1 7 := ⟨zq_29 zg_4_14_0.2.2.2.2.2.2.1, rfl⟩
theorem zd_4_14_7 : zz_D zy_weightAt_4_14 7 (.iadd) 1 8 := ⟨zq_96 zg_4_14_0.2.2.2.2.2.2.2.1, rfl⟩
theorem zd_4_14_8 : zz_D zy_weightAt_4_14 8 (.aload_n 1) 1 9 := ⟨zq_43 zg_4_14_0.2.2.2.2.2.2.2.2.1, rfl⟩
theorem zd_4_14_9 : zz_D zy_weightAt_4_14 9 (.getfield 60) 3 12 := ⟨zq_180 zg_4_14_0.2.2.2.2.2.2.2.2.2.1 zg_4_14_0.2.2.2.2.2.2.2.2.2.2.1 zg_4_14_0.2.2.2.2.2.2.2.2.2.2.2.1 rfl, rfl⟩
theorem zd_4_14_12 : zz_D zy_weightAt_4_14 12 (.imul) 1 13 := ⟨zq_104 zg_4_14_0.2.2.2.2.2.2.2.2.2.2.2.2.1, rfl⟩
theorem zd_4_14_13 : zz_D zy_weightAt_4_14 13 (.iload 4) 2 15 := ⟨zq_21 zg_4_14_0.2.2.2.2.2.2.2.2.2.2.2.2.2.1 zg_4_14_0.2.2.2.2.2.2.2.2.2.2.2.2.2.2.1, rfl⟩
theorem zd_4_14_15 : zz_D zy_weightAt_4_14 15 (.iadd) 1 16 := ⟨zq_96 zg_4_14_0.2.2.2.2.2.2.2.2.2.2.2.2.2.2.2.1, rfl⟩
theorem zd_4_14_16 : zz_D zy_weightAt_4_14 16 (.istore 6) 2 18 := ⟨zq_54 zg_4_14_0.2.2.2.2.2.2.2.2.2.2.2.2.2.2.2.2.1 zg_4_14_0.2.2.2.2.2.2.2.2.2.2.2.2.2.2.2.2.2.1, rfl⟩
theorem zd_4_14_18 : zz_D zy_weightAt_4_14 18 (.aload_n 0) 1 19 := ⟨zq_42 zg_4_14_0.2.2.2.2.2.2.2.2.2.2.2.2.2.2.2.2.2.2.1, rfl⟩
theorem zd_4_14_19 : zz_D zy_weightAt_4_14 19 (.getfield 42) 3 22 := ⟨zq_180 zg_4_14_0.2.2.2.2.2.2.2.2.2.2.2.2.2.2.2.2.2.2.2.1 zg_4_14_0.2.2.2.2.2.2.2.2.2.2.2.2.2.2.2.2.2.2.2.2.1 zg_4_14_0.2.2.2.2.2.2.2.2.2.2.2.2.2.2.2.2.2.2.2.2.2.1 rfl, rfl⟩
theorem zd_4_14_22 : zz_D zy_weightAt_4_14 22 (.iconst 4) 1 23 := ⟨zq_7 zg_4_14_0.2.2.2.2.2.2.2.2.2.2.2.2.2.2.2.2.2.2.2.2.2.2.1, rfl⟩
theorem zd_4_14_23 : zz_D zy_weightAt_4_14 23 (.aload_n 0) 1 24 := ⟨zq_42 zg_4_14_0.2.2.2.2.2.2.2.2.2.2.2.2.2.2.2.2.2.2.2.2.2.2.2, rfl⟩
theorem zg_4_14_24 : zq_at zy_weightAt_4_14.2.1 24 180 ∧ zq_at zy_weightAt_4_14.2.1 25 0 ∧ zq_at zy_weightAt_4_14.2.1 26 60 ∧ zq_at zy_weightAt_4_14.2.1 27 104 ∧ zq_at zy_weightAt_4_14.2.1 28 96 ∧ zq_at zy_weightAt_4_14.2.1 29 21 ∧ zq_at zy_weightAt_4_14.2.1 30 6 ∧ zq_at zy_weightAt_4_14.2.1 31 42 ∧ zq_at zy_weightAt_4_14.2.1 32 180 ∧ zq_at zy_weightAt_4_14.2.1 33 0 ∧ zq_at zy_weightAt_4_14.2.1 34 60 ∧ zq_at zy_weightAt_4_14.2.1 35 104 ∧ zq_at zy_weightAt_4_14.2.1 36 96 ∧ zq_at zy_weightAt_4_14.2.1 37 21 ∧ zq_at zy_weightAt_4_14.2.1 38 5 ∧ zq_at zy_weightAt_4_14.2.1 39 96 ∧ zq_at zy_weightAt_4_14.2.1 40 172 := by decide +kernel
theorem zd_4_14_24 : zz_D zy_weightAt_4_14 24 (.getfield 60) 3 27 := ⟨zq_180 zg_4_14_24.1 zg_4_14_24.2.1 zg_4_14_24.2.2.1 rfl, rfl⟩
theorem zd_4_14_27 : zz_D zy_weightAt_4_14 27 (.imul) 1 28 := ⟨zq_104 zg_4_14_24.2.2.2.1, rfl⟩
theorem zd_4_14_28 : zz_D zy_weightAt_4_14 28 (.iadd) 1 29 := ⟨zq_96 zg_4_14_24.2.2.2.2.1, rfl⟩
theorem zd_4_14_29 : zz_D zy_weightAt_4_14 29 (.iload 6) 2 31 := ⟨zq_21 zg_4_14_24.2.2.2.2.2.1 zg_4_14_24.2.2.2.2.2.2.1, rfl⟩
theorem zd_4_14_31 : zz_D zy_weightAt_4_14 31 (.aload_n 0) 1 32 := ⟨zq_42 zg_4_14_24.2.2.2.2.2.2.2.1, rfl⟩
theorem zd_4_14_32 : zz_D zy_weightAt_4_14 32 (.getfield 60) 3 35 := ⟨zq_180 zg_4_14_24.2.2.2.2.2.2.2.2.1 zg_4_14_24.2.2.2.2.2.2.2.2.2.1 zg_4_14_24.2.2.2.2.2.2.2.2.2.2.1 rfl, rfl⟩
theorem zd_4_14_35 : zz_D zy_weightAt_4_14 35 (.imul) 1 36 := ⟨zq_104 zg_4_14_24.2.2.2.2.2.2.2.2.2.2.2.1, rfl⟩
theorem zd_4_14_36 : zz_D zy_weightAt_4_14 36 (.iadd) 1 37 := ⟨zq_96 zg_4_14_24.2.2.2.2.2.2.2.2.2.2.2.2.1, rfl⟩
theorem zd_4_14_37 : zz_D zy_weightAt_4_14 37 (.iload 5) 2 39 := ⟨zq_21 zg_4_14_24.2.2.2.2.2.2.2.2.2.2.2.2.2.1 zg_4_14_24.2.2.2.2.2.2.2.2.2.2.2.2.2.2.1, rfl⟩
theorem zd_4_14_39 : zz_D zy_weightAt_4_14 39 (.iadd) 1 40 := ⟨zq_96 zg_4_14_24.2.2.2.2.2.2.2.2.2.2.2.2.2.2.2.1, rfl⟩
theorem zd_4_14_40 : zz_D zy_weightAt_4_14 40 (.ireturn) 1 41 := ⟨zq_172 zg_4_14_24.2.2.2.2.2.2.2.2.2.2.2.2.2.2.2.2, rfl⟩
-- TensorForge$Layer weightAt (LTensorForge$Layer;IIII)I
abbrev zr_weightAt_4_14 : Room := { frames := 0, cells := 0, slots := 0, locals := 0 }
def zp_weightAt_4_14 (t : Int) (p0 : Int) (p1 : Int) (p2 : Int) (p3 : Int) (p4 : Int) (S0 : zz_S) : Int → zz_S → Prop := fun r S => S0 = S ∧ ((-2147483648) ≤ r ∧ r ≤ 2147483647)
theorem zc_weightAt_4_14 {g : mm_G} {l : Launch} (t : Int) (p0 : Int) (p1 : Int) (p2 : Int) (p3 : Int) (p4 : Int) (S0 : zz_S) (n : Nat) (hn : zz_end ≤ n) (G_S0 : zz_G S0) (ht : 0 ≤ t ∧ t ≤ 23) (hp0 : 0 ≤ p0 ∧ p0 ≤ 23) (hp1 : (-2147483648) ≤ p1 ∧ p1 ≤ 2147483647) (hp2 : (-2147483648) ≤ p2 ∧ p2 ≤ 2147483647) (hp3 : (-2147483648) ≤ p3 ∧ p3 ≤ 2147483647) (hp4 : (-2147483648) ≤ p4 ∧ p4 ≤ 2147483647) : mm_Met g l zy_weightAt_4_14 zr_weightAt_4_14 [.ref (zz_rf 6 t), .ref (zz_rf 6 p0), zi p1, zi p2, zi p3, zi p4] (zz_M S0 n) n (zz_QI n (zp_weightAt_4_14 t p0 p1 p2 p3 p4 S0)) := by
  refine zz_enter (by decide) (Nat.le_of_ble_eq_true rfl) (zz_less (ls1 := [some (.ref (zz_rf 6 t)), some (.ref (zz_rf 6 p0)), some (zi p1), some (zi p2), some (zi p3), some (zi p4)]) ⟨rfl, ⟨rfl, ⟨rfl, ⟨rfl, ⟨rfl, ⟨rfl, trivial⟩⟩⟩⟩⟩⟩ ?_)
  have b_p0 := zz_rf6 (z := p0) (by omega)
  have b_t := zz_rf6 (z := t) (by omega)
  refine zz_iload_n (x := p1) rfl zd_4_14_0 ?_
  refine zz_aload_n (x := zz_rf 6 t) rfl zd_4_14_1 ?_
  have g1 := zz_G.r G_S0 (zz_rf 6 t) 4 (-2147483648) 2147483647 (zR_k6_4 (by omega)) (zB_k6 (by omega))
  refine zz_geti (z := S0 (zz_rf 6 t) 4) zd_4_14_2 zf_Layer_26 (zT_k6 (by omega)) rfl (zN_k6 hn (by omega)) rfl ?_
  refine zz_imul zd_4_14_5 ?_
  refine zz_nrm (fun v2 hv2 ev2 => ?_)
  refine zz_iload_n (x := p2) rfl zd_4_14_6 ?_
  refine zz_iadd zd_4_14_7 ?_
  refine zz_nrm (fun v3 hv3 ev3 => ?_)
  refine zz_aload_n (x := zz_rf 6 p0) rfl zd_4_14_8 ?_
  have g4 := zz_G.r G_S0 (zz_rf 6 p0) 12 (-2147483648) 2147483647 (zR_k6_12 (by omega)) (zB_k6 (by omega))
  refine zz_geti (z := S0 (zz_rf 6 p0) 12) zd_4_14_9 zf_Layer_60 (zT_k6 (by omega)) rfl (zN_k6 hn (by omega)) rfl ?_
  refine zz_imul zd_4_14_12 ?_
  refine zz_nrm (fun v5 hv5 ev5 => ?_)
  refine zz_iload (x := p3) rfl zd_4_14_13 ?_
  refine zz_iadd zd_4_14_15 ?_
  refine zz_nrm (fun v6 hv6 ev6 => ?_)
  refine zz_istore [some (.ref (zz_rf 6 t)), some (.ref (zz_rf 6 p0)), some (zi p1), some (zi p2), some (zi p3), some (zi p4), some (zi v6)] zd_4_14_16 (by decide) rfl ?_
  refine zz_aload_n (x := zz_rf 6 t) rfl zd_4_14_18 ?_
  have g7 := zz_G.r G_S0 (zz_rf 6 t) 9 (-2147483648) 2147483647 (zR_k6_9 (by omega)) (zB_k6 (by omega))
  refine zz_geti (z := S0 (zz_rf 6 t) 9) zd_4_14_19 zf_Layer_42 (zT_k6 (by omega)) rfl (zN_k6 hn (by omega)) rfl ?_
  refine zz_iconst zd_4_14_22 ?_
  refine zz_aload_n (x := zz_rf 6 t) rfl zd_4_14_23 ?_
  have g8 := zz_G.r G_S0 (zz_rf 6 t) 12 (-2147483648) 2147483647 (zR_k6_12 (by omega)) (zB_k6 (by omega))
  refine zz_geti (z := S0 (zz_rf 6 t) 12) zd_4_14_24 zf_Layer_60 (zT_k6 (by omega)) rfl (zN_k6 hn (by omega)) rfl ?_
  refine zz_imul zd_4_14_27 ?_
  refine zz_nrm (fun v9 hv9 ev9 => ?_)
  refine zz_iadd zd_4_14_28 ?_
  refine zz_nrm (fun v10 hv10 ev10 => ?_)
  refine zz_iload (x := v6) rfl zd_4_14_29 ?_
  refine zz_aload_n (x := zz_rf 6 t) rfl zd_4_14_31 ?_
  refine zz_geti (z := S0 (zz_rf 6 t) 12) zd_4_14_32 zf_Layer_60 (zT_k6 (by omega)) rfl (zN_k6 hn (by omega)) rfl ?_
  refine zz_imul zd_4_14_35 ?_
  refine zz_nrm (fun v11 hv11 ev11 => ?_)
  refine zz_iadd zd_4_14_36 ?_
  refine zz_nrm (fun v12 hv12 ev12 => ?_)
  refine zz_iload (x := p4) rfl zd_4_14_37 ?_
  refine zz_iadd zd_4_14_39 ?_
  refine zz_nrm (fun v13 hv13 ev13 => ?_)
  exact zz_iret zd_4_14_40 rfl (Nat.zero_le _) (Nat.zero_le _) ⟨_, _, rfl, rfl, by omega⟩
theorem zk_Compiler_178 : mm_Vl "TensorForge$Compiler" 178 2 5 zy_weightAt_4_14 := ⟨zyw_weightAt_4_14, (R_Layer, F_Layer, 15), rfl, mm_tb_1 1445 (by decide +kernel) rfl, mm_tb_1 888 (by decide +kernel) rfl, mm_tb_1 889 (by decide +kernel) rfl⟩
abbrev zy_biasAt_4_13 : mm_Y := (⟨"TensorForge$Layer", "biasAt", "(I)I"⟩, prog_4_method_13_code, 2, (some .int))
theorem zyw_biasAt_4_13 : mm_Yw zy_biasAt_4_13 1 := ⟨mm_tb_1 881 (by decide +kernel) rfl, mm_tb_1 3 (by decide +kernel) rfl, ⟨by decide, by decide⟩, by decide +kernel⟩
theorem zg_3_6_97 : zq_at zy_loadParameters_3_6.2.1 97 184 ∧ zq_at zy_loadParameters_3_6.2.1 98 0 ∧ zq_at zy_loadParameters_3_6.2.1 99 132 ∧ zq_at zy_loadParameters_3_6.2.1 100 129 ∧ zq_at zy_loadParameters_3_6.2.1 101 16 ∧ zq_at zy_loadParameters_3_6.2.1 102 10 ∧ zq_at zy_loadParameters_3_6.2.1 103 42 ∧ zq_at zy_loadParameters_3_6.2.1 104 180 ∧ zq_at zy_loadParameters_3_6.2.1 105 0 ∧ zq_at zy_loadParameters_3_6.2.1 106 51 ∧ zq_at zy_loadParameters_3_6.2.1 107 180 ∧ zq_at zy_loadParameters_3_6.2.1 108 0 ∧ zq_at zy_loadParameters_3_6.2.1 109 79 ∧ zq_at zy_loadParameters_3_6.2.1 110 184 ∧ zq_at zy_loadParameters_3_6.2.1 111 0 ∧ zq_at zy_loadParameters_3_6.2.1 112 132 ∧ zq_at zy_loadParameters_3_6.2.1 113 129 ∧ zq_at zy_loadParameters_3_6.2.1 114 182 ∧ zq_at zy_loadParameters_3_6.2.1 115 0 ∧ zq_at zy_loadParameters_3_6.2.1 116 143 ∧ zq_at zy_loadParameters_3_6.2.1 117 177 ∧ zq_at zy_loadParameters_3_6.2.1 4 42 ∧ zq_at zy_loadParameters_3_6.2.1 5 7 ∧ zq_at zy_loadParameters_3_6.2.1 6 42 := by decide +kernel
theorem zd_3_6_97 : zz_D zy_loadParameters_3_6 97 (.invokestatic 132) 3 100 := ⟨zq_184 zg_3_6_97.1 zg_3_6_97.2.1 zg_3_6_97.2.2.1 rfl, rfl⟩
theorem zd_3_6_100 : zz_D zy_loadParameters_3_6 100 (.lor) 1 101 := ⟨zq_129 zg_3_6_97.2.2.2.1, rfl⟩
theorem zd_3_6_101 : zz_D zy_loadParameters_3_6 101 (.bipush 10) 2 103 := ⟨zq_16 zg_3_6_97.2.2.2.2.1 zg_3_6_97.2.2.2.2.2.1 (by decide), rfl⟩
theorem zd_3_6_103 : zz_D zy_loadParameters_3_6 103 (.aload_n 0) 1 104 := ⟨zq_42 zg_3_6_97.2.2.2.2.2.2.1, rfl⟩
theorem zd_3_6_104 : zz_D zy_loadParameters_3_6 104 (.getfield 51) 3 107 := ⟨zq_180 zg_3_6_97.2.2.2.2.2.2.2.1 zg_3_6_97.2.2.2.2.2.2.2.2.1 zg_3_6_97.2.2.2.2.2.2.2.2.2.1 rfl, rfl⟩
theorem zd_3_6_107 : zz_D zy_loadParameters_3_6 107 (.getfield 79) 3 110 := ⟨zq_180 zg_3_6_97.2.2.2.2.2.2.2.2.2.2.1 zg_3_6_97.2.2.2.2.2.2.2.2.2.2.2.1 zg_3_6_97.2.2.2.2.2.2.2.2.2.2.2.2.1 rfl, rfl⟩
theorem zd_3_6_110 : zz_D zy_loadParameters_3_6 110 (.invokestatic 132) 3 113 := ⟨zq_184 zg_3_6_97.2.2.2.2.2.2.2.2.2.2.2.2.2.1 zg_3_6_97.2.2.2.2.2.2.2.2.2.2.2.2.2.2.1 zg_3_6_97.2.2.2.2.2.2.2.2.2.2.2.2.2.2.2.1 rfl, rfl⟩
theorem zd_3_6_113 : zz_D zy_loadParameters_3_6 113 (.lor) 1 114 := ⟨zq_129 zg_3_6_97.2.2.2.2.2.2.2.2.2.2.2.2.2.2.2.2.1, rfl⟩
theorem zd_3_6_114 : zz_D zy_loadParameters_3_6 114 (.invokevirtual 143) 3 117 := ⟨zq_182 zg_3_6_97.2.2.2.2.2.2.2.2.2.2.2.2.2.2.2.2.2.1 zg_3_6_97.2.2.2.2.2.2.2.2.2.2.2.2.2.2.2.2.2.2.1 zg_3_6_97.2.2.2.2.2.2.2.2.2.2.2.2.2.2.2.2.2.2.2.1 rfl, rfl⟩
theorem zd_3_6_117 : zz_D zy_loadParameters_3_6 117 (.return_) 1 118 := ⟨zq_177 zg_3_6_97.2.2.2.2.2.2.2.2.2.2.2.2.2.2.2.2.2.2.2.2.1, rfl⟩
theorem zd_3_6_4 : zz_D zy_loadParameters_3_6 4 (.aload_n 0) 1 5 := ⟨zq_42 zg_3_6_97.2.2.2.2.2.2.2.2.2.2.2.2.2.2.2.2.2.2.2.2.2.1, rfl⟩
theorem zd_3_6_5 : zz_D zy_loadParameters_3_6 5 (.iconst 4) 1 6 := ⟨zq_7 zg_3_6_97.2.2.2.2.2.2.2.2.2.2.2.2.2.2.2.2.2.2.2.2.2.2.1, rfl⟩
theorem zd_3_6_6 : zz_D zy_loadParameters_3_6 6 (.aload_n 0) 1 7 := ⟨zq_42 zg_3_6_97.2.2.2.2.2.2.2.2.2.2.2.2.2.2.2.2.2.2.2.2.2.2.2, rfl⟩
theorem zg_3_6_7 : zq_at zy_loadParameters_3_6.2.1 7 180 ∧ zq_at zy_loadParameters_3_6.2.1 8 0 ∧ zq_at zy_loadParameters_3_6.2.1 9 91 ∧ zq_at zy_loadParameters_3_6.2.1 10 42 ∧ zq_at zy_loadParameters_3_6.2.1 11 180 ∧ zq_at zy_loadParameters_3_6.2.1 12 0 ∧ zq_at zy_loadParameters_3_6.2.1 13 82 ∧ zq_at zy_loadParameters_3_6.2.1 14 184 ∧ zq_at zy_loadParameters_3_6.2.1 15 0 ∧ zq_at zy_loadParameters_3_6.2.1 16 128 ∧ zq_at zy_loadParameters_3_6.2.1 17 16 ∧ zq_at zy_loadParameters_3_6.2.1 18 8 ∧ zq_at zy_loadParameters_3_6.2.1 19 42 ∧ zq_at zy_loadParameters_3_6.2.1 20 182 ∧ zq_at zy_loadParameters_3_6.2.1 21 0 ∧ zq_at zy_loadParameters_3_6.2.1 22 122 ∧ zq_at zy_loadParameters_3_6.2.1 23 184 ∧ zq_at zy_loadParameters_3_6.2.1 24 0 ∧ zq_at zy_loadParameters_3_6.2.1 25 132 ∧ zq_at zy_loadParameters_3_6.2.1 26 129 ∧ zq_at zy_loadParameters_3_6.2.1 27 8 ∧ zq_at zy_loadParameters_3_6.2.1 28 42 := by decide +kernel
theorem zd_3_6_7 : zz_D zy_loadParameters_3_6 7 (.getfield 91) 3 10 := ⟨zq_180 zg_3_6_7.1 zg_3_6_7.2.1 zg_3_6_7.2.2.1 rfl, rfl⟩
theorem zd_3_6_10 : zz_D zy_loadParameters_3_6 10 (.aload_n 0) 1 11 := ⟨zq_42 zg_3_6_7.2.2.2.1, rfl⟩
theorem zd_3_6_11 : zz_D zy_loadParameters_3_6 11 (.getfield 82) 3 14 := ⟨zq_180 zg_3_6_7.2.2.2.2.1 zg_3_6_7.2.2.2.2.2.1 zg_3_6_7.2.2.2.2.2.2.1 rfl, rfl⟩
theorem zd_3_6_14 : zz_D zy_loadParameters_3_6 14 (.invokestatic 128) 3 17 := ⟨zq_184 zg_3_6_7.2.2.2.2.2.2.2.1 zg_3_6_7.2.2.2.2.2.2.2.2.1 zg_3_6_7.2.2.2.2.2.2.2.2.2.1 rfl, rfl⟩
theorem zd_3_6_17 : zz_D zy_loadParameters_3_6 17 (.bipush 8) 2 19 := ⟨zq_16 zg_3_6_7.2.2.2.2.2.2.2.2.2.2.1 zg_3_6_7.2.2.2.2.2.2.2.2.2.2.2.1 (by decide), rfl⟩
theorem zd_3_6_19 : zz_D zy_loadParameters_3_6 19 (.aload_n 0) 1 20 := ⟨zq_42 zg_3_6_7.2.2.2.2.2.2.2.2.2.2.2.2.1, rfl⟩
theorem zd_3_6_20 : zz_D zy_loadParameters_3_6 20 (.invokevirtual 122) 3 23 := ⟨zq_182 zg_3_6_7.2.2.2.2.2.2.2.2.2.2.2.2.2.1 zg_3_6_7.2.2.2.2.2.2.2.2.2.2.2.2.2.2.1 zg_3_6_7.2.2.2.2.2.2.2.2.2.2.2.2.2.2.2.1 rfl, rfl⟩
theorem zd_3_6_23 : zz_D zy_loadParameters_3_6 23 (.invokestatic 132) 3 26 := ⟨zq_184 zg_3_6_7.2.2.2.2.2.2.2.2.2.2.2.2.2.2.2.2.1 zg_3_6_7.2.2.2.2.2.2.2.2.2.2.2.2.2.2.2.2.2.1 zg_3_6_7.2.2.2.2.2.2.2.2.2.2.2.2.2.2.2.2.2.2.1 rfl, rfl⟩
theorem zd_3_6_26 : zz_D zy_loadParameters_3_6 26 (.lor) 1 27 := ⟨zq_129 zg_3_6_7.2.2.2.2.2.2.2.2.2.2.2.2.2.2.2.2.2.2.2.1, rfl⟩
theorem zd_3_6_27 : zz_D zy_loadParameters_3_6 27 (.iconst 5) 1 28 := ⟨zq_8 zg_3_6_7.2.2.2.2.2.2.2.2.2.2.2.2.2.2.2.2.2.2.2.2.1, rfl⟩
theorem zd_3_6_28 : zz_D zy_loadParameters_3_6 28 (.aload_n 0) 1 29 := ⟨zq_42 zg_3_6_7.2.2.2.2.2.2.2.2.2.2.2.2.2.2.2.2.2.2.2.2.2, rfl⟩
theorem zg_3_6_29 : zq_at zy_loadParameters_3_6.2.1 29 180 ∧ zq_at zy_loadParameters_3_6.2.1 30 0 ∧ zq_at zy_loadParameters_3_6.2.1 31 51 ∧ zq_at zy_loadParameters_3_6.2.1 32 42 ∧ zq_at zy_loadParameters_3_6.2.1 33 180 ∧ zq_at zy_loadParameters_3_6.2.1 34 0 ∧ zq_at zy_loadParameters_3_6.2.1 35 76 ∧ zq_at zy_loadParameters_3_6.2.1 36 182 ∧ zq_at zy_loadParameters_3_6.2.1 37 0 ∧ zq_at zy_loadParameters_3_6.2.1 38 171 := by decide +kernel
theorem zd_3_6_29 : zz_D zy_loadParameters_3_6 29 (.getfield 51) 3 32 := ⟨zq_180 zg_3_6_29.1 zg_3_6_29.2.1 zg_3_6_29.2.2.1 rfl, rfl⟩
theorem zd_3_6_32 : zz_D zy_loadParameters_3_6 32 (.aload_n 0) 1 33 := ⟨zq_42 zg_3_6_29.2.2.2.1, rfl⟩
theorem zd_3_6_33 : zz_D zy_loadParameters_3_6 33 (.getfield 76) 3 36 := ⟨zq_180 zg_3_6_29.2.2.2.2.1 zg_3_6_29.2.2.2.2.2.1 zg_3_6_29.2.2.2.2.2.2.1 rfl, rfl⟩
theorem zd_3_6_36 : zz_D zy_loadParameters_3_6 36 (.invokevirtual 171) 3 39 := ⟨zq_182 zg_3_6_29.2.2.2.2.2.2.2.1 zg_3_6_29.2.2.2.2.2.2.2.2.1 zg_3_6_29.2.2.2.2.2.2.2.2.2 rfl, rfl⟩
theorem zg_4_13_0 : zq_at zy_biasAt_4_13.2.1 0 42 ∧ zq_at zy_biasAt_4_13.2.1 1 180 ∧ zq_at zy_biasAt_4_13.2.1 2 0 ∧ zq_at zy_biasAt_4_13.2.1 3 42 ∧ zq_at zy_biasAt_4_13.2.1 4 7 ∧ zq_at zy_biasAt_4_13.2.1 5 27 ∧ zq_at zy_biasAt_4_13.2.1 6 104 ∧ zq_at zy_biasAt_4_13.2.1 7 96 ∧ zq_at zy_biasAt_4_13.2.1 8 172 := by decide +kernel
theorem zd_4_13_0 : zz_D zy_biasAt_4_13 0 (.aload_n 0) 1 1 := ⟨zq_42 zg_4_13_0.1, rfl⟩
theorem zd_4_13_1 : zz_D zy_biasAt_4_13 1 (.getfield 42) 3 4 := ⟨zq_180 zg_4_13_0.2.1 zg_4_13_0.2.2.1 zg_4_13_0.2.2.2.1 rfl, rfl⟩
theorem zd_4_13_4 : zz_D zy_biasAt_4_13 4 (.iconst 4) 1 5 := ⟨zq_7 zg_4_13_0.2.2.2.2.1, rfl⟩
theorem zd_4_13_5 : zz_D zy_biasAt_4_13 5 (.iload_n 1) 1 6 := ⟨zq_27 zg_4_13_0.2.2.2.2.2.1, rfl⟩
theorem zd_4_13_6 : zz_D zy_biasAt_4_13 6 (.imul) 1 7 := ⟨zq_104 zg_4_13_0.2.2.2.2.2.2.1, rfl⟩
theorem zd_4_13_7 : zz_D zy_biasAt_4_13 7 (.iadd) 1 8 := ⟨zq_96 zg_4_13_0.2.2.2.2.2.2.2.1, rfl⟩
theorem zd_4_13_8 : zz_D zy_biasAt_4_13 8 (.ireturn) 1 9 := ⟨zq_172 zg_4_13_0.2.2.2.2.2.2.2.2, rfl⟩
-- TensorForge$Layer biasAt (I)I
abbrev zr_biasAt_4_13 : Room := { frames := 0, cells := 0, slots := 0, locals := 0 }
def zp_biasAt_4_13 (t : Int) (p0 : Int) (S0 : zz_S) : Int → zz_S → Prop := fun r S => S0 = S ∧ ((-2147483648) ≤ r ∧ r ≤ 2147483647)
theorem zc_biasAt_4_13 {g : mm_G} {l : Launch} (t : Int) (p0 : Int) (S0 : zz_S) (n : Nat) (hn : zz_end ≤ n) (G_S0 : zz_G S0) (ht : 0 ≤ t ∧ t ≤ 23) (hp0 : (-2147483648) ≤ p0 ∧ p0 ≤ 2147483647) : mm_Met g l zy_biasAt_4_13 zr_biasAt_4_13 [.ref (zz_rf 6 t), zi p0] (zz_M S0 n) n (zz_QI n (zp_biasAt_4_13 t p0 S0)) := by
  refine zz_enter (by decide) (Nat.le_of_ble_eq_true rfl) (zz_less (ls1 := [some (.ref (zz_rf 6 t)), some (zi p0)]) ⟨rfl, ⟨rfl, trivial⟩⟩ ?_)
  have b_t := zz_rf6 (z := t) (by omega)
  refine zz_aload_n (x := zz_rf 6 t) rfl zd_4_13_0 ?_
  have g1 := zz_G.r G_S0 (zz_rf 6 t) 9 (-2147483648) 2147483647 (zR_k6_9 (by omega)) (zB_k6 (by omega))
  refine zz_geti (z := S0 (zz_rf 6 t) 9) zd_4_13_1 zf_Layer_42 (zT_k6 (by omega)) rfl (zN_k6 hn (by omega)) rfl ?_
  refine zz_iconst zd_4_13_4 ?_
  refine zz_iload_n (x := p0) rfl zd_4_13_5 ?_
  refine zz_imul zd_4_13_6 ?_
  refine zz_nrm (fun v2 hv2 ev2 => ?_)
  refine zz_iadd zd_4_13_7 ?_
  refine zz_nrm (fun v3 hv3 ev3 => ?_)
  exact zz_iret zd_4_13_8 rfl (Nat.zero_le _) (Nat.zero_le _) ⟨_, _, rfl, rfl, by omega⟩
theorem zk_Compiler_171 : mm_Vl "TensorForge$Compiler" 171 2 1 zy_biasAt_4_13 := ⟨zyw_biasAt_4_13, (R_Layer, F_Layer, 15), rfl, mm_tb_1 1436 (by decide +kernel) rfl, mm_tb_1 879 (by decide +kernel) rfl, mm_tb_1 880 (by decide +kernel) rfl⟩
theorem zg_3_6_39 : zq_at zy_loadParameters_3_6.2.1 39 184 ∧ zq_at zy_loadParameters_3_6.2.1 40 0 ∧ zq_at zy_loadParameters_3_6.2.1 41 132 ∧ zq_at zy_loadParameters_3_6.2.1 42 129 ∧ zq_at zy_loadParameters_3_6.2.1 43 182 ∧ zq_at zy_loadParameters_3_6.2.1 44 0 ∧ zq_at zy_loadParameters_3_6.2.1 45 143 := by decide +kernel
theorem zd_3_6_39 : zz_D zy_loadParameters_3_6 39 (.invokestatic 132) 3 42 := ⟨zq_184 zg_3_6_39.1 zg_3_6_39.2.1 zg_3_6_39.2.2.1 rfl, rfl⟩
theorem zd_3_6_42 : zz_D zy_loadParameters_3_6 42 (.lor) 1 43 := ⟨zq_129 zg_3_6_39.2.2.2.1, rfl⟩
theorem zd_3_6_43 : zz_D zy_loadParameters_3_6 43 (.invokevirtual 143) 3 46 := ⟨zq_182 zg_3_6_39.2.2.2.2.1 zg_3_6_39.2.2.2.2.2.1 zg_3_6_39.2.2.2.2.2.2 rfl, rfl⟩
-- TensorForge$Compiler loadParameters (Z)V
abbrev zr_loadParameters_3_6 : Room := { frames := 1, cells := 0, slots := 0, locals := 22 }
def zp_loadParameters_3_6 (p0 : Int) (S0 : zz_S) : zz_S → Prop := fun S => zz_G S ∧ zz_fr [(1076, 1)] [1029, 1030] (fun _ _ => False) S0 S ∧ (S0 1076 1 ≤ S 1076 1 ∧ S 1076 1 ≤ S0 1076 1 + 2)
theorem zc_loadParameters_3_6 {g : mm_G} {l : Launch} (p0 : Int) (S0 : zz_S) (n : Nat) (hn : zz_end ≤ n) (G_S0 : zz_G S0) (hp0 : 0 ≤ p0 ∧ p0 ≤ 1) (hq : S0 1076 1 ≤ 970000) (hl : 0 ≤ S0 1076 3 ∧ 0 ≤ S0 1076 4 ∧ 0 ≤ S0 1076 5) : mm_Met g l zy_loadParameters_3_6 zr_loadParameters_3_6 [.ref 1076, zi p0] (zz_M S0 n) n (zz_QV n (zp_loadParameters_3_6 p0 S0)) := by
  refine zz_enter (by decide) (Nat.le_of_ble_eq_true rfl) (zz_less (ls1 := [some (.ref 1076), some (zi p0)]) ⟨rfl, ⟨rfl, trivial⟩⟩ ?_)
  have F_S0 : zz_fr [(1076, 1)] [1029, 1030] (fun _ _ => False) S0 S0 := zz_fr.refl
  refine zz_iload_n (x := p0) rfl zd_3_6_0 ?_
  refine zz_if_eq (by omega) zd_3_6_1 (fun c1 => ?_) (fun c1 => ?_)
  · refine zz_aload_n (x := 1076) rfl zd_3_6_46 ?_
    refine zz_iconst zd_3_6_47 ?_
    refine zz_aload_n (x := 1076) rfl zd_3_6_48 ?_
    have g2 := zz_G.r G_S0 1076 16 (-2147483648) 2147483647 rfl rfl
    refine zz_geti (z := S0 1076 16) zd_3_6_49 zf_Compiler_115 zT_1076 rfl (zz_ltn hn rfl) rfl ?_
    refine zz_aload_n (x := 1076) rfl zd_3_6_52 ?_
    have g3 := zz_G.r G_S0 1076 8 (-2147483648) 2147483647 rfl rfl
    refine zz_geti (z := S0 1076 8) zd_3_6_53 zf_Compiler_82 zT_1076 rfl (zz_ltn hn rfl) rfl ?_
    refine zz_callSJ [zi 2, zi (S0 1076 16), zi (S0 1076 8)] zd_3_6_56 zk_Compiler_128 rfl rfl ⟨Nat.le_of_ble_eq_true rfl, Nat.le_of_ble_eq_true rfl⟩ ⟨rfl, rfl⟩ (Nat.zero_le _) (Nat.zero_le _) (zc_shaped_12_6 2 (S0 1076 16) (S0 1076 8) S0 n hn G_S0 (by omega) (by omega) (by omega)) (fun v5 S4 hP => ?_)
    obtain ⟨rfl, o6⟩ := hP
    refine zz_bipush (by decide) zd_3_6_59 ?_
    refine zz_aload_n (x := 1076) rfl zd_3_6_61 ?_
    refine zz_callVI [] zd_3_6_62 zk_Compiler_175 zT_1076 (zz_ltn hn rfl) rfl rfl ⟨Nat.le_of_ble_eq_true rfl, Nat.le_of_ble_eq_true rfl⟩ ⟨rfl, rfl⟩ (Nat.zero_le _) (Nat.zero_le _) (zc_groupHalf_3_14  S0 n hn G_S0 ) (fun v8 S7 hP => ?_)
    obtain ⟨rfl, o9⟩ := hP
    refine zz_callSJ [zi 8, zi v8] zd_3_6_65 zk_Compiler_132 rfl rfl ⟨Nat.le_of_ble_eq_true rfl, Nat.le_of_ble_eq_true rfl⟩ ⟨rfl, rfl⟩ (Nat.zero_le _) (Nat.zero_le _) (zc_bits_12_4 8 v8 S0 n hn G_S0 (by omega) (by omega)) (fun v11 S10 hP => ?_)
    obtain ⟨rfl, o12⟩ := hP
    refine zz_lor zd_3_6_68 (fun v13 hv13 ev13 => ?_)
    refine zz_iconst zd_3_6_69 ?_
    refine zz_aload_n (x := 1076) rfl zd_3_6_70 ?_
    have g14 := zz_G.r G_S0 1076 3 (-1) 23 rfl rfl
    refine zz_getr (kd := 4) (z := S0 1076 3) zd_3_6_71 zf_Compiler_51 zT_1076 rfl (zz_ltn hn rfl) rfl (by omega) (zz_rf 6 (S0 1076 3)) rfl ?_
    refine zz_aload_n (x := 1076) rfl zd_3_6_74 ?_
    have g15 := zz_G.r G_S0 1076 4 (-1) 23 rfl rfl
    refine zz_getr (kd := 4) (z := S0 1076 4) zd_3_6_75 zf_Compiler_55 zT_1076 rfl (zz_ltn hn rfl) rfl (by omega) (zz_rf 6 (S0 1076 4)) rfl ?_
    refine zz_aload_n (x := 1076) rfl zd_3_6_78 ?_
    have g16 := zz_G.r G_S0 1076 13 (-2147483648) 2147483647 rfl rfl
    refine zz_geti (z := S0 1076 13) zd_3_6_79 zf_Compiler_106 zT_1076 rfl (zz_ltn hn rfl) rfl ?_
    refine zz_aload_n (x := 1076) rfl zd_3_6_82 ?_
    have g17 := zz_G.r G_S0 1076 14 (-2147483648) 2147483647 rfl rfl
    refine zz_geti (z := S0 1076 14) zd_3_6_83 zf_Compiler_109 zT_1076 rfl (zz_ltn hn rfl) rfl ?_
    refine zz_aload_n (x := 1076) rfl zd_3_6_86 ?_
    have g18 := zz_G.r G_S0 1076 15 (-2147483648) 2147483647 rfl rfl
    refine zz_geti (z := S0 1076 15) zd_3_6_87 zf_Compiler_112 zT_1076 rfl (zz_ltn hn rfl) rfl ?_
    refine zz_aload_n (x := 1076) rfl zd_3_6_90 ?_
    have g19 := zz_G.r G_S0 1076 7 (-2147483648) 2147483647 rfl rfl
    refine zz_geti (z := S0 1076 7) zd_3_6_91 zf_Compiler_76 zT_1076 rfl (zz_ltn hn rfl) rfl ?_
    refine zz_callVI [.ref (zz_rf 6 (S0 1076 4)), zi (S0 1076 13), zi (S0 1076 14), zi (S0 1076 15), zi (S0 1076 7)] zd_3_6_94 zk_Compiler_178 (zT_k6 (by omega)) (zN_k6 hn (by omega)) rfl rfl ⟨Nat.le_of_ble_eq_true rfl, Nat.le_of_ble_eq_true rfl⟩ ⟨rfl, rfl⟩ (Nat.zero_le _) (Nat.zero_le _) (zc_weightAt_4_14 (S0 1076 3) (S0 1076 4) (S0 1076 13) (S0 1076 14) (S0 1076 15) (S0 1076 7) S0 n hn G_S0 (by omega) (by omega) (by omega) (by omega) (by omega) (by omega)) (fun v21 S20 hP => ?_)
    obtain ⟨rfl, o22⟩ := hP
    refine zz_callSJ [zi 5, zi v21] zd_3_6_97 zk_Compiler_132 rfl rfl ⟨Nat.le_of_ble_eq_true rfl, Nat.le_of_ble_eq_true rfl⟩ ⟨rfl, rfl⟩ (Nat.zero_le _) (Nat.zero_le _) (zc_bits_12_4 5 v21 S0 n hn G_S0 (by omega) (by omega)) (fun v24 S23 hP => ?_)
    obtain ⟨rfl, o25⟩ := hP
    refine zz_lor zd_3_6_100 (fun v26 hv26 ev26 => ?_)
    refine zz_bipush (by decide) zd_3_6_101 ?_
    refine zz_aload_n (x := 1076) rfl zd_3_6_103 ?_
    refine zz_getr (kd := 4) (z := S0 1076 3) zd_3_6_104 zf_Compiler_51 zT_1076 rfl (zz_ltn hn rfl) rfl (by omega) (zz_rf 6 (S0 1076 3)) rfl ?_
    have g27 := zz_G.r G_S0 (zz_rf 6 (S0 1076 3)) 12 (-2147483648) 2147483647 (zR_k6_12 (by omega)) (zB_k6 (by omega))
    refine zz_geti (z := S0 (zz_rf 6 (S0 1076 3)) 12) zd_3_6_107 zf_Compiler_79 (zT_k6 (by omega)) rfl (zN_k6 hn (by omega)) rfl ?_
    refine zz_callSJ [zi 10, zi (S0 (zz_rf 6 (S0 1076 3)) 12)] zd_3_6_110 zk_Compiler_132 rfl rfl ⟨Nat.le_of_ble_eq_true rfl, Nat.le_of_ble_eq_true rfl⟩ ⟨rfl, rfl⟩ (Nat.zero_le _) (Nat.zero_le _) (zc_bits_12_4 10 (S0 (zz_rf 6 (S0 1076 3)) 12) S0 n hn G_S0 (by omega) (by omega)) (fun v29 S28 hP => ?_)
    obtain ⟨rfl, o30⟩ := hP
    refine zz_lor zd_3_6_113 (fun v31 hv31 ev31 => ?_)
    have g32 := zz_G.r G_S0 1076 1 0 1000000 rfl rfl
    refine zz_callVV [zl v31] zd_3_6_114 zk_Compiler_143 zT_1076 (zz_ltn hn rfl) rfl rfl ⟨Nat.le_of_ble_eq_true rfl, Nat.le_of_ble_eq_true rfl⟩ ⟨rfl, rfl⟩ (Nat.zero_le _) (Nat.zero_le _) (zc_emit_3_15 v31 S0 n hn G_S0 (by omega) (by omega)) (fun S33 hP => ?_)
    obtain ⟨G_S33, fS33, o35⟩ := hP
    have g36 := zz_G.r G_S0 1076 0 0 1 rfl rfl
    have F_S33 := zz_fr.trans F_S0 fS33 rfl (fun a i h => Or.inr (Or.inl (h ▸ zM_k4 (z := (S0 1076 0)) (by omega) rfl)))
    have b37 := zz_rf4 (z := (S0 1076 0)) (by omega)
    have g38 := zz_G.r G_S33 1076 1 0 1000000 rfl rfl
    exact zz_vret zd_3_6_117 rfl (Nat.zero_le _) (Nat.zero_le _) ⟨_, rfl, G_S33, F_S33, by omega⟩
  · refine zz_aload_n (x := 1076) rfl zd_3_6_4 ?_
    refine zz_iconst zd_3_6_5 ?_
    refine zz_aload_n (x := 1076) rfl zd_3_6_6 ?_
    have g39 := zz_G.r G_S0 1076 11 (-2147483648) 2147483647 rfl rfl
    refine zz_geti (z := S0 1076 11) zd_3_6_7 zf_Compiler_91 zT_1076 rfl (zz_ltn hn rfl) rfl ?_
    refine zz_aload_n (x := 1076) rfl zd_3_6_10 ?_
    have g40 := zz_G.r G_S0 1076 8 (-2147483648) 2147483647 rfl rfl
    refine zz_geti (z := S0 1076 8) zd_3_6_11 zf_Compiler_82 zT_1076 rfl (zz_ltn hn rfl) rfl ?_
    refine zz_callSJ [zi 4, zi (S0 1076 11), zi (S0 1076 8)] zd_3_6_14 zk_Compiler_128 rfl rfl ⟨Nat.le_of_ble_eq_true rfl, Nat.le_of_ble_eq_true rfl⟩ ⟨rfl, rfl⟩ (Nat.zero_le _) (Nat.zero_le _) (zc_shaped_12_6 4 (S0 1076 11) (S0 1076 8) S0 n hn G_S0 (by omega) (by omega) (by omega)) (fun v42 S41 hP => ?_)
    obtain ⟨rfl, o43⟩ := hP
    refine zz_bipush (by decide) zd_3_6_17 ?_
    refine zz_aload_n (x := 1076) rfl zd_3_6_19 ?_
    refine zz_callVI [] zd_3_6_20 zk_Compiler_122 zT_1076 (zz_ltn hn rfl) rfl rfl ⟨Nat.le_of_ble_eq_true rfl, Nat.le_of_ble_eq_true rfl⟩ ⟨rfl, rfl⟩ (Nat.zero_le _) (Nat.zero_le _) (zc_tileHalf_3_13  S0 n hn G_S0 ) (fun v45 S44 hP => ?_)
    obtain ⟨rfl, o46⟩ := hP
    refine zz_callSJ [zi 8, zi v45] zd_3_6_23 zk_Compiler_132 rfl rfl ⟨Nat.le_of_ble_eq_true rfl, Nat.le_of_ble_eq_true rfl⟩ ⟨rfl, rfl⟩ (Nat.zero_le _) (Nat.zero_le _) (zc_bits_12_4 8 v45 S0 n hn G_S0 (by omega) (by omega)) (fun v48 S47 hP => ?_)
    obtain ⟨rfl, o49⟩ := hP
    refine zz_lor zd_3_6_26 (fun v50 hv50 ev50 => ?_)
    refine zz_iconst zd_3_6_27 ?_
    refine zz_aload_n (x := 1076) rfl zd_3_6_28 ?_
    have g51 := zz_G.r G_S0 1076 3 (-1) 23 rfl rfl
    refine zz_getr (kd := 4) (z := S0 1076 3) zd_3_6_29 zf_Compiler_51 zT_1076 rfl (zz_ltn hn rfl) rfl (by omega) (zz_rf 6 (S0 1076 3)) rfl ?_
    refine zz_aload_n (x := 1076) rfl zd_3_6_32 ?_
    have g52 := zz_G.r G_S0 1076 7 (-2147483648) 2147483647 rfl rfl
    refine zz_geti (z := S0 1076 7) zd_3_6_33 zf_Compiler_76 zT_1076 rfl (zz_ltn hn rfl) rfl ?_
    refine zz_callVI [zi (S0 1076 7)] zd_3_6_36 zk_Compiler_171 (zT_k6 (by omega)) (zN_k6 hn (by omega)) rfl rfl ⟨Nat.le_of_ble_eq_true rfl, Nat.le_of_ble_eq_true rfl⟩ ⟨rfl, rfl⟩ (Nat.zero_le _) (Nat.zero_le _) (zc_biasAt_4_13 (S0 1076 3) (S0 1076 7) S0 n hn G_S0 (by omega) (by omega)) (fun v54 S53 hP => ?_)
    obtain ⟨rfl, o55⟩ := hP
    refine zz_callSJ [zi 5, zi v54] zd_3_6_39 zk_Compiler_132 rfl rfl ⟨Nat.le_of_ble_eq_true rfl, Nat.le_of_ble_eq_true rfl⟩ ⟨rfl, rfl⟩ (Nat.zero_le _) (Nat.zero_le _) (zc_bits_12_4 5 v54 S0 n hn G_S0 (by omega) (by omega)) (fun v57 S56 hP => ?_)
    obtain ⟨rfl, o58⟩ := hP
    refine zz_lor zd_3_6_42 (fun v59 hv59 ev59 => ?_)
    have g60 := zz_G.r G_S0 1076 1 0 1000000 rfl rfl
    refine zz_callVV [zl v59] zd_3_6_43 zk_Compiler_143 zT_1076 (zz_ltn hn rfl) rfl rfl ⟨Nat.le_of_ble_eq_true rfl, Nat.le_of_ble_eq_true rfl⟩ ⟨rfl, rfl⟩ (Nat.zero_le _) (Nat.zero_le _) (zc_emit_3_15 v59 S0 n hn G_S0 (by omega) (by omega)) (fun S61 hP => ?_)
    obtain ⟨G_S61, fS61, o63⟩ := hP
    have g64 := zz_G.r G_S0 1076 0 0 1 rfl rfl
    have F_S61 := zz_fr.trans F_S0 fS61 rfl (fun a i h => Or.inr (Or.inl (h ▸ zM_k4 (z := (S0 1076 0)) (by omega) rfl)))
    have b65 := zz_rf4 (z := (S0 1076 0)) (by omega)
    refine zz_aload_n (x := 1076) rfl zd_3_6_46 ?_
    refine zz_iconst zd_3_6_47 ?_
    refine zz_aload_n (x := 1076) rfl zd_3_6_48 ?_
    have g66 := zz_G.r G_S0 1076 16 (-2147483648) 2147483647 rfl rfl
    refine zz_geti (z := S0 1076 16) zd_3_6_49 zf_Compiler_115 zT_1076 rfl (zz_ltn hn rfl) (zz_rc fS61 rfl rfl (by first | decide | omega) rfl) ?_
    refine zz_aload_n (x := 1076) rfl zd_3_6_52 ?_
    refine zz_geti (z := S0 1076 8) zd_3_6_53 zf_Compiler_82 zT_1076 rfl (zz_ltn hn rfl) (zz_rc fS61 rfl rfl (by first | decide | omega) rfl) ?_
    refine zz_callSJ [zi 2, zi (S0 1076 16), zi (S0 1076 8)] zd_3_6_56 zk_Compiler_128 rfl rfl ⟨Nat.le_of_ble_eq_true rfl, Nat.le_of_ble_eq_true rfl⟩ ⟨rfl, rfl⟩ (Nat.zero_le _) (Nat.zero_le _) (zc_shaped_12_6 2 (S0 1076 16) (S0 1076 8) S61 n hn G_S61 (by omega) (by omega) (by omega)) (fun v68 S67 hP => ?_)
    obtain ⟨rfl, o69⟩ := hP
    refine zz_bipush (by decide) zd_3_6_59 ?_
    refine zz_aload_n (x := 1076) rfl zd_3_6_61 ?_
    refine zz_callVI [] zd_3_6_62 zk_Compiler_175 zT_1076 (zz_ltn hn rfl) rfl rfl ⟨Nat.le_of_ble_eq_true rfl, Nat.le_of_ble_eq_true rfl⟩ ⟨rfl, rfl⟩ (Nat.zero_le _) (Nat.zero_le _) (zc_groupHalf_3_14  S61 n hn G_S61 ) (fun v71 S70 hP => ?_)
    obtain ⟨rfl, o72⟩ := hP
    refine zz_callSJ [zi 8, zi v71] zd_3_6_65 zk_Compiler_132 rfl rfl ⟨Nat.le_of_ble_eq_true rfl, Nat.le_of_ble_eq_true rfl⟩ ⟨rfl, rfl⟩ (Nat.zero_le _) (Nat.zero_le _) (zc_bits_12_4 8 v71 S61 n hn G_S61 (by omega) (by omega)) (fun v74 S73 hP => ?_)
    obtain ⟨rfl, o75⟩ := hP
    refine zz_lor zd_3_6_68 (fun v76 hv76 ev76 => ?_)
    refine zz_iconst zd_3_6_69 ?_
    refine zz_aload_n (x := 1076) rfl zd_3_6_70 ?_
    refine zz_getr (kd := 4) (z := S0 1076 3) zd_3_6_71 zf_Compiler_51 zT_1076 rfl (zz_ltn hn rfl) (zz_rc fS61 rfl rfl (by first | decide | omega) rfl) (by omega) (zz_rf 6 (S0 1076 3)) rfl ?_
    refine zz_aload_n (x := 1076) rfl zd_3_6_74 ?_
    have g77 := zz_G.r G_S0 1076 4 (-1) 23 rfl rfl
    refine zz_getr (kd := 4) (z := S0 1076 4) zd_3_6_75 zf_Compiler_55 zT_1076 rfl (zz_ltn hn rfl) (zz_rc fS61 rfl rfl (by first | decide | omega) rfl) (by omega) (zz_rf 6 (S0 1076 4)) rfl ?_
    refine zz_aload_n (x := 1076) rfl zd_3_6_78 ?_
    have g78 := zz_G.r G_S0 1076 13 (-2147483648) 2147483647 rfl rfl
    refine zz_geti (z := S0 1076 13) zd_3_6_79 zf_Compiler_106 zT_1076 rfl (zz_ltn hn rfl) (zz_rc fS61 rfl rfl (by first | decide | omega) rfl) ?_
    refine zz_aload_n (x := 1076) rfl zd_3_6_82 ?_
    have g79 := zz_G.r G_S0 1076 14 (-2147483648) 2147483647 rfl rfl
    refine zz_geti (z := S0 1076 14) zd_3_6_83 zf_Compiler_109 zT_1076 rfl (zz_ltn hn rfl) (zz_rc fS61 rfl rfl (by first | decide | omega) rfl) ?_
    refine zz_aload_n (x := 1076) rfl zd_3_6_86 ?_
    have g80 := zz_G.r G_S0 1076 15 (-2147483648) 2147483647 rfl rfl
    refine zz_geti (z := S0 1076 15) zd_3_6_87 zf_Compiler_112 zT_1076 rfl (zz_ltn hn rfl) (zz_rc fS61 rfl rfl (by first | decide | omega) rfl) ?_
    refine zz_aload_n (x := 1076) rfl zd_3_6_90 ?_
    refine zz_geti (z := S0 1076 7) zd_3_6_91 zf_Compiler_76 zT_1076 rfl (zz_ltn hn rfl) (zz_rc fS61 rfl rfl (by first | decide | omega) rfl) ?_
    refine zz_callVI [.ref (zz_rf 6 (S0 1076 4)), zi (S0 1076 13), zi (S0 1076 14), zi (S0 1076 15), zi (S0 1076 7)] zd_3_6_94 zk_Compiler_178 (zT_k6 (by omega)) (zN_k6 hn (by omega)) rfl rfl ⟨Nat.le_of_ble_eq_true rfl, Nat.le_of_ble_eq_true rfl⟩ ⟨rfl, rfl⟩ (Nat.zero_le _) (Nat.zero_le _) (zc_weightAt_4_14 (S0 1076 3) (S0 1076 4) (S0 1076 13) (S0 1076 14) (S0 1076 15) (S0 1076 7) S61 n hn G_S61 (by omega) (by omega) (by omega) (by omega) (by omega) (by omega)) (fun v82 S81 hP => ?_)
    obtain ⟨rfl, o83⟩ := hP
    refine zz_callSJ [zi 5, zi v82] zd_3_6_97 zk_Compiler_132 rfl rfl ⟨Nat.le_of_ble_eq_true rfl, Nat.le_of_ble_eq_true rfl⟩ ⟨rfl, rfl⟩ (Nat.zero_le _) (Nat.zero_le _) (zc_bits_12_4 5 v82 S61 n hn G_S61 (by omega) (by omega)) (fun v85 S84 hP => ?_)
    obtain ⟨rfl, o86⟩ := hP
    refine zz_lor zd_3_6_100 (fun v87 hv87 ev87 => ?_)
    refine zz_bipush (by decide) zd_3_6_101 ?_
    refine zz_aload_n (x := 1076) rfl zd_3_6_103 ?_
    refine zz_getr (kd := 4) (z := S0 1076 3) zd_3_6_104 zf_Compiler_51 zT_1076 rfl (zz_ltn hn rfl) (zz_rc fS61 rfl rfl (by first | decide | omega) rfl) (by omega) (zz_rf 6 (S0 1076 3)) rfl ?_
    have g88 := zz_G.r G_S0 (zz_rf 6 (S0 1076 3)) 12 (-2147483648) 2147483647 (zR_k6_12 (by omega)) (zB_k6 (by omega))
    refine zz_geti (z := S0 (zz_rf 6 (S0 1076 3)) 12) zd_3_6_107 zf_Compiler_79 (zT_k6 (by omega)) rfl (zN_k6 hn (by omega)) (zz_rc fS61 (zP_k6 (by omega) rfl) (zQ_k6 (by omega) rfl) (by have hz_ := zz_rf6 (z := S0 1076 3) (by omega); omega) rfl) ?_
    refine zz_callSJ [zi 10, zi (S0 (zz_rf 6 (S0 1076 3)) 12)] zd_3_6_110 zk_Compiler_132 rfl rfl ⟨Nat.le_of_ble_eq_true rfl, Nat.le_of_ble_eq_true rfl⟩ ⟨rfl, rfl⟩ (Nat.zero_le _) (Nat.zero_le _) (zc_bits_12_4 10 (S0 (zz_rf 6 (S0 1076 3)) 12) S61 n hn G_S61 (by omega) (by omega)) (fun v90 S89 hP => ?_)
    obtain ⟨rfl, o91⟩ := hP
    refine zz_lor zd_3_6_113 (fun v92 hv92 ev92 => ?_)
    have g93 := zz_G.r G_S61 1076 1 0 1000000 rfl rfl
    refine zz_callVV [zl v92] zd_3_6_114 zk_Compiler_143 zT_1076 (zz_ltn hn rfl) rfl rfl ⟨Nat.le_of_ble_eq_true rfl, Nat.le_of_ble_eq_true rfl⟩ ⟨rfl, rfl⟩ (Nat.zero_le _) (Nat.zero_le _) (zc_emit_3_15 v92 S61 n hn G_S61 (by omega) (by omega)) (fun S94 hP => ?_)
    obtain ⟨G_S94, fS94, o96⟩ := hP
    have g97 := zz_G.r G_S61 1076 0 0 1 rfl rfl
    have F_S94 := zz_fr.trans F_S61 fS94 rfl (fun a i h => Or.inr (Or.inl (h ▸ zM_k4 (z := (S61 1076 0)) (by omega) rfl)))
    have b98 := zz_rf4 (z := (S61 1076 0)) (by omega)
    have g99 := zz_G.r G_S94 1076 1 0 1000000 rfl rfl
    exact zz_vret zd_3_6_117 rfl (Nat.zero_le _) (Nat.zero_le _) ⟨_, rfl, G_S94, F_S94, by omega⟩
theorem zk_Compiler_151 : mm_Vl "TensorForge$Compiler" 151 9 1 zy_loadParameters_3_6 := ⟨zyw_loadParameters_3_6, (R_Compiler, F_Compiler, 17), rfl, mm_tb_1 1424 (by decide +kernel) rfl, mm_tb_1 1426 (by decide +kernel) rfl, mm_tb_s 65 (by decide +kernel) rfl⟩
theorem zg_3_5_21 : zq_at zy_makeGroup_3_5.2.1 21 42 ∧ zq_at zy_makeGroup_3_5.2.1 22 42 ∧ zq_at zy_makeGroup_3_5.2.1 23 180 ∧ zq_at zy_makeGroup_3_5.2.1 24 0 ∧ zq_at zy_makeGroup_3_5.2.1 25 112 ∧ zq_at zy_makeGroup_3_5.2.1 26 182 ∧ zq_at zy_makeGroup_3_5.2.1 27 0 ∧ zq_at zy_makeGroup_3_5.2.1 28 155 ∧ zq_at zy_makeGroup_3_5.2.1 29 167 ∧ zq_at zy_makeGroup_3_5.2.1 30 0 ∧ zq_at zy_makeGroup_3_5.2.1 31 73 := by decide +kernel
theorem zd_3_5_21 : zz_D zy_makeGroup_3_5 21 (.aload_n 0) 1 22 := ⟨zq_42 zg_3_5_21.1, rfl⟩
theorem zd_3_5_22 : zz_D zy_makeGroup_3_5 22 (.aload_n 0) 1 23 := ⟨zq_42 zg_3_5_21.2.1, rfl⟩
theorem zd_3_5_23 : zz_D zy_makeGroup_3_5 23 (.getfield 112) 3 26 := ⟨zq_180 zg_3_5_21.2.2.1 zg_3_5_21.2.2.2.1 zg_3_5_21.2.2.2.2.1 rfl, rfl⟩
theorem zd_3_5_26 : zz_D zy_makeGroup_3_5 26 (.invokevirtual 155) 3 29 := ⟨zq_182 zg_3_5_21.2.2.2.2.2.1 zg_3_5_21.2.2.2.2.2.2.1 zg_3_5_21.2.2.2.2.2.2.2.1 rfl, rfl⟩
theorem zd_3_5_29 : zz_B zy_makeGroup_3_5 29 Instr.goto 102 32 := ⟨73, zq_167 zg_3_5_21.2.2.2.2.2.2.2.2.1 zg_3_5_21.2.2.2.2.2.2.2.2.2.1 zg_3_5_21.2.2.2.2.2.2.2.2.2.2 (by decide), rfl, rfl⟩

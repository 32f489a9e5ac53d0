-- TensorForge$Compiler clearPlaces (II)V
abbrev zr_clearPlaces_3_9 : Room := { frames := 1, cells := 0, slots := 0, locals := 16 }
def zp_clearPlaces_3_9 (p0 : Int) (p1 : Int) (S0 : zz_S) : zz_S → Prop := fun S => zz_G S ∧ zz_fr [(1076, 1)] [] (fun a i => a = zz_rf 4 (S0 1076 0)) S0 S ∧ (S0 1076 1 ≤ S 1076 1 ∧ S 1076 1 ≤ S0 1076 1 + 1)
theorem zc_clearPlaces_3_9 {g : mm_G} {l : Launch} (p0 : Int) (p1 : Int) (S0 : zz_S) (n : Nat) (hn : zz_end ≤ n) (G_S0 : zz_G S0) (hp0 : (-2147483648) ≤ p0 ∧ p0 ≤ 2147483647) (hp1 : (-2147483648) ≤ p1 ∧ p1 ≤ 2147483647) (hq : S0 1076 1 ≤ 900000) (hl : 0 ≤ S0 1076 3 ∧ 0 ≤ S0 1076 4 ∧ 0 ≤ S0 1076 5) : mm_Met g l zy_clearPlaces_3_9 zr_clearPlaces_3_9 [.ref 1076, zi p0, zi p1] (zz_M S0 n) n (zz_QV n (zp_clearPlaces_3_9 p0 p1 S0)) := by
  refine zz_enter (by decide) (Nat.le_of_ble_eq_true rfl) (zz_less (ls1 := [some (.ref 1076), some (zi p0), some (zi p1)]) ⟨rfl, ⟨rfl, ⟨rfl, trivial⟩⟩⟩ ?_)
  have F_S0 : zz_fr [(1076, 1)] [] (fun a i => a = zz_rf 4 (S0 1076 0)) S0 S0 := zz_fr.refl
  refine zz_iload_n (x := p1) rfl zd_3_9_0 ?_
  refine zz_iload_n (x := p0) rfl zd_3_9_1 ?_
  refine zz_icmp_le (by omega) (by omega) zd_3_9_2 (fun c1 => ?_) (fun c1 => ?_)
  · have g2 := zz_G.r G_S0 1076 1 0 1000000 rfl rfl
    exact zz_vret zd_3_9_37 rfl (Nat.zero_le _) (Nat.zero_le _) ⟨_, rfl, G_S0, F_S0, by omega⟩
  · refine zz_aload_n (x := 1076) rfl zd_3_9_5 ?_
    refine zz_iconst zd_3_9_6 ?_
    refine zz_iload_n (x := p1) rfl zd_3_9_7 ?_
    refine zz_iload_n (x := p0) rfl zd_3_9_8 ?_
    refine zz_isub zd_3_9_9 ?_
    refine zz_nrm (fun v3 hv3 ev3 => ?_)
    refine zz_aload_n (x := 1076) rfl zd_3_9_10 ?_
    have g4 := zz_G.r G_S0 1076 16 (-2147483648) 2147483647 rfl rfl
    refine zz_geti (z := S0 1076 16) zd_3_9_11 zf_Compiler_115 zT_1076 rfl (zz_ltn hn rfl) rfl ?_
    refine zz_callSJ [zi 3, zi v3, zi (S0 1076 16)] zd_3_9_14 zk_Compiler_128 rfl rfl ⟨Nat.le_of_ble_eq_true rfl, Nat.le_of_ble_eq_true rfl⟩ ⟨rfl, rfl⟩ (Nat.zero_le _) (Nat.zero_le _) (zc_shaped_12_6 3 v3 (S0 1076 16) S0 n hn G_S0 (by omega) (by omega) (by omega)) (fun v6 S5 hP => ?_)
    obtain ⟨rfl, o7⟩ := hP
    refine zz_bipush (by decide) zd_3_9_17 ?_
    refine zz_aload_n (x := 1076) rfl zd_3_9_19 ?_
    refine zz_callVI [] zd_3_9_20 zk_Compiler_175 zT_1076 (zz_ltn hn rfl) rfl rfl ⟨Nat.le_of_ble_eq_true rfl, Nat.le_of_ble_eq_true rfl⟩ ⟨rfl, rfl⟩ (Nat.zero_le _) (Nat.zero_le _) (zc_groupHalf_3_14  S0 n hn G_S0 ) (fun v9 S8 hP => ?_)
    obtain ⟨rfl, o10⟩ := hP
    refine zz_iload_n (x := p0) rfl zd_3_9_23 ?_
    refine zz_aload_n (x := 1076) rfl zd_3_9_24 ?_
    have g11 := zz_G.r G_S0 1076 2 2 8 rfl rfl
    refine zz_geti (z := S0 1076 2) zd_3_9_25 zf_Compiler_21 zT_1076 rfl (zz_ltn hn rfl) rfl ?_
    refine zz_imul zd_3_9_28 ?_
    refine zz_nrm (fun v12 hv12 ev12 => ?_)
    refine zz_iadd zd_3_9_29 ?_
    refine zz_nrm (fun v13 hv13 ev13 => ?_)
    refine zz_callSJ [zi 8, zi v13] zd_3_9_30 zk_Compiler_132 rfl rfl ⟨Nat.le_of_ble_eq_true rfl, Nat.le_of_ble_eq_true rfl⟩ ⟨rfl, rfl⟩ (Nat.zero_le _) (Nat.zero_le _) (zc_bits_12_4 8 v13 S0 n hn G_S0 (by omega) (by omega)) (fun v15 S14 hP => ?_)
    obtain ⟨rfl, o16⟩ := hP
    refine zz_lor zd_3_9_33 (fun v17 hv17 ev17 => ?_)
    have g18 := zz_G.r G_S0 1076 1 0 1000000 rfl rfl
    refine zz_callVV [zl v17] zd_3_9_34 zk_Compiler_143 zT_1076 (zz_ltn hn rfl) rfl rfl ⟨Nat.le_of_ble_eq_true rfl, Nat.le_of_ble_eq_true rfl⟩ ⟨rfl, rfl⟩ (Nat.zero_le _) (Nat.zero_le _) (zc_emit_3_15 v17 S0 n hn G_S0 (by omega) (by omega)) (fun S19 hP => ?_)
    obtain ⟨G_S19, fS19, o21⟩ := hP
    have g22 := zz_G.r G_S0 1076 0 0 1 rfl rfl
    have F_S19 := zz_fr.trans F_S0 fS19 rfl (fun a i h => Or.inr (Or.inr (h)))
    have b23 := zz_rf4 (z := (S0 1076 0)) (by omega)
    have g24 := zz_G.r G_S19 1076 1 0 1000000 rfl rfl
    exact zz_vret zd_3_9_37 rfl (Nat.zero_le _) (Nat.zero_le _) ⟨_, rfl, G_S19, F_S19, by omega⟩
theorem zk_Compiler_188 : mm_Vl "TensorForge$Compiler" 188 9 2 zy_clearPlaces_3_9 := ⟨zyw_clearPlaces_3_9, (R_Compiler, F_Compiler, 17), rfl, mm_tb_1 1450 (by decide +kernel) rfl, mm_tb_1 1452 (by decide +kernel) rfl, mm_tb_s 70 (by decide +kernel) rfl⟩
theorem zd_3_7_50 : zz_D zy_loadMet_3_7 50 (.return_) 1 51 := ⟨by decide +kernel, rfl⟩
theorem zd_3_7_30 : zz_D zy_loadMet_3_7 30 (.iload_n 2) 1 31 := ⟨by decide +kernel, rfl⟩
theorem zd_3_7_31 : zz_D zy_loadMet_3_7 31 (.aload_n 0) 1 32 := ⟨by decide +kernel, rfl⟩
theorem zd_3_7_32 : zz_D zy_loadMet_3_7 32 (.getfield 55) 3 35 := ⟨by decide +kernel, rfl⟩
theorem zd_3_7_35 : zz_D zy_loadMet_3_7 35 (.getfield 64) 3 38 := ⟨by decide +kernel, rfl⟩
theorem zd_3_7_38 : zz_B zy_loadMet_3_7 38 (Instr.if_icmp .lt) 51 41 := ⟨13, by decide +kernel, rfl, rfl⟩
theorem zd_3_7_51 : zz_D zy_loadMet_3_7 51 (.iconst 0) 1 52 := ⟨by decide +kernel, rfl⟩
theorem zd_3_7_52 : zz_D zy_loadMet_3_7 52 (.istore_n 3) 1 53 := ⟨by decide +kernel, rfl⟩
theorem zd_3_7_53 : zz_D zy_loadMet_3_7 53 (.iload_n 3) 1 54 := ⟨by decide +kernel, rfl⟩
theorem zd_3_7_54 : zz_D zy_loadMet_3_7 54 (.aload_n 0) 1 55 := ⟨by decide +kernel, rfl⟩
theorem zd_3_7_55 : zz_D zy_loadMet_3_7 55 (.getfield 91) 3 58 := ⟨by decide +kernel, rfl⟩
theorem zd_3_7_58 : zz_B zy_loadMet_3_7 58 (Instr.if_icmp .ge) 75 61 := ⟨17, by decide +kernel, rfl, rfl⟩
theorem zd_3_7_75 : zz_D zy_loadMet_3_7 75 (.iload_n 3) 1 76 := ⟨by decide +kernel, rfl⟩
theorem zd_3_7_76 : zz_D zy_loadMet_3_7 76 (.istore 4) 2 78 := ⟨by decide +kernel, rfl⟩
theorem zd_3_7_61 : zz_D zy_loadMet_3_7 61 (.aload_n 0) 1 62 := ⟨by decide +kernel, rfl⟩
theorem zd_3_7_62 : zz_D zy_loadMet_3_7 62 (.iload_n 3) 1 63 := ⟨by decide +kernel, rfl⟩
theorem zd_3_7_63 : zz_D zy_loadMet_3_7 63 (.invokevirtual 191) 3 66 := ⟨by decide +kernel, rfl⟩
abbrev zy_metColumn_3_8 : mm_Y := (⟨"TensorForge$Compiler", "metColumn", "(I)I"⟩, prog_3_method_8_code, 2, (some .int))
theorem zyw_metColumn_3_8 : mm_Yw zy_metColumn_3_8 1 := ⟨mm_tb_1 1457 (by decide +kernel) rfl, mm_tb_1 10 (by decide +kernel) rfl, ⟨by decide, by decide⟩, by decide +kernel⟩
theorem zd_3_8_0 : zz_D zy_metColumn_3_8 0 (.aload_n 0) 1 1 := ⟨by decide +kernel, rfl⟩
theorem zd_3_8_1 : zz_D zy_metColumn_3_8 1 (.getfield 51) 3 4 := ⟨by decide +kernel, rfl⟩
theorem zd_3_8_4 : zz_D zy_metColumn_3_8 4 (.getfield 182) 3 7 := ⟨by decide +kernel, rfl⟩
theorem zd_3_8_7 : zz_D zy_metColumn_3_8 7 (.aload_n 0) 1 8 := ⟨by decide +kernel, rfl⟩
theorem zd_3_8_8 : zz_D zy_metColumn_3_8 8 (.getfield 88) 3 11 := ⟨by decide +kernel, rfl⟩
theorem zd_3_8_11 : zz_D zy_metColumn_3_8 11 (.iload_n 1) 1 12 := ⟨by decide +kernel, rfl⟩
theorem zd_3_8_12 : zz_D zy_metColumn_3_8 12 (.iadd) 1 13 := ⟨by decide +kernel, rfl⟩
theorem zd_3_8_13 : zz_D zy_metColumn_3_8 13 (.imul) 1 14 := ⟨by decide +kernel, rfl⟩
theorem zd_3_8_14 : zz_D zy_metColumn_3_8 14 (.aload_n 0) 1 15 := ⟨by decide +kernel, rfl⟩
theorem zd_3_8_15 : zz_D zy_metColumn_3_8 15 (.getfield 109) 3 18 := ⟨by decide +kernel, rfl⟩
theorem zd_3_8_18 : zz_D zy_metColumn_3_8 18 (.iadd) 1 19 := ⟨by decide +kernel, rfl⟩
theorem zd_3_8_19 : zz_D zy_metColumn_3_8 19 (.aload_n 0) 1 20 := ⟨by decide +kernel, rfl⟩
theorem zd_3_8_20 : zz_D zy_metColumn_3_8 20 (.getfield 51) 3 23 := ⟨by decide +kernel, rfl⟩
theorem zd_3_8_23 : zz_D zy_metColumn_3_8 23 (.getfield 185) 3 26 := ⟨by decide +kernel, rfl⟩
theorem zd_3_8_26 : zz_D zy_metColumn_3_8 26 (.isub) 1 27 := ⟨by decide +kernel, rfl⟩
theorem zd_3_8_27 : zz_D zy_metColumn_3_8 27 (.ireturn) 1 28 := ⟨by decide +kernel, rfl⟩
-- TensorForge$Compiler metColumn (I)I
abbrev zr_metColumn_3_8 : Room := { frames := 0, cells := 0, slots := 0, locals := 0 }
def zp_metColumn_3_8 (p0 : Int) (S0 : zz_S) : Int → zz_S → Prop := fun r S => S0 = S ∧ ((-2147483648) ≤ r ∧ r ≤ 2147483647)
theorem zc_metColumn_3_8 {g : mm_G} {l : Launch} (p0 : Int) (S0 : zz_S) (n : Nat) (hn : zz_end ≤ n) (G_S0 : zz_G S0) (hp0 : (-2147483648) ≤ p0 ∧ p0 ≤ 2147483647) (hl : 0 ≤ S0 1076 3 ∧ 0 ≤ S0 1076 4 ∧ 0 ≤ S0 1076 5) : mm_Met g l zy_metColumn_3_8 zr_metColumn_3_8 [.ref 1076, zi p0] (zz_M S0 n) n (zz_QI n (zp_metColumn_3_8 p0 S0)) := by
  refine zz_enter (by decide) (Nat.le_of_ble_eq_true rfl) (zz_less (ls1 := [some (.ref 1076), some (zi p0)]) ⟨rfl, ⟨rfl, trivial⟩⟩ ?_)
  refine zz_aload_n (x := 1076) rfl zd_3_8_0 ?_
  have g1 := zz_G.r G_S0 1076 3 (-1) 23 rfl rfl
  refine zz_getr (kd := 4) (z := S0 1076 3) zd_3_8_1 zf_Compiler_51 zT_1076 rfl (zz_ltn hn rfl) rfl (by omega) (zz_rf 6 (S0 1076 3)) rfl ?_
  have g2 := zz_G.r G_S0 (zz_rf 6 (S0 1076 3)) 5 (-2147483648) 2147483647 (zR_k6_5 (by omega)) (zB_k6 (by omega))
  refine zz_geti (z := S0 (zz_rf 6 (S0 1076 3)) 5) zd_3_8_4 zf_Compiler_182 (zT_k6 (by omega)) rfl (zN_k6 hn (by omega)) rfl ?_
  refine zz_aload_n (x := 1076) rfl zd_3_8_7 ?_
  have g3 := zz_G.r G_S0 1076 10 (-2147483648) 2147483647 rfl rfl
  refine zz_geti (z := S0 1076 10) zd_3_8_8 zf_Compiler_88 zT_1076 rfl (zz_ltn hn rfl) rfl ?_
  refine zz_iload_n (x := p0) rfl zd_3_8_11 ?_
  refine zz_iadd zd_3_8_12 ?_
  refine zz_nrm (fun v4 hv4 ev4 => ?_)
  refine zz_imul zd_3_8_13 ?_
  refine zz_nrm (fun v5 hv5 ev5 => ?_)
  refine zz_aload_n (x := 1076) rfl zd_3_8_14 ?_
  have g6 := zz_G.r G_S0 1076 14 (-2147483648) 2147483647 rfl rfl
  refine zz_geti (z := S0 1076 14) zd_3_8_15 zf_Compiler_109 zT_1076 rfl (zz_ltn hn rfl) rfl ?_
  refine zz_iadd zd_3_8_18 ?_
  refine zz_nrm (fun v7 hv7 ev7 => ?_)
  refine zz_aload_n (x := 1076) rfl zd_3_8_19 ?_
  refine zz_getr (kd := 4) (z := S0 1076 3) zd_3_8_20 zf_Compiler_51 zT_1076 rfl (zz_ltn hn rfl) rfl (by omega) (zz_rf 6 (S0 1076 3)) rfl ?_
  have g8 := zz_G.r G_S0 (zz_rf 6 (S0 1076 3)) 6 (-2147483648) 2147483647 (zR_k6_6 (by omega)) (zB_k6 (by omega))
  refine zz_geti (z := S0 (zz_rf 6 (S0 1076 3)) 6) zd_3_8_23 zf_Compiler_185 (zT_k6 (by omega)) rfl (zN_k6 hn (by omega)) rfl ?_
  refine zz_isub zd_3_8_26 ?_
  refine zz_nrm (fun v9 hv9 ev9 => ?_)
  exact zz_iret zd_3_8_27 rfl (Nat.zero_le _) (Nat.zero_le _) ⟨_, _, rfl, rfl, by omega⟩
theorem zk_Compiler_191 : mm_Vl "TensorForge$Compiler" 191 9 1 zy_metColumn_3_8 := ⟨zyw_metColumn_3_8, (R_Compiler, F_Compiler, 17), rfl, mm_tb_1 1454 (by decide +kernel) rfl, mm_tb_1 1456 (by decide +kernel) rfl, mm_tb_s 71 (by decide +kernel) rfl⟩
theorem zd_3_7_66 : zz_B zy_loadMet_3_7 66 (Instr.ifCond .ge) 75 69 := ⟨9, by decide +kernel, rfl, rfl⟩
theorem zd_3_7_69 : zz_D zy_loadMet_3_7 69 (.iinc 3 1) 3 72 := ⟨by decide +kernel, rfl⟩
theorem zd_3_7_72 : zz_B zy_loadMet_3_7 72 Instr.goto 53 75 := ⟨(-19), by decide +kernel, rfl, rfl⟩
theorem zd_3_7_78 : zz_D zy_loadMet_3_7 78 (.iload 4) 2 80 := ⟨by decide +kernel, rfl⟩
theorem zd_3_7_80 : zz_D zy_loadMet_3_7 80 (.aload_n 0) 1 81 := ⟨by decide +kernel, rfl⟩
theorem zd_3_7_81 : zz_D zy_loadMet_3_7 81 (.getfield 91) 3 84 := ⟨by decide +kernel, rfl⟩
theorem zd_3_7_84 : zz_B zy_loadMet_3_7 84 (Instr.if_icmp .ge) 109 87 := ⟨25, by decide +kernel, rfl, rfl⟩
theorem zd_3_7_109 : zz_D zy_loadMet_3_7 109 (.aload_n 0) 1 110 := ⟨by decide +kernel, rfl⟩
theorem zd_3_7_110 : zz_D zy_loadMet_3_7 110 (.iconst 0) 1 111 := ⟨by decide +kernel, rfl⟩
theorem zd_3_7_111 : zz_D zy_loadMet_3_7 111 (.iload_n 3) 1 112 := ⟨by decide +kernel, rfl⟩
theorem zd_3_7_112 : zz_D zy_loadMet_3_7 112 (.invokevirtual 188) 3 115 := ⟨by decide +kernel, rfl⟩
theorem zd_3_7_115 : zz_D zy_loadMet_3_7 115 (.aload_n 0) 1 116 := ⟨by decide +kernel, rfl⟩
theorem zd_3_7_116 : zz_D zy_loadMet_3_7 116 (.iload_n 3) 1 117 := ⟨by decide +kernel, rfl⟩
theorem zd_3_7_117 : zz_D zy_loadMet_3_7 117 (.iload 4) 2 119 := ⟨by decide +kernel, rfl⟩
theorem zd_3_7_119 : zz_D zy_loadMet_3_7 119 (.aload_n 0) 1 120 := ⟨by decide +kernel, rfl⟩
theorem zd_3_7_120 : zz_D zy_loadMet_3_7 120 (.getfield 55) 3 123 := ⟨by decide +kernel, rfl⟩
theorem zd_3_7_123 : zz_D zy_loadMet_3_7 123 (.iload_n 2) 1 124 := ⟨by decide +kernel, rfl⟩
theorem zd_3_7_124 : zz_D zy_loadMet_3_7 124 (.aload_n 0) 1 125 := ⟨by decide +kernel, rfl⟩
theorem zd_3_7_125 : zz_D zy_loadMet_3_7 125 (.iload_n 3) 1 126 := ⟨by decide +kernel, rfl⟩
theorem zd_3_7_126 : zz_D zy_loadMet_3_7 126 (.invokevirtual 191) 3 129 := ⟨by decide +kernel, rfl⟩
theorem zd_3_7_129 : zz_D zy_loadMet_3_7 129 (.iload_n 1) 1 130 := ⟨by decide +kernel, rfl⟩
theorem zd_3_7_130 : zz_D zy_loadMet_3_7 130 (.invokevirtual 147) 3 133 := ⟨by decide +kernel, rfl⟩
theorem zd_3_7_133 : zz_D zy_loadMet_3_7 133 (.aload_n 0) 1 134 := ⟨by decide +kernel, rfl⟩
theorem zd_3_7_134 : zz_D zy_loadMet_3_7 134 (.getfield 51) 3 137 := ⟨by decide +kernel, rfl⟩
theorem zd_3_7_137 : zz_D zy_loadMet_3_7 137 (.getfield 182) 3 140 := ⟨by decide +kernel, rfl⟩
theorem zd_3_7_140 : zz_D zy_loadMet_3_7 140 (.aload_n 0) 1 141 := ⟨by decide +kernel, rfl⟩
theorem zd_3_7_141 : zz_D zy_loadMet_3_7 141 (.getfield 55) 3 144 := ⟨by decide +kernel, rfl⟩
theorem zd_3_7_144 : zz_D zy_loadMet_3_7 144 (.getfield 79) 3 147 := ⟨by decide +kernel, rfl⟩
theorem zd_3_7_147 : zz_D zy_loadMet_3_7 147 (.imul) 1 148 := ⟨by decide +kernel, rfl⟩
theorem zd_3_7_148 : zz_D zy_loadMet_3_7 148 (.invokevirtual 159) 3 151 := ⟨by decide +kernel, rfl⟩
theorem zd_3_7_151 : zz_D zy_loadMet_3_7 151 (.aload_n 0) 1 152 := ⟨by decide +kernel, rfl⟩
theorem zd_3_7_152 : zz_D zy_loadMet_3_7 152 (.iload 4) 2 154 := ⟨by decide +kernel, rfl⟩
theorem zd_3_7_154 : zz_D zy_loadMet_3_7 154 (.aload_n 0) 1 155 := ⟨by decide +kernel, rfl⟩
theorem zd_3_7_155 : zz_D zy_loadMet_3_7 155 (.getfield 91) 3 158 := ⟨by decide +kernel, rfl⟩
theorem zd_3_7_158 : zz_D zy_loadMet_3_7 158 (.invokevirtual 188) 3 161 := ⟨by decide +kernel, rfl⟩
theorem zd_3_7_161 : zz_D zy_loadMet_3_7 161 (.return_) 1 162 := ⟨by decide +kernel, rfl⟩
theorem zd_3_7_87 : zz_D zy_loadMet_3_7 87 (.aload_n 0) 1 88 := ⟨by decide +kernel, rfl⟩
theorem zd_3_7_88 : zz_D zy_loadMet_3_7 88 (.iload 4) 2 90 := ⟨by decide +kernel, rfl⟩
theorem zd_3_7_90 : zz_D zy_loadMet_3_7 90 (.invokevirtual 191) 3 93 := ⟨by decide +kernel, rfl⟩
theorem zd_3_7_93 : zz_D zy_loadMet_3_7 93 (.aload_n 0) 1 94 := ⟨by decide +kernel, rfl⟩
theorem zd_3_7_94 : zz_D zy_loadMet_3_7 94 (.getfield 55) 3 97 := ⟨by decide +kernel, rfl⟩
theorem zd_3_7_97 : zz_D zy_loadMet_3_7 97 (.getfield 67) 3 100 := ⟨by decide +kernel, rfl⟩
theorem zd_3_7_100 : zz_B zy_loadMet_3_7 100 (Instr.if_icmp .ge) 109 103 := ⟨9, by decide +kernel, rfl, rfl⟩
theorem zd_3_7_103 : zz_D zy_loadMet_3_7 103 (.iinc 4 1) 3 106 := ⟨by decide +kernel, rfl⟩
theorem zd_3_7_106 : zz_B zy_loadMet_3_7 106 Instr.goto 78 109 := ⟨(-28), by decide +kernel, rfl, rfl⟩
-- TensorForge$Compiler loadMet (I)V
abbrev zr_loadMet_3_7 : Room := { frames := 2, cells := 0, slots := 0, locals := 32 }
def zp_loadMet_3_7 (p0 : Int) (S0 : zz_S) : zz_S → Prop := fun S => zz_G S ∧ zz_fr [(1076, 1)] [1029, 1030] (fun a i => a = zz_rf 4 (S0 1076 0)) S0 S ∧ (S0 1076 1 ≤ S 1076 1 ∧ S 1076 1 ≤ S0 1076 1 + 3)
theorem zb_loadMet_3_7_53 {g : mm_G} {l : Launch} (p0 : Int) (S0 : zz_S) (n : Nat) (hn : zz_end ≤ n) (G_S0 : zz_G S0) (hp0 : (-2147483648) ≤ p0 ∧ p0 ≤ 2147483647) (hq : S0 1076 1 ≤ 900000) (hl : 0 ≤ S0 1076 3 ∧ 0 ≤ S0 1076 4 ∧ 0 ≤ S0 1076 5) (x2 : Int) (x3 : Int) (S : zz_S) (G_S : zz_G S) (F_S : zz_fr [(1076, 1)] [1029, 1030] (fun a i => a = zz_rf 4 (S0 1076 0)) S0 S) (i53_0 : 0 ≤ x2 ∧ x2 ≤ 2147483646) (i53_1 : 0 ≤ x3 ∧ x3 ≤ 2147483647) (R : Nat) (hR : (34359738368 + (S0 1076 11 - x3).toNat) = R) (k53 : ∀ (x2 : Int) (x3 : Int) (S : zz_S), zz_G S → zz_fr [(1076, 1)] [1029, 1030] (fun a i => a = zz_rf 4 (S0 1076 0)) S0 S → (0 ≤ x2 ∧ x2 ≤ 2147483646) → (0 ≤ x3 ∧ x3 ≤ 2147483647) → (34359738368 + (S0 1076 11 - x3).toNat) < R → zz_E g l zy_loadMet_3_7 zr_loadMet_3_7 (zz_QV n (zp_loadMet_3_7 p0 S0)) S n 53 [some (.ref 1076), some (zi p0), some (zi x2), some (zi x3)] [] 0 0) (k78 : ∀ (x2 : Int) (x3 : Int) (x4 : Int) (S : zz_S), zz_G S → zz_fr [(1076, 1)] [1029, 1030] (fun a i => a = zz_rf 4 (S0 1076 0)) S0 S → (0 ≤ x2 ∧ x2 ≤ 2147483646) → (0 ≤ x3 ∧ x3 ≤ 2147483647) → (0 ≤ x4 ∧ x4 ≤ 2147483647) → (17179869184 + (S0 1076 11 - x4).toNat) < R → zz_E g l zy_loadMet_3_7 zr_loadMet_3_7 (zz_QV n (zp_loadMet_3_7 p0 S0)) S n 78 [some (.ref 1076), some (zi p0), some (zi x2), some (zi x3), some (zi x4)] [] 0 0) : zz_E g l zy_loadMet_3_7 zr_loadMet_3_7 (zz_QV n (zp_loadMet_3_7 p0 S0)) S n 53 [some (.ref 1076), some (zi p0), some (zi x2), some (zi x3)] [] 0 0 := by
  refine zz_iload_n (x := x3) rfl zd_3_7_53 ?_
  refine zz_aload_n (x := 1076) rfl zd_3_7_54 ?_
  have g33 := zz_G.r G_S0 1076 11 (-2147483648) 2147483647 rfl rfl
  refine zz_geti (z := S0 1076 11) zd_3_7_55 zf_Compiler_91 zT_1076 rfl (zz_ltn hn rfl) (zz_rc F_S rfl rfl (by omega) rfl) ?_
  refine zz_icmp_ge (by omega) (by omega) zd_3_7_58 (fun c34 => ?_) (fun c34 => ?_)
  · refine zz_iload_n (x := x3) rfl zd_3_7_75 ?_
    refine zz_istore [some (.ref 1076), some (zi p0), some (zi x2), some (zi x3), some (zi x3)] zd_3_7_76 (by decide) rfl ?_
    refine zz_less (ls1 := [some (.ref 1076), some (zi p0), some (zi x2), some (zi x3), some (zi x3)]) ⟨rfl, ⟨rfl, ⟨rfl, ⟨rfl, ⟨rfl, trivial⟩⟩⟩⟩⟩ ?_
    exact k78 x2 x3 x3 S G_S F_S (by omega) (by omega) (by omega) (by omega)
  · refine zz_aload_n (x := 1076) rfl zd_3_7_61 ?_
    refine zz_iload_n (x := x3) rfl zd_3_7_62 ?_
    have g35 := zz_G.r G_S0 1076 3 (-1) 23 rfl rfl
    have e36 : S 1076 3 = S0 1076 3 := (zz_rc F_S rfl rfl (by omega) rfl)
    have g37 := zz_G.r G_S0 1076 4 (-1) 23 rfl rfl
    have e38 : S 1076 4 = S0 1076 4 := (zz_rc F_S rfl rfl (by omega) rfl)
    have g39 := zz_G.r G_S0 1076 5 (-1) 23 rfl rfl
    have e40 : S 1076 5 = S0 1076 5 := (zz_rc F_S rfl rfl (by omega) rfl)
    refine zz_callVI [zi x3] zd_3_7_63 zk_Compiler_191 zT_1076 (zz_ltn hn rfl) rfl rfl ⟨Nat.le_of_ble_eq_true rfl, Nat.le_of_ble_eq_true rfl⟩ ⟨rfl, rfl⟩ (Nat.zero_le _) (Nat.zero_le _) (zc_metColumn_3_8 x3 S n hn G_S (by omega) (by omega)) (fun v42 S41 hP => ?_)
    obtain ⟨rfl, o43⟩ := hP
    refine zz_if_ge (by omega) zd_3_7_66 (fun c44 => ?_) (fun c44 => ?_)
    · refine zz_iload_n (x := x3) rfl zd_3_7_75 ?_
      refine zz_istore [some (.ref 1076), some (zi p0), some (zi x2), some (zi x3), some (zi x3)] zd_3_7_76 (by decide) rfl ?_
      refine zz_less (ls1 := [some (.ref 1076), some (zi p0), some (zi x2), some (zi x3), some (zi x3)]) ⟨rfl, ⟨rfl, ⟨rfl, ⟨rfl, ⟨rfl, trivial⟩⟩⟩⟩⟩ ?_
      exact k78 x2 x3 x3 S G_S F_S (by omega) (by omega) (by omega) (by omega)
    · refine zz_iinc [some (.ref 1076), some (zi p0), some (zi x2), some (zi (x3 + 1))] zd_3_7_69 rfl rfl ?_
      refine zz_goto zd_3_7_72 ?_
      refine zz_less (ls1 := [some (.ref 1076), some (zi p0), some (zi x2), some (zi (x3 + 1))]) ⟨rfl, ⟨rfl, ⟨rfl, ⟨rfl, trivial⟩⟩⟩⟩ ?_
      exact k53 x2 (x3 + 1) S G_S F_S (by omega) (by omega) (by omega)
theorem zb_loadMet_3_7_78 {g : mm_G} {l : Launch} (p0 : Int) (S0 : zz_S) (n : Nat) (hn : zz_end ≤ n) (G_S0 : zz_G S0) (hp0 : (-2147483648) ≤ p0 ∧ p0 ≤ 2147483647) (hq : S0 1076 1 ≤ 900000) (hl : 0 ≤ S0 1076 3 ∧ 0 ≤ S0 1076 4 ∧ 0 ≤ S0 1076 5) (x2 : Int) (x3 : Int) (x4 : Int) (S : zz_S) (G_S : zz_G S) (F_S : zz_fr [(1076, 1)] [1029, 1030] (fun a i => a = zz_rf 4 (S0 1076 0)) S0 S) (i78_0 : 0 ≤ x2 ∧ x2 ≤ 2147483646) (i78_1 : 0 ≤ x3 ∧ x3 ≤ 2147483647) (i78_2 : 0 ≤ x4 ∧ x4 ≤ 2147483647) (R : Nat) (hR : (17179869184 + (S0 1076 11 - x4).toNat) = R) (k78 : ∀ (x2 : Int) (x3 : Int) (x4 : Int) (S : zz_S), zz_G S → zz_fr [(1076, 1)] [1029, 1030] (fun a i => a = zz_rf 4 (S0 1076 0)) S0 S → (0 ≤ x2 ∧ x2 ≤ 2147483646) → (0 ≤ x3 ∧ x3 ≤ 2147483647) → (0 ≤ x4 ∧ x4 ≤ 2147483647) → (17179869184 + (S0 1076 11 - x4).toNat) < R → zz_E g l zy_loadMet_3_7 zr_loadMet_3_7 (zz_QV n (zp_loadMet_3_7 p0 S0)) S n 78 [some (.ref 1076), some (zi p0), some (zi x2), some (zi x3), some (zi x4)] [] 0 0) : zz_E g l zy_loadMet_3_7 zr_loadMet_3_7 (zz_QV n (zp_loadMet_3_7 p0 S0)) S n 78 [some (.ref 1076), some (zi p0), some (zi x2), some (zi x3), some (zi x4)] [] 0 0 := by
  refine zz_iload (x := x4) rfl zd_3_7_78 ?_
  refine zz_aload_n (x := 1076) rfl zd_3_7_80 ?_
  have g45 := zz_G.r G_S0 1076 11 (-2147483648) 2147483647 rfl rfl
  refine zz_geti (z := S0 1076 11) zd_3_7_81 zf_Compiler_91 zT_1076 rfl (zz_ltn hn rfl) (zz_rc F_S rfl rfl (by omega) rfl) ?_
  refine zz_icmp_ge (by omega) (by omega) zd_3_7_84 (fun c46 => ?_) (fun c46 => ?_)
  · refine zz_aload_n (x := 1076) rfl zd_3_7_109 ?_
    refine zz_iconst zd_3_7_110 ?_
    refine zz_iload_n (x := x3) rfl zd_3_7_111 ?_
    have g47 := zz_G.r G_S 1076 1 0 1000000 rfl rfl
    have g48 := zz_G.r G_S0 1076 3 (-1) 23 rfl rfl
    have e49 : S 1076 3 = S0 1076 3 := (zz_rc F_S rfl rfl (by omega) rfl)
    have g50 := zz_G.r G_S0 1076 4 (-1) 23 rfl rfl
    have e51 : S 1076 4 = S0 1076 4 := (zz_rc F_S rfl rfl (by omega) rfl)
    have g52 := zz_G.r G_S0 1076 5 (-1) 23 rfl rfl
    have e53 : S 1076 5 = S0 1076 5 := (zz_rc F_S rfl rfl (by omega) rfl)
    refine zz_callVV [zi 0, zi x3] zd_3_7_112 zk_Compiler_188 zT_1076 (zz_ltn hn rfl) rfl rfl ⟨Nat.le_of_ble_eq_true rfl, Nat.le_of_ble_eq_true rfl⟩ ⟨rfl, rfl⟩ (Nat.zero_le _) (Nat.zero_le _) (zc_clearPlaces_3_9 0 x3 S n hn G_S (by omega) (by omega) (by omega) (by omega)) (fun S54 hP => ?_)
    obtain ⟨G_S54, fS54, o56⟩ := hP
    have g57 := zz_G.r G_S 1076 0 0 1 rfl rfl
    have F_S54 := zz_fr.trans F_S fS54 rfl (fun a i h => Or.inr (Or.inl (h ▸ zM_k4 (z := (S 1076 0)) (by omega) rfl)))
    have b58 := zz_rf4 (z := (S 1076 0)) (by omega)
    refine zz_aload_n (x := 1076) rfl zd_3_7_115 ?_
    refine zz_iload_n (x := x3) rfl zd_3_7_116 ?_
    refine zz_iload (x := x4) rfl zd_3_7_117 ?_
    refine zz_aload_n (x := 1076) rfl zd_3_7_119 ?_
    refine zz_getr (kd := 4) (z := S0 1076 4) zd_3_7_120 zf_Compiler_55 zT_1076 rfl (zz_ltn hn rfl) (zz_rc fS54 rfl rfl (by omega) (zz_rc F_S rfl rfl (by omega) rfl)) (by omega) (zz_rf 6 (S0 1076 4)) rfl ?_
    refine zz_iload_n (x := x2) rfl zd_3_7_123 ?_
    refine zz_aload_n (x := 1076) rfl zd_3_7_124 ?_
    refine zz_iload_n (x := x3) rfl zd_3_7_125 ?_
    have e59 : S54 1076 3 = S0 1076 3 := (zz_rc fS54 rfl rfl (by omega) (zz_rc F_S rfl rfl (by omega) rfl))
    have e60 : S54 1076 4 = S0 1076 4 := (zz_rc fS54 rfl rfl (by omega) (zz_rc F_S rfl rfl (by omega) rfl))
    have e61 : S54 1076 5 = S0 1076 5 := (zz_rc fS54 rfl rfl (by omega) (zz_rc F_S rfl rfl (by omega) rfl))
    refine zz_callVI [zi x3] zd_3_7_126 zk_Compiler_191 zT_1076 (zz_ltn hn rfl) rfl rfl ⟨Nat.le_of_ble_eq_true rfl, Nat.le_of_ble_eq_true rfl⟩ ⟨rfl, rfl⟩ (Nat.zero_le _) (Nat.zero_le _) (zc_metColumn_3_8 x3 S54 n hn G_S54 (by omega) (by omega)) (fun v63 S62 hP => ?_)
    obtain ⟨rfl, o64⟩ := hP
    refine zz_iload_n (x := p0) rfl zd_3_7_129 ?_
    refine zz_callVI [zi x2, zi v63, zi p0] zd_3_7_130 zk_Compiler_147 (zT_k6 (by omega)) (zN_k6 hn (by omega)) rfl rfl ⟨Nat.le_of_ble_eq_true rfl, Nat.le_of_ble_eq_true rfl⟩ ⟨rfl, rfl⟩ (Nat.zero_le _) (Nat.zero_le _) (zc_cellAt_4_15 (S0 1076 4) x2 v63 p0 S54 n hn G_S54 (by omega) (by omega) (by omega) (by omega)) (fun v66 S65 hP => ?_)
    obtain ⟨rfl, o67⟩ := hP
    refine zz_aload_n (x := 1076) rfl zd_3_7_133 ?_
    refine zz_getr (kd := 4) (z := S0 1076 3) zd_3_7_134 zf_Compiler_51 zT_1076 rfl (zz_ltn hn rfl) (zz_rc fS54 rfl rfl (by omega) (zz_rc F_S rfl rfl (by omega) rfl)) (by omega) (zz_rf 6 (S0 1076 3)) rfl ?_
    have g68 := zz_G.r G_S0 (zz_rf 6 (S0 1076 3)) 5 (-2147483648) 2147483647 (zR_k6_5 (by omega)) (zB_k6 (by omega))
    refine zz_geti (z := S0 (zz_rf 6 (S0 1076 3)) 5) zd_3_7_137 zf_Compiler_182 (zT_k6 (by omega)) rfl (zN_k6 hn (by omega)) (zz_rc fS54 (zP_k6 (by omega) rfl) (zQ_k6 (by omega) rfl) (by omega) (zz_rc F_S (zP_k6 (by omega) rfl) (zQ_k6 (by omega) rfl) (by omega) rfl)) ?_
    refine zz_aload_n (x := 1076) rfl zd_3_7_140 ?_
    refine zz_getr (kd := 4) (z := S0 1076 4) zd_3_7_141 zf_Compiler_55 zT_1076 rfl (zz_ltn hn rfl) (zz_rc fS54 rfl rfl (by omega) (zz_rc F_S rfl rfl (by omega) rfl)) (by omega) (zz_rf 6 (S0 1076 4)) rfl ?_
    have g69 := zz_G.r G_S0 (zz_rf 6 (S0 1076 4)) 12 (-2147483648) 2147483647 (zR_k6_12 (by omega)) (zB_k6 (by omega))
    refine zz_geti (z := S0 (zz_rf 6 (S0 1076 4)) 12) zd_3_7_144 zf_Compiler_79 (zT_k6 (by omega)) rfl (zN_k6 hn (by omega)) (zz_rc fS54 (zP_k6 (by omega) rfl) (zQ_k6 (by omega) rfl) (by omega) (zz_rc F_S (zP_k6 (by omega) rfl) (zQ_k6 (by omega) rfl) (by omega) rfl)) ?_
    refine zz_imul zd_3_7_147 ?_
    refine zz_nrm (fun v70 hv70 ev70 => ?_)
    have g71 := zz_G.r G_S54 1076 1 0 1000000 rfl rfl
    refine zz_callVV [zi x3, zi x4, zi v66, zi v70] zd_3_7_148 zk_Compiler_159 zT_1076 (zz_ltn hn rfl) rfl rfl ⟨Nat.le_of_ble_eq_true rfl, Nat.le_of_ble_eq_true rfl⟩ ⟨rfl, rfl⟩ (Nat.zero_le _) (Nat.zero_le _) (zc_loadPlaces_3_10 x3 x4 v66 v70 S54 n hn G_S54 (by omega) (by omega) (by omega) (by omega) (by omega) (by omega)) (fun S72 hP => ?_)
    obtain ⟨G_S72, fS72, o74⟩ := hP
    have g75 := zz_G.r G_S54 1076 0 0 1 rfl rfl
    have F_S72 := zz_fr.trans F_S54 fS72 rfl (fun a i h => Or.inr (Or.inl (h ▸ zM_k4 (z := (S54 1076 0)) (by omega) rfl)))
    have b76 := zz_rf4 (z := (S54 1076 0)) (by omega)
    refine zz_aload_n (x := 1076) rfl zd_3_7_151 ?_
    refine zz_iload (x := x4) rfl zd_3_7_152 ?_
    refine zz_aload_n (x := 1076) rfl zd_3_7_154 ?_
    refine zz_geti (z := S0 1076 11) zd_3_7_155 zf_Compiler_91 zT_1076 rfl (zz_ltn hn rfl) (zz_rc fS72 rfl rfl (by omega) (zz_rc fS54 rfl rfl (by omega) (zz_rc F_S rfl rfl (by omega) rfl))) ?_
    have g77 := zz_G.r G_S72 1076 1 0 1000000 rfl rfl
    have e78 : S72 1076 3 = S0 1076 3 := (zz_rc fS72 rfl rfl (by omega) (zz_rc fS54 rfl rfl (by omega) (zz_rc F_S rfl rfl (by omega) rfl)))
    have e79 : S72 1076 4 = S0 1076 4 := (zz_rc fS72 rfl rfl (by omega) (zz_rc fS54 rfl rfl (by omega) (zz_rc F_S rfl rfl (by omega) rfl)))
    have e80 : S72 1076 5 = S0 1076 5 := (zz_rc fS72 rfl rfl (by omega) (zz_rc fS54 rfl rfl (by omega) (zz_rc F_S rfl rfl (by omega) rfl)))
    refine zz_callVV [zi x4, zi (S0 1076 11)] zd_3_7_158 zk_Compiler_188 zT_1076 (zz_ltn hn rfl) rfl rfl ⟨Nat.le_of_ble_eq_true rfl, Nat.le_of_ble_eq_true rfl⟩ ⟨rfl, rfl⟩ (Nat.zero_le _) (Nat.zero_le _) (zc_clearPlaces_3_9 x4 (S0 1076 11) S72 n hn G_S72 (by omega) (by omega) (by omega) (by omega)) (fun S81 hP => ?_)
    obtain ⟨G_S81, fS81, o83⟩ := hP
    have g84 := zz_G.r G_S72 1076 0 0 1 rfl rfl
    have F_S81 := zz_fr.trans F_S72 fS81 rfl (fun a i h => Or.inr (Or.inl (h ▸ zM_k4 (z := (S72 1076 0)) (by omega) rfl)))
    have b85 := zz_rf4 (z := (S72 1076 0)) (by omega)
    have g86 := zz_G.r G_S81 1076 1 0 1000000 rfl rfl
    exact zz_vret zd_3_7_161 rfl (Nat.zero_le _) (Nat.zero_le _) ⟨_, rfl, G_S81, F_S81, by omega⟩
  · refine zz_aload_n (x := 1076) rfl zd_3_7_87 ?_
    refine zz_iload (x := x4) rfl zd_3_7_88 ?_
    have g87 := zz_G.r G_S0 1076 3 (-1) 23 rfl rfl
    have e88 : S 1076 3 = S0 1076 3 := (zz_rc F_S rfl rfl (by omega) rfl)
    have g89 := zz_G.r G_S0 1076 4 (-1) 23 rfl rfl
    have e90 : S 1076 4 = S0 1076 4 := (zz_rc F_S rfl rfl (by omega) rfl)
    have g91 := zz_G.r G_S0 1076 5 (-1) 23 rfl rfl
    have e92 : S 1076 5 = S0 1076 5 := (zz_rc F_S rfl rfl (by omega) rfl)
    refine zz_callVI [zi x4] zd_3_7_90 zk_Compiler_191 zT_1076 (zz_ltn hn rfl) rfl rfl ⟨Nat.le_of_ble_eq_true rfl, Nat.le_of_ble_eq_true rfl⟩ ⟨rfl, rfl⟩ (Nat.zero_le _) (Nat.zero_le _) (zc_metColumn_3_8 x4 S n hn G_S (by omega) (by omega)) (fun v94 S93 hP => ?_)
    obtain ⟨rfl, o95⟩ := hP
    refine zz_aload_n (x := 1076) rfl zd_3_7_93 ?_
    refine zz_getr (kd := 4) (z := S0 1076 4) zd_3_7_94 zf_Compiler_55 zT_1076 rfl (zz_ltn hn rfl) (zz_rc F_S rfl rfl (by omega) rfl) (by omega) (zz_rf 6 (S0 1076 4)) rfl ?_
    have g96 := zz_G.r G_S0 (zz_rf 6 (S0 1076 4)) 11 (-2147483648) 2147483647 (zR_k6_11 (by omega)) (zB_k6 (by omega))
    refine zz_geti (z := S0 (zz_rf 6 (S0 1076 4)) 11) zd_3_7_97 zf_Compiler_67 (zT_k6 (by omega)) rfl (zN_k6 hn (by omega)) (zz_rc F_S (zP_k6 (by omega) rfl) (zQ_k6 (by omega) rfl) (by omega) rfl) ?_
    refine zz_icmp_ge (by omega) (by omega) zd_3_7_100 (fun c97 => ?_) (fun c97 => ?_)
    · refine zz_aload_n (x := 1076) rfl zd_3_7_109 ?_
      refine zz_iconst zd_3_7_110 ?_
      refine zz_iload_n (x := x3) rfl zd_3_7_111 ?_
      have g98 := zz_G.r G_S 1076 1 0 1000000 rfl rfl
      refine zz_callVV [zi 0, zi x3] zd_3_7_112 zk_Compiler_188 zT_1076 (zz_ltn hn rfl) rfl rfl ⟨Nat.le_of_ble_eq_true rfl, Nat.le_of_ble_eq_true rfl⟩ ⟨rfl, rfl⟩ (Nat.zero_le _) (Nat.zero_le _) (zc_clearPlaces_3_9 0 x3 S n hn G_S (by omega) (by omega) (by omega) (by omega)) (fun S99 hP => ?_)
      obtain ⟨G_S99, fS99, o101⟩ := hP
      have g102 := zz_G.r G_S 1076 0 0 1 rfl rfl
      have F_S99 := zz_fr.trans F_S fS99 rfl (fun a i h => Or.inr (Or.inl (h ▸ zM_k4 (z := (S 1076 0)) (by omega) rfl)))
      have b103 := zz_rf4 (z := (S 1076 0)) (by omega)
      refine zz_aload_n (x := 1076) rfl zd_3_7_115 ?_
      refine zz_iload_n (x := x3) rfl zd_3_7_116 ?_
      refine zz_iload (x := x4) rfl zd_3_7_117 ?_
      refine zz_aload_n (x := 1076) rfl zd_3_7_119 ?_
      refine zz_getr (kd := 4) (z := S0 1076 4) zd_3_7_120 zf_Compiler_55 zT_1076 rfl (zz_ltn hn rfl) (zz_rc fS99 rfl rfl (by omega) (zz_rc F_S rfl rfl (by omega) rfl)) (by omega) (zz_rf 6 (S0 1076 4)) rfl ?_
      refine zz_iload_n (x := x2) rfl zd_3_7_123 ?_
      refine zz_aload_n (x := 1076) rfl zd_3_7_124 ?_
      refine zz_iload_n (x := x3) rfl zd_3_7_125 ?_
      have e104 : S99 1076 3 = S0 1076 3 := (zz_rc fS99 rfl rfl (by omega) (zz_rc F_S rfl rfl (by omega) rfl))
      have e105 : S99 1076 4 = S0 1076 4 := (zz_rc fS99 rfl rfl (by omega) (zz_rc F_S rfl rfl (by omega) rfl))
      have e106 : S99 1076 5 = S0 1076 5 := (zz_rc fS99 rfl rfl (by omega) (zz_rc F_S rfl rfl (by omega) rfl))
      refine zz_callVI [zi x3] zd_3_7_126 zk_Compiler_191 zT_1076 (zz_ltn hn rfl) rfl rfl ⟨Nat.le_of_ble_eq_true rfl, Nat.le_of_ble_eq_true rfl⟩ ⟨rfl, rfl⟩ (Nat.zero_le _) (Nat.zero_le _) (zc_metColumn_3_8 x3 S99 n hn G_S99 (by omega) (by omega)) (fun v108 S107 hP => ?_)
      obtain ⟨rfl, o109⟩ := hP
      refine zz_iload_n (x := p0) rfl zd_3_7_129 ?_
      refine zz_callVI [zi x2, zi v108, zi p0] zd_3_7_130 zk_Compiler_147 (zT_k6 (by omega)) (zN_k6 hn (by omega)) rfl rfl ⟨Nat.le_of_ble_eq_true rfl, Nat.le_of_ble_eq_true rfl⟩ ⟨rfl, rfl⟩ (Nat.zero_le _) (Nat.zero_le _) (zc_cellAt_4_15 (S0 1076 4) x2 v108 p0 S99 n hn G_S99 (by omega) (by omega) (by omega) (by omega)) (fun v111 S110 hP => ?_)
      obtain ⟨rfl, o112⟩ := hP
      refine zz_aload_n (x := 1076) rfl zd_3_7_133 ?_
      refine zz_getr (kd := 4) (z := S0 1076 3) zd_3_7_134 zf_Compiler_51 zT_1076 rfl (zz_ltn hn rfl) (zz_rc fS99 rfl rfl (by omega) (zz_rc F_S rfl rfl (by omega) rfl)) (by omega) (zz_rf 6 (S0 1076 3)) rfl ?_
      have g113 := zz_G.r G_S0 (zz_rf 6 (S0 1076 3)) 5 (-2147483648) 2147483647 (zR_k6_5 (by omega)) (zB_k6 (by omega))
      refine zz_geti (z := S0 (zz_rf 6 (S0 1076 3)) 5) zd_3_7_137 zf_Compiler_182 (zT_k6 (by omega)) rfl (zN_k6 hn (by omega)) (zz_rc fS99 (zP_k6 (by omega) rfl) (zQ_k6 (by omega) rfl) (by omega) (zz_rc F_S (zP_k6 (by omega) rfl) (zQ_k6 (by omega) rfl) (by omega) rfl)) ?_
      refine zz_aload_n (x := 1076) rfl zd_3_7_140 ?_
      refine zz_getr (kd := 4) (z := S0 1076 4) zd_3_7_141 zf_Compiler_55 zT_1076 rfl (zz_ltn hn rfl) (zz_rc fS99 rfl rfl (by omega) (zz_rc F_S rfl rfl (by omega) rfl)) (by omega) (zz_rf 6 (S0 1076 4)) rfl ?_
      have g114 := zz_G.r G_S0 (zz_rf 6 (S0 1076 4)) 12 (-2147483648) 2147483647 (zR_k6_12 (by omega)) (zB_k6 (by omega))
      refine zz_geti (z := S0 (zz_rf 6 (S0 1076 4)) 12) zd_3_7_144 zf_Compiler_79 (zT_k6 (by omega)) rfl (zN_k6 hn (by omega)) (zz_rc fS99 (zP_k6 (by omega) rfl) (zQ_k6 (by omega) rfl) (by omega) (zz_rc F_S (zP_k6 (by omega) rfl) (zQ_k6 (by omega) rfl) (by omega) rfl)) ?_
      refine zz_imul zd_3_7_147 ?_
      refine zz_nrm (fun v115 hv115 ev115 => ?_)
      have g116 := zz_G.r G_S99 1076 1 0 1000000 rfl rfl
      refine zz_callVV [zi x3, zi x4, zi v111, zi v115] zd_3_7_148 zk_Compiler_159 zT_1076 (zz_ltn hn rfl) rfl rfl ⟨Nat.le_of_ble_eq_true rfl, Nat.le_of_ble_eq_true rfl⟩ ⟨rfl, rfl⟩ (Nat.zero_le _) (Nat.zero_le _) (zc_loadPlaces_3_10 x3 x4 v111 v115 S99 n hn G_S99 (by omega) (by omega) (by omega) (by omega) (by omega) (by omega)) (fun S117 hP => ?_)
      obtain ⟨G_S117, fS117, o119⟩ := hP
      have g120 := zz_G.r G_S99 1076 0 0 1 rfl rfl
      have F_S117 := zz_fr.trans F_S99 fS117 rfl (fun a i h => Or.inr (Or.inl (h ▸ zM_k4 (z := (S99 1076 0)) (by omega) rfl)))
      have b121 := zz_rf4 (z := (S99 1076 0)) (by omega)
      refine zz_aload_n (x := 1076) rfl zd_3_7_151 ?_
      refine zz_iload (x := x4) rfl zd_3_7_152 ?_
      refine zz_aload_n (x := 1076) rfl zd_3_7_154 ?_
      refine zz_geti (z := S0 1076 11) zd_3_7_155 zf_Compiler_91 zT_1076 rfl (zz_ltn hn rfl) (zz_rc fS117 rfl rfl (by omega) (zz_rc fS99 rfl rfl (by omega) (zz_rc F_S rfl rfl (by omega) rfl))) ?_
      have g122 := zz_G.r G_S117 1076 1 0 1000000 rfl rfl
      have e123 : S117 1076 3 = S0 1076 3 := (zz_rc fS117 rfl rfl (by omega) (zz_rc fS99 rfl rfl (by omega) (zz_rc F_S rfl rfl (by omega) rfl)))
      have e124 : S117 1076 4 = S0 1076 4 := (zz_rc fS117 rfl rfl (by omega) (zz_rc fS99 rfl rfl (by omega) (zz_rc F_S rfl rfl (by omega) rfl)))
      have e125 : S117 1076 5 = S0 1076 5 := (zz_rc fS117 rfl rfl (by omega) (zz_rc fS99 rfl rfl (by omega) (zz_rc F_S rfl rfl (by omega) rfl)))
      refine zz_callVV [zi x4, zi (S0 1076 11)] zd_3_7_158 zk_Compiler_188 zT_1076 (zz_ltn hn rfl) rfl rfl ⟨Nat.le_of_ble_eq_true rfl, Nat.le_of_ble_eq_true rfl⟩ ⟨rfl, rfl⟩ (Nat.zero_le _) (Nat.zero_le _) (zc_clearPlaces_3_9 x4 (S0 1076 11) S117 n hn G_S117 (by omega) (by omega) (by omega) (by omega)) (fun S126 hP => ?_)
      obtain ⟨G_S126, fS126, o128⟩ := hP
      have g129 := zz_G.r G_S117 1076 0 0 1 rfl rfl
      have F_S126 := zz_fr.trans F_S117 fS126 rfl (fun a i h => Or.inr (Or.inl (h ▸ zM_k4 (z := (S117 1076 0)) (by omega) rfl)))
      have b130 := zz_rf4 (z := (S117 1076 0)) (by omega)
      have g131 := zz_G.r G_S126 1076 1 0 1000000 rfl rfl
      exact zz_vret zd_3_7_161 rfl (Nat.zero_le _) (Nat.zero_le _) ⟨_, rfl, G_S126, F_S126, by omega⟩
    · refine zz_iinc [some (.ref 1076), some (zi p0), some (zi x2), some (zi x3), some (zi (x4 + 1))] zd_3_7_103 rfl rfl ?_
      refine zz_goto zd_3_7_106 ?_
      refine zz_less (ls1 := [some (.ref 1076), some (zi p0), some (zi x2), some (zi x3), some (zi (x4 + 1))]) ⟨rfl, ⟨rfl, ⟨rfl, ⟨rfl, ⟨rfl, trivial⟩⟩⟩⟩⟩ ?_
      exact k78 x2 x3 (x4 + 1) S G_S F_S (by omega) (by omega) (by omega) (by omega)
theorem zi_loadMet_3_7 {g : mm_G} {l : Launch} (p0 : Int) (S0 : zz_S) (n : Nat) (hn : zz_end ≤ n) (G_S0 : zz_G S0) (hp0 : (-2147483648) ≤ p0 ∧ p0 ≤ 2147483647) (hq : S0 1076 1 ≤ 900000) (hl : 0 ≤ S0 1076 3 ∧ 0 ≤ S0 1076 4 ∧ 0 ≤ S0 1076 5) : ∀ N : Nat, (∀ (x2 : Int) (x3 : Int) (S : zz_S), zz_G S → zz_fr [(1076, 1)] [1029, 1030] (fun a i => a = zz_rf 4 (S0 1076 0)) S0 S → (0 ≤ x2 ∧ x2 ≤ 2147483646) → (0 ≤ x3 ∧ x3 ≤ 2147483647) → (34359738368 + (S0 1076 11 - x3).toNat) < N → zz_E g l zy_loadMet_3_7 zr_loadMet_3_7 (zz_QV n (zp_loadMet_3_7 p0 S0)) S n 53 [some (.ref 1076), some (zi p0), some (zi x2), some (zi x3)] [] 0 0) ∧ (∀ (x2 : Int) (x3 : Int) (x4 : Int) (S : zz_S), zz_G S → zz_fr [(1076, 1)] [1029, 1030] (fun a i => a = zz_rf 4 (S0 1076 0)) S0 S → (0 ≤ x2 ∧ x2 ≤ 2147483646) → (0 ≤ x3 ∧ x3 ≤ 2147483647) → (0 ≤ x4 ∧ x4 ≤ 2147483647) → (17179869184 + (S0 1076 11 - x4).toNat) < N → zz_E g l zy_loadMet_3_7 zr_loadMet_3_7 (zz_QV n (zp_loadMet_3_7 p0 S0)) S n 78 [some (.ref 1076), some (zi p0), some (zi x2), some (zi x3), some (zi x4)] [] 0 0) := by
  intro N
  induction N with
  | zero => exact ⟨fun x2 x3 S _ _ _ _ h => absurd h (Nat.not_lt_zero _), fun x2 x3 x4 S _ _ _ _ _ h => absurd h (Nat.not_lt_zero _)⟩
  | succ N ih =>
    exact ⟨fun x2 x3 S a b j0 j1 hR => zb_loadMet_3_7_53 p0 S0 n hn G_S0 hp0 hq hl x2 x3 S a b j0 j1 _ rfl (fun x2 x3 S a b j0 j1 h => ih.1 x2 x3 S a b j0 j1 (Nat.lt_of_lt_of_le h (Nat.le_of_lt_succ hR))) (fun x2 x3 x4 S a b j0 j1 j2 h => ih.2 x2 x3 x4 S a b j0 j1 j2 (Nat.lt_of_lt_of_le h (Nat.le_of_lt_succ hR))),
      fun x2 x3 x4 S a b j0 j1 j2 hR => zb_loadMet_3_7_78 p0 S0 n hn G_S0 hp0 hq hl x2 x3 x4 S a b j0 j1 j2 _ rfl (fun x2 x3 x4 S a b j0 j1 j2 h => ih.2 x2 x3 x4 S a b j0 j1 j2 (Nat.lt_of_lt_of_le h (Nat.le_of_lt_succ hR)))⟩
theorem zc_loadMet_3_7 {g : mm_G} {l : Launch} (p0 : Int) (S0 : zz_S) (n : Nat) (hn : zz_end ≤ n) (G_S0 : zz_G S0) (hp0 : (-2147483648) ≤ p0 ∧ p0 ≤ 2147483647) (hq : S0 1076 1 ≤ 900000) (hl : 0 ≤ S0 1076 3 ∧ 0 ≤ S0 1076 4 ∧ 0 ≤ S0 1076 5) : mm_Met g l zy_loadMet_3_7 zr_loadMet_3_7 [.ref 1076, zi p0] (zz_M S0 n) n (zz_QV n (zp_loadMet_3_7 p0 S0)) := by
  refine zz_enter (by decide) (Nat.le_of_ble_eq_true rfl) (zz_less (ls1 := [some (.ref 1076), some (zi p0)]) ⟨rfl, ⟨rfl, trivial⟩⟩ ?_)
  have F_S0 : zz_fr [(1076, 1)] [1029, 1030] (fun a i => a = zz_rf 4 (S0 1076 0)) S0 S0 := zz_fr.refl
  have k53 : ∀ (x2 : Int) (x3 : Int) (S : zz_S), zz_G S → zz_fr [(1076, 1)] [1029, 1030] (fun a i => a = zz_rf 4 (S0 1076 0)) S0 S → (0 ≤ x2 ∧ x2 ≤ 2147483646) → (0 ≤ x3 ∧ x3 ≤ 2147483647) → zz_E g l zy_loadMet_3_7 zr_loadMet_3_7 (zz_QV n (zp_loadMet_3_7 p0 S0)) S n 53 [some (.ref 1076), some (zi p0), some (zi x2), some (zi x3)] [] 0 0 := fun x2 x3 S a b j0 j1 => (zi_loadMet_3_7 (g := g) (l := l) p0 S0 n hn G_S0 hp0 hq hl _).1 x2 x3 S a b j0 j1 (Nat.lt_succ_self _)
  refine zz_aload_n (x := 1076) rfl zd_3_7_0 ?_
  have g1 := zz_G.r G_S0 1076 3 (-1) 23 rfl rfl
  refine zz_getr (kd := 4) (z := S0 1076 3) zd_3_7_1 zf_Compiler_51 zT_1076 rfl (zz_ltn hn rfl) rfl (by omega) (zz_rf 6 (S0 1076 3)) rfl ?_
  have g2 := zz_G.r G_S0 (zz_rf 6 (S0 1076 3)) 5 (-2147483648) 2147483647 (zR_k6_5 (by omega)) (zB_k6 (by omega))
  refine zz_geti (z := S0 (zz_rf 6 (S0 1076 3)) 5) zd_3_7_4 zf_Compiler_182 (zT_k6 (by omega)) rfl (zN_k6 hn (by omega)) rfl ?_
  refine zz_aload_n (x := 1076) rfl zd_3_7_7 ?_
  have g3 := zz_G.r G_S0 1076 9 (-2147483648) 2147483647 rfl rfl
  refine zz_geti (z := S0 1076 9) zd_3_7_8 zf_Compiler_85 zT_1076 rfl (zz_ltn hn rfl) rfl ?_
  refine zz_imul zd_3_7_11 ?_
  refine zz_nrm (fun v4 hv4 ev4 => ?_)
  refine zz_aload_n (x := 1076) rfl zd_3_7_12 ?_
  have g5 := zz_G.r G_S0 1076 13 (-2147483648) 2147483647 rfl rfl
  refine zz_geti (z := S0 1076 13) zd_3_7_13 zf_Compiler_106 zT_1076 rfl (zz_ltn hn rfl) rfl ?_
  refine zz_iadd zd_3_7_16 ?_
  refine zz_nrm (fun v6 hv6 ev6 => ?_)
  refine zz_aload_n (x := 1076) rfl zd_3_7_17 ?_
  refine zz_getr (kd := 4) (z := S0 1076 3) zd_3_7_18 zf_Compiler_51 zT_1076 rfl (zz_ltn hn rfl) rfl (by omega) (zz_rf 6 (S0 1076 3)) rfl ?_
  have g7 := zz_G.r G_S0 (zz_rf 6 (S0 1076 3)) 6 (-2147483648) 2147483647 (zR_k6_6 (by omega)) (zB_k6 (by omega))
  refine zz_geti (z := S0 (zz_rf 6 (S0 1076 3)) 6) zd_3_7_21 zf_Compiler_185 (zT_k6 (by omega)) rfl (zN_k6 hn (by omega)) rfl ?_
  refine zz_isub zd_3_7_24 ?_
  refine zz_nrm (fun v8 hv8 ev8 => ?_)
  refine zz_istore_n [some (.ref 1076), some (zi p0), some (zi v8)] zd_3_7_25 (by decide) rfl ?_
  refine zz_iload_n (x := v8) rfl zd_3_7_26 ?_
  refine zz_if_lt (by omega) zd_3_7_27 (fun c9 => ?_) (fun c9 => ?_)
  · refine zz_aload_n (x := 1076) rfl zd_3_7_41 ?_
    refine zz_iconst zd_3_7_42 ?_
    refine zz_aload_n (x := 1076) rfl zd_3_7_43 ?_
    have g10 := zz_G.r G_S0 1076 11 (-2147483648) 2147483647 rfl rfl
    refine zz_geti (z := S0 1076 11) zd_3_7_44 zf_Compiler_91 zT_1076 rfl (zz_ltn hn rfl) rfl ?_
    have g11 := zz_G.r G_S0 1076 1 0 1000000 rfl rfl
    have g12 := zz_G.r G_S0 1076 4 (-1) 23 rfl rfl
    have g13 := zz_G.r G_S0 1076 5 (-1) 23 rfl rfl
    refine zz_callVV [zi 0, zi (S0 1076 11)] zd_3_7_47 zk_Compiler_188 zT_1076 (zz_ltn hn rfl) rfl rfl ⟨Nat.le_of_ble_eq_true rfl, Nat.le_of_ble_eq_true rfl⟩ ⟨rfl, rfl⟩ (Nat.zero_le _) (Nat.zero_le _) (zc_clearPlaces_3_9 0 (S0 1076 11) S0 n hn G_S0 (by omega) (by omega) (by omega) (by omega)) (fun S14 hP => ?_)
    obtain ⟨G_S14, fS14, o16⟩ := hP
    have g17 := zz_G.r G_S0 1076 0 0 1 rfl rfl
    have F_S14 := zz_fr.trans F_S0 fS14 rfl (fun a i h => Or.inr (Or.inr (h)))
    have b18 := zz_rf4 (z := (S0 1076 0)) (by omega)
    have g19 := zz_G.r G_S14 1076 1 0 1000000 rfl rfl
    exact zz_vret zd_3_7_50 rfl (Nat.zero_le _) (Nat.zero_le _) ⟨_, rfl, G_S14, F_S14, by omega⟩
  · refine zz_iload_n (x := v8) rfl zd_3_7_30 ?_
    refine zz_aload_n (x := 1076) rfl zd_3_7_31 ?_
    have g20 := zz_G.r G_S0 1076 4 (-1) 23 rfl rfl
    refine zz_getr (kd := 4) (z := S0 1076 4) zd_3_7_32 zf_Compiler_55 zT_1076 rfl (zz_ltn hn rfl) rfl (by omega) (zz_rf 6 (S0 1076 4)) rfl ?_
    have g21 := zz_G.r G_S0 (zz_rf 6 (S0 1076 4)) 10 (-2147483648) 2147483647 (zR_k6_10 (by omega)) (zB_k6 (by omega))
    refine zz_geti (z := S0 (zz_rf 6 (S0 1076 4)) 10) zd_3_7_35 zf_Compiler_64 (zT_k6 (by omega)) rfl (zN_k6 hn (by omega)) rfl ?_
    refine zz_icmp_lt (by omega) (by omega) zd_3_7_38 (fun c22 => ?_) (fun c22 => ?_)
    · refine zz_iconst zd_3_7_51 ?_
      refine zz_istore_n [some (.ref 1076), some (zi p0), some (zi v8), some (zi 0)] zd_3_7_52 (by decide) rfl ?_
      have g23 := zz_G.r G_S0 1076 11 (-2147483648) 2147483647 rfl rfl
      refine zz_less (ls1 := [some (.ref 1076), some (zi p0), some (zi v8), some (zi 0)]) ⟨rfl, ⟨rfl, ⟨rfl, ⟨rfl, trivial⟩⟩⟩⟩ ?_
      exact k53 v8 0 S0 G_S0 F_S0 (by omega) (by omega)
    · refine zz_aload_n (x := 1076) rfl zd_3_7_41 ?_
      refine zz_iconst zd_3_7_42 ?_
      refine zz_aload_n (x := 1076) rfl zd_3_7_43 ?_
      have g24 := zz_G.r G_S0 1076 11 (-2147483648) 2147483647 rfl rfl
      refine zz_geti (z := S0 1076 11) zd_3_7_44 zf_Compiler_91 zT_1076 rfl (zz_ltn hn rfl) rfl ?_
      have g25 := zz_G.r G_S0 1076 1 0 1000000 rfl rfl
      have g26 := zz_G.r G_S0 1076 5 (-1) 23 rfl rfl
      refine zz_callVV [zi 0, zi (S0 1076 11)] zd_3_7_47 zk_Compiler_188 zT_1076 (zz_ltn hn rfl) rfl rfl ⟨Nat.le_of_ble_eq_true rfl, Nat.le_of_ble_eq_true rfl⟩ ⟨rfl, rfl⟩ (Nat.zero_le _) (Nat.zero_le _) (zc_clearPlaces_3_9 0 (S0 1076 11) S0 n hn G_S0 (by omega) (by omega) (by omega) (by omega)) (fun S27 hP => ?_)
      obtain ⟨G_S27, fS27, o29⟩ := hP
      have g30 := zz_G.r G_S0 1076 0 0 1 rfl rfl
      have F_S27 := zz_fr.trans F_S0 fS27 rfl (fun a i h => Or.inr (Or.inr (h)))
      have b31 := zz_rf4 (z := (S0 1076 0)) (by omega)
      have g32 := zz_G.r G_S27 1076 1 0 1000000 rfl rfl
      exact zz_vret zd_3_7_50 rfl (Nat.zero_le _) (Nat.zero_le _) ⟨_, rfl, G_S27, F_S27, by omega⟩
theorem zk_Compiler_155 : mm_Vl "TensorForge$Compiler" 155 9 1 zy_loadMet_3_7 := ⟨zyw_loadMet_3_7, (R_Compiler, F_Compiler, 17), rfl, mm_tb_1 1446 (by decide +kernel) rfl, mm_tb_1 1448 (by decide +kernel) rfl, mm_tb_s 69 (by decide +kernel) rfl⟩
theorem zd_3_5_51 : zz_B zy_makeGroup_3_5 51 Instr.goto 102 54 := ⟨51, by decide +kernel, rfl, rfl⟩
theorem zd_3_5_16 : zz_D zy_makeGroup_3_5 16 (.aload_n 0) 1 17 := ⟨by decide +kernel, rfl⟩
theorem zd_3_5_17 : zz_D zy_makeGroup_3_5 17 (.iload_n 1) 1 18 := ⟨by decide +kernel, rfl⟩
theorem zd_3_5_18 : zz_D zy_makeGroup_3_5 18 (.invokevirtual 151) 3 21 := ⟨by decide +kernel, rfl⟩
abbrev zy_loadParameters_3_6 : mm_Y := (⟨"TensorForge$Compiler", "loadParameters", "(Z)V"⟩, prog_3_method_6_code, 2, none)
theorem zyw_loadParameters_3_6 : mm_Yw zy_loadParameters_3_6 1 := ⟨mm_tb_1 1427 (by decide +kernel) rfl, mm_tb_1 10 (by decide +kernel) rfl, ⟨by decide, by decide⟩, by decide +kernel⟩
theorem zd_3_6_0 : zz_D zy_loadParameters_3_6 0 (.iload_n 1) 1 1 := ⟨by decide +kernel, rfl⟩
theorem zd_3_6_1 : zz_B zy_loadParameters_3_6 1 (Instr.ifCond .eq) 46 4 := ⟨45, by decide +kernel, rfl, rfl⟩
theorem zd_3_6_46 : zz_D zy_loadParameters_3_6 46 (.aload_n 0) 1 47 := ⟨by decide +kernel, rfl⟩
theorem zd_3_6_47 : zz_D zy_loadParameters_3_6 47 (.iconst 2) 1 48 := ⟨by decide +kernel, rfl⟩
theorem zd_3_6_48 : zz_D zy_loadParameters_3_6 48 (.aload_n 0) 1 49 := ⟨by decide +kernel, rfl⟩
theorem zd_3_6_49 : zz_D zy_loadParameters_3_6 49 (.getfield 115) 3 52 := ⟨by decide +kernel, rfl⟩
theorem zd_3_6_52 : zz_D zy_loadParameters_3_6 52 (.aload_n 0) 1 53 := ⟨by decide +kernel, rfl⟩
theorem zd_3_6_53 : zz_D zy_loadParameters_3_6 53 (.getfield 82) 3 56 := ⟨by decide +kernel, rfl⟩
theorem zd_3_6_56 : zz_D zy_loadParameters_3_6 56 (.invokestatic 128) 3 59 := ⟨by decide +kernel, rfl⟩
theorem zd_3_6_59 : zz_D zy_loadParameters_3_6 59 (.bipush 8) 2 61 := ⟨by decide +kernel, rfl⟩
theorem zd_3_6_61 : zz_D zy_loadParameters_3_6 61 (.aload_n 0) 1 62 := ⟨by decide +kernel, rfl⟩
theorem zd_3_6_62 : zz_D zy_loadParameters_3_6 62 (.invokevirtual 175) 3 65 := ⟨by decide +kernel, rfl⟩
theorem zd_3_6_65 : zz_D zy_loadParameters_3_6 65 (.invokestatic 132) 3 68 := ⟨by decide +kernel, rfl⟩
theorem zd_3_6_68 : zz_D zy_loadParameters_3_6 68 (.lor) 1 69 := ⟨by decide +kernel, rfl⟩
theorem zd_3_6_69 : zz_D zy_loadParameters_3_6 69 (.iconst 5) 1 70 := ⟨by decide +kernel, rfl⟩
theorem zd_3_6_70 : zz_D zy_loadParameters_3_6 70 (.aload_n 0) 1 71 := ⟨by decide +kernel, rfl⟩
theorem zd_3_6_71 : zz_D zy_loadParameters_3_6 71 (.getfield 51) 3 74 := ⟨by decide +kernel, rfl⟩
theorem zd_3_6_74 : zz_D zy_loadParameters_3_6 74 (.aload_n 0) 1 75 := ⟨by decide +kernel, rfl⟩
theorem zd_3_6_75 : zz_D zy_loadParameters_3_6 75 (.getfield 55) 3 78 := ⟨by decide +kernel, rfl⟩
theorem zd_3_6_78 : zz_D zy_loadParameters_3_6 78 (.aload_n 0) 1 79 := ⟨by decide +kernel, rfl⟩
theorem zd_3_6_79 : zz_D zy_loadParameters_3_6 79 (.getfield 106) 3 82 := ⟨by decide +kernel, rfl⟩
theorem zd_3_6_82 : zz_D zy_loadParameters_3_6 82 (.aload_n 0) 1 83 := ⟨by decide +kernel, rfl⟩
theorem zd_3_6_83 : zz_D zy_loadParameters_3_6 83 (.getfield 109) 3 86 := ⟨by decide +kernel, rfl⟩
theorem zd_3_6_86 : zz_D zy_loadParameters_3_6 86 (.aload_n 0) 1 87 := ⟨by decide +kernel, rfl⟩
theorem zd_3_6_87 : zz_D zy_loadParameters_3_6 87 (.getfield 112) 3 90 := ⟨by decide +kernel, rfl⟩
theorem zd_3_6_90 : zz_D zy_loadParameters_3_6 90 (.aload_n 0) 1 91 := ⟨by decide +kernel, rfl⟩
theorem zd_3_6_91 : zz_D zy_loadParameters_3_6 91 (.getfield 76) 3 94 := ⟨by decide +kernel, rfl⟩
theorem zd_3_6_94 : zz_D zy_loadParameters_3_6 94 (.invokevirtual 178) 3 97 := ⟨by decide +kernel, rfl⟩
abbrev zy_weightAt_4_14 : mm_Y := (⟨"TensorForge$Layer", "weightAt", "(LTensorForge$Layer;IIII)I"⟩, prog_4_method_14_code, 7, (some .int))
theorem zyw_weightAt_4_14 : mm_Yw zy_weightAt_4_14 5 := ⟨mm_tb_1 890 (by decide +kernel) rfl, mm_tb_1 3 (by decide +kernel) rfl, ⟨by decide, by decide⟩, by decide +kernel⟩
theorem zd_4_14_0 : zz_D zy_weightAt_4_14 0 (.iload_n 2) 1 1 := ⟨by decide +kernel, rfl⟩
theorem zd_4_14_1 : zz_D zy_weightAt_4_14 1 (.aload_n 0) 1 2 := ⟨by decide +kernel, rfl⟩
theorem zd_4_14_2 : zz_D zy_weightAt_4_14 2 (.getfield 26) 3 5 := ⟨by decide +kernel, rfl⟩
theorem zd_4_14_5 : zz_D zy_weightAt_4_14 5 (.imul) 1 6 := ⟨by decide +kernel, rfl⟩
theorem zd_4_14_6 : zz_D zy_weightAt_4_14 6 (.iload_n 3) 1 7 := ⟨by decide +kernel, rfl⟩
theorem zd_4_14_7 : zz_D zy_weightAt_4_14 7 (.iadd) 1 8 := ⟨by decide +kernel, rfl⟩
theorem zd_4_14_8 : zz_D zy_weightAt_4_14 8 (.aload_n 1) 1 9 := ⟨by decide +kernel, rfl⟩
theorem zd_4_14_9 : zz_D zy_weightAt_4_14 9 (.getfield 60) 3 12 := ⟨by decide +kernel, rfl⟩
theorem zd_4_14_12 : zz_D zy_weightAt_4_14 12 (.imul) 1 13 := ⟨by decide +kernel, rfl⟩
theorem zd_4_14_13 : zz_D zy_weightAt_4_14 13 (.iload 4) 2 15 := ⟨by decide +kernel, rfl⟩
theorem zd_4_14_15 : zz_D zy_weightAt_4_14 15 (.iadd) 1 16 := ⟨by decide +kernel, rfl⟩
theorem zd_4_14_16 : zz_D zy_weightAt_4_14 16 (.istore 6) 2 18 := ⟨by decide +kernel, rfl⟩
theorem zd_4_14_18 : zz_D zy_weightAt_4_14 18 (.aload_n 0) 1 19 := ⟨by decide +kernel, rfl⟩
theorem zd_4_14_19 : zz_D zy_weightAt_4_14 19 (.getfield 42) 3 22 := ⟨by decide +kernel, rfl⟩
theorem zd_4_14_22 : zz_D zy_weightAt_4_14 22 (.iconst 4) 1 23 := ⟨by decide +kernel, rfl⟩
theorem zd_4_14_23 : zz_D zy_weightAt_4_14 23 (.aload_n 0) 1 24 := ⟨by decide +kernel, rfl⟩
theorem zd_4_14_24 : zz_D zy_weightAt_4_14 24 (.getfield 60) 3 27 := ⟨by decide +kernel, rfl⟩
theorem zd_4_14_27 : zz_D zy_weightAt_4_14 27 (.imul) 1 28 := ⟨by decide +kernel, rfl⟩
theorem zd_4_14_28 : zz_D zy_weightAt_4_14 28 (.iadd) 1 29 := ⟨by decide +kernel, rfl⟩
theorem zd_4_14_29 : zz_D zy_weightAt_4_14 29 (.iload 6) 2 31 := ⟨by decide +kernel, rfl⟩
theorem zd_4_14_31 : zz_D zy_weightAt_4_14 31 (.aload_n 0) 1 32 := ⟨by decide +kernel, rfl⟩
theorem zd_4_14_32 : zz_D zy_weightAt_4_14 32 (.getfield 60) 3 35 := ⟨by decide +kernel, rfl⟩
theorem zd_4_14_35 : zz_D zy_weightAt_4_14 35 (.imul) 1 36 := ⟨by decide +kernel, rfl⟩
theorem zd_4_14_36 : zz_D zy_weightAt_4_14 36 (.iadd) 1 37 := ⟨by decide +kernel, rfl⟩
theorem zd_4_14_37 : zz_D zy_weightAt_4_14 37 (.iload 5) 2 39 := ⟨by decide +kernel, rfl⟩
theorem zd_4_14_39 : zz_D zy_weightAt_4_14 39 (.iadd) 1 40 := ⟨by decide +kernel, rfl⟩
theorem zd_4_14_40 : zz_D zy_weightAt_4_14 40 (.ireturn) 1 41 := ⟨by decide +kernel, rfl⟩
-- TensorForge$Layer weightAt (LTensorForge$Layer;IIII)I
abbrev zr_weightAt_4_14 : Room := { frames := 0, cells := 0, slots := 0, locals := 0 }
def zp_weightAt_4_14 (t : Int) (p0 : Int) (p1 : Int) (p2 : Int) (p3 : Int) (p4 : Int) (S0 : zz_S) : Int → zz_S → Prop := fun r S => S0 = S ∧ ((-2147483648) ≤ r ∧ r ≤ 2147483647)
theorem zc_weightAt_4_14 {g : mm_G} {l : Launch} (t : Int) (p0 : Int) (p1 : Int) (p2 : Int) (p3 : Int) (p4 : Int) (S0 : zz_S) (n : Nat) (hn : zz_end ≤ n) (G_S0 : zz_G S0) (ht : 0 ≤ t ∧ t ≤ 23) (hp0 : 0 ≤ p0 ∧ p0 ≤ 23) (hp1 : (-2147483648) ≤ p1 ∧ p1 ≤ 2147483647) (hp2 : (-2147483648) ≤ p2 ∧ p2 ≤ 2147483647) (hp3 : (-2147483648) ≤ p3 ∧ p3 ≤ 2147483647) (hp4 : (-2147483648) ≤ p4 ∧ p4 ≤ 2147483647) : mm_Met g l zy_weightAt_4_14 zr_weightAt_4_14 [.ref (zz_rf 6 t), .ref (zz_rf 6 p0), zi p1, zi p2, zi p3, zi p4] (zz_M S0 n) n (zz_QI n (zp_weightAt_4_14 t p0 p1 p2 p3 p4 S0)) := by
  refine zz_enter (by decide) (Nat.le_of_ble_eq_true rfl) (zz_less (ls1 := [some (.ref (zz_rf 6 t)), some (.ref (zz_rf 6 p0)), some (zi p1), some (zi p2), some (zi p3), some (zi p4)]) ⟨rfl, ⟨rfl, ⟨rfl, ⟨rfl, ⟨rfl, ⟨rfl, trivial⟩⟩⟩⟩⟩⟩ ?_)
  have b_p0 := zz_rf6 (z := p0) (by omega)
  have b_t := zz_rf6 (z := t) (by omega)
  refine zz_iload_n (x := p1) rfl zd_4_14_0 ?_
  refine zz_aload_n (x := zz_rf 6 t) rfl zd_4_14_1 ?_
  have g1 := zz_G.r G_S0 (zz_rf 6 t) 4 (-2147483648) 2147483647 (zR_k6_4 (by omega)) (zB_k6 (by omega))
  refine zz_geti (z := S0 (zz_rf 6 t) 4) zd_4_14_2 zf_Layer_26 (zT_k6 (by omega)) rfl (zN_k6 hn (by omega)) rfl ?_
  refine zz_imul zd_4_14_5 ?_
  refine zz_nrm (fun v2 hv2 ev2 => ?_)
  refine zz_iload_n (x := p2) rfl zd_4_14_6 ?_
  refine zz_iadd zd_4_14_7 ?_
  refine zz_nrm (fun v3 hv3 ev3 => ?_)
  refine zz_aload_n (x := zz_rf 6 p0) rfl zd_4_14_8 ?_
  have g4 := zz_G.r G_S0 (zz_rf 6 p0) 12 (-2147483648) 2147483647 (zR_k6_12 (by omega)) (zB_k6 (by omega))
  refine zz_geti (z := S0 (zz_rf 6 p0) 12) zd_4_14_9 zf_Layer_60 (zT_k6 (by omega)) rfl (zN_k6 hn (by omega)) rfl ?_
  refine zz_imul zd_4_14_12 ?_
  refine zz_nrm (fun v5 hv5 ev5 => ?_)
  refine zz_iload (x := p3) rfl zd_4_14_13 ?_
  refine zz_iadd zd_4_14_15 ?_
  refine zz_nrm (fun v6 hv6 ev6 => ?_)
  refine zz_istore [some (.ref (zz_rf 6 t)), some (.ref (zz_rf 6 p0)), some (zi p1), some (zi p2), some (zi p3), some (zi p4), some (zi v6)] zd_4_14_16 (by decide) rfl ?_
  refine zz_aload_n (x := zz_rf 6 t) rfl zd_4_14_18 ?_
  have g7 := zz_G.r G_S0 (zz_rf 6 t) 9 (-2147483648) 2147483647 (zR_k6_9 (by omega)) (zB_k6 (by omega))
  refine zz_geti (z := S0 (zz_rf 6 t) 9) zd_4_14_19 zf_Layer_42 (zT_k6 (by omega)) rfl (zN_k6 hn (by omega)) rfl ?_
  refine zz_iconst zd_4_14_22 ?_
  refine zz_aload_n (x := zz_rf 6 t) rfl zd_4_14_23 ?_
  have g8 := zz_G.r G_S0 (zz_rf 6 t) 12 (-2147483648) 2147483647 (zR_k6_12 (by omega)) (zB_k6 (by omega))
  refine zz_geti (z := S0 (zz_rf 6 t) 12) zd_4_14_24 zf_Layer_60 (zT_k6 (by omega)) rfl (zN_k6 hn (by omega)) rfl ?_
  refine zz_imul zd_4_14_27 ?_
  refine zz_nrm (fun v9 hv9 ev9 => ?_)
  refine zz_iadd zd_4_14_28 ?_
  refine zz_nrm (fun v10 hv10 ev10 => ?_)
  refine zz_iload (x := v6) rfl zd_4_14_29 ?_
  refine zz_aload_n (x := zz_rf 6 t) rfl zd_4_14_31 ?_
  refine zz_geti (z := S0 (zz_rf 6 t) 12) zd_4_14_32 zf_Layer_60 (zT_k6 (by omega)) rfl (zN_k6 hn (by omega)) rfl ?_
  refine zz_imul zd_4_14_35 ?_
  refine zz_nrm (fun v11 hv11 ev11 => ?_)
  refine zz_iadd zd_4_14_36 ?_
  refine zz_nrm (fun v12 hv12 ev12 => ?_)
  refine zz_iload (x := p4) rfl zd_4_14_37 ?_
  refine zz_iadd zd_4_14_39 ?_
  refine zz_nrm (fun v13 hv13 ev13 => ?_)
  exact zz_iret zd_4_14_40 rfl (Nat.zero_le _) (Nat.zero_le _) ⟨_, _, rfl, rfl, by omega⟩
theorem zk_Compiler_178 : mm_Vl "TensorForge$Compiler" 178 2 5 zy_weightAt_4_14 := ⟨zyw_weightAt_4_14, (R_Layer, F_Layer, 15), rfl, mm_tb_1 1445 (by decide +kernel) rfl, mm_tb_1 888 (by decide +kernel) rfl, mm_tb_1 889 (by decide +kernel) rfl⟩
theorem zd_3_6_97 : zz_D zy_loadParameters_3_6 97 (.invokestatic 132) 3 100 := ⟨by decide +kernel, rfl⟩
theorem zd_3_6_100 : zz_D zy_loadParameters_3_6 100 (.lor) 1 101 := ⟨by decide +kernel, rfl⟩
theorem zd_3_6_101 : zz_D zy_loadParameters_3_6 101 (.bipush 10) 2 103 := ⟨by decide +kernel, rfl⟩
theorem zd_3_6_103 : zz_D zy_loadParameters_3_6 103 (.aload_n 0) 1 104 := ⟨by decide +kernel, rfl⟩
theorem zd_3_6_104 : zz_D zy_loadParameters_3_6 104 (.getfield 51) 3 107 := ⟨by decide +kernel, rfl⟩
theorem zd_3_6_107 : zz_D zy_loadParameters_3_6 107 (.getfield 79) 3 110 := ⟨by decide +kernel, rfl⟩
theorem zd_3_6_110 : zz_D zy_loadParameters_3_6 110 (.invokestatic 132) 3 113 := ⟨by decide +kernel, rfl⟩
theorem zd_3_6_113 : zz_D zy_loadParameters_3_6 113 (.lor) 1 114 := ⟨by decide +kernel, rfl⟩
theorem zd_3_6_114 : zz_D zy_loadParameters_3_6 114 (.invokevirtual 143) 3 117 := ⟨by decide +kernel, rfl⟩
theorem zd_3_6_117 : zz_D zy_loadParameters_3_6 117 (.return_) 1 118 := ⟨by decide +kernel, rfl⟩
theorem zd_3_6_4 : zz_D zy_loadParameters_3_6 4 (.aload_n 0) 1 5 := ⟨by decide +kernel, rfl⟩
theorem zd_3_6_5 : zz_D zy_loadParameters_3_6 5 (.iconst 4) 1 6 := ⟨by decide +kernel, rfl⟩
theorem zd_3_6_6 : zz_D zy_loadParameters_3_6 6 (.aload_n 0) 1 7 := ⟨by decide +kernel, rfl⟩
theorem zd_3_6_7 : zz_D zy_loadParameters_3_6 7 (.getfield 91) 3 10 := ⟨by decide +kernel, rfl⟩
theorem zd_3_6_10 : zz_D zy_loadParameters_3_6 10 (.aload_n 0) 1 11 := ⟨by decide +kernel, rfl⟩
theorem zd_3_6_11 : zz_D zy_loadParameters_3_6 11 (.getfield 82) 3 14 := ⟨by decide +kernel, rfl⟩
theorem zd_3_6_14 : zz_D zy_loadParameters_3_6 14 (.invokestatic 128) 3 17 := ⟨by decide +kernel, rfl⟩
theorem zd_3_6_17 : zz_D zy_loadParameters_3_6 17 (.bipush 8) 2 19 := ⟨by decide +kernel, rfl⟩
theorem zd_3_6_19 : zz_D zy_loadParameters_3_6 19 (.aload_n 0) 1 20 := ⟨by decide +kernel, rfl⟩
theorem zd_3_6_20 : zz_D zy_loadParameters_3_6 20 (.invokevirtual 122) 3 23 := ⟨by decide +kernel, rfl⟩
theorem zd_3_6_23 : zz_D zy_loadParameters_3_6 23 (.invokestatic 132) 3 26 := ⟨by decide +kernel, rfl⟩
theorem zd_3_6_26 : zz_D zy_loadParameters_3_6 26 (.lor) 1 27 := ⟨by decide +kernel, rfl⟩
theorem zd_3_6_27 : zz_D zy_loadParameters_3_6 27 (.iconst 5) 1 28 := ⟨by decide +kernel, rfl⟩
theorem zd_3_6_28 : zz_D zy_loadParameters_3_6 28 (.aload_n 0) 1 29 := ⟨by decide +kernel, rfl⟩
theorem zd_3_6_29 : zz_D zy_loadParameters_3_6 29 (.getfield 51) 3 32 := ⟨by decide +kernel, rfl⟩
theorem zd_3_6_32 : zz_D zy_loadParameters_3_6 32 (.aload_n 0) 1 33 := ⟨by decide +kernel, rfl⟩
theorem zd_3_6_33 : zz_D zy_loadParameters_3_6 33 (.getfield 76) 3 36 := ⟨by decide +kernel, rfl⟩
theorem zd_3_6_36 : zz_D zy_loadParameters_3_6 36 (.invokevirtual 171) 3 39 := ⟨by decide +kernel, rfl⟩
abbrev zy_biasAt_4_13 : mm_Y := (⟨"TensorForge$Layer", "biasAt", "(I)I"⟩, prog_4_method_13_code, 2, (some .int))
theorem zyw_biasAt_4_13 : mm_Yw zy_biasAt_4_13 1 := ⟨mm_tb_1 881 (by decide +kernel) rfl, mm_tb_1 3 (by decide +kernel) rfl, ⟨by decide, by decide⟩, by decide +kernel⟩
theorem zd_4_13_0 : zz_D zy_biasAt_4_13 0 (.aload_n 0) 1 1 := ⟨by decide +kernel, rfl⟩
theorem zd_4_13_1 : zz_D zy_biasAt_4_13 1 (.getfield 42) 3 4 := ⟨by decide +kernel, rfl⟩
theorem zd_4_13_4 : zz_D zy_biasAt_4_13 4 (.iconst 4) 1 5 := ⟨by decide +kernel, rfl⟩
theorem zd_4_13_5 : zz_D zy_biasAt_4_13 5 (.iload_n 1) 1 6 := ⟨by decide +kernel, rfl⟩
theorem zd_4_13_6 : zz_D zy_biasAt_4_13 6 (.imul) 1 7 := ⟨by decide +kernel, rfl⟩
theorem zd_4_13_7 : zz_D zy_biasAt_4_13 7 (.iadd) 1 8 := ⟨by decide +kernel, rfl⟩
theorem zd_4_13_8 : zz_D zy_biasAt_4_13 8 (.ireturn) 1 9 := ⟨by decide +kernel, rfl⟩
-- TensorForge$Layer biasAt (I)I
abbrev zr_biasAt_4_13 : Room := { frames := 0, cells := 0, slots := 0, locals := 0 }
def zp_biasAt_4_13 (t : Int) (p0 : Int) (S0 : zz_S) : Int → zz_S → Prop := fun r S => S0 = S ∧ ((-2147483648) ≤ r ∧ r ≤ 2147483647)
theorem zc_biasAt_4_13 {g : mm_G} {l : Launch} (t : Int) (p0 : Int) (S0 : zz_S) (n : Nat) (hn : zz_end ≤ n) (G_S0 : zz_G S0) (ht : 0 ≤ t ∧ t ≤ 23) (hp0 : (-2147483648) ≤ p0 ∧ p0 ≤ 2147483647) : mm_Met g l zy_biasAt_4_13 zr_biasAt_4_13 [.ref (zz_rf 6 t), zi p0] (zz_M S0 n) n (zz_QI n (zp_biasAt_4_13 t p0 S0)) := by
  refine zz_enter (by decide) (Nat.le_of_ble_eq_true rfl) (zz_less (ls1 := [some (.ref (zz_rf 6 t)), some (zi p0)]) ⟨rfl, ⟨rfl, trivial⟩⟩ ?_)
  have b_t := zz_rf6 (z := t) (by omega)
  refine zz_aload_n (x := zz_rf 6 t) rfl zd_4_13_0 ?_
  have g1 := zz_G.r G_S0 (zz_rf 6 t) 9 (-2147483648) 2147483647 (zR_k6_9 (by omega)) (zB_k6 (by omega))
  refine zz_geti (z := S0 (zz_rf 6 t) 9) zd_4_13_1 zf_Layer_42 (zT_k6 (by omega)) rfl (zN_k6 hn (by omega)) rfl ?_
  refine zz_iconst zd_4_13_4 ?_
  refine zz_iload_n (x := p0) rfl zd_4_13_5 ?_
  refine zz_imul zd_4_13_6 ?_
  refine zz_nrm (fun v2 hv2 ev2 => ?_)
  refine zz_iadd zd_4_13_7 ?_
  refine zz_nrm (fun v3 hv3 ev3 => ?_)
  exact zz_iret zd_4_13_8 rfl (Nat.zero_le _) (Nat.zero_le _) ⟨_, _, rfl, rfl, by omega⟩
theorem zk_Compiler_171 : mm_Vl "TensorForge$Compiler" 171 2 1 zy_biasAt_4_13 := ⟨zyw_biasAt_4_13, (R_Layer, F_Layer, 15), rfl, mm_tb_1 1436 (by decide +kernel) rfl, mm_tb_1 879 (by decide +kernel) rfl, mm_tb_1 880 (by decide +kernel) rfl⟩
theorem zd_3_6_39 : zz_D zy_loadParameters_3_6 39 (.invokestatic 132) 3 42 := ⟨by decide +kernel, rfl⟩
theorem zd_3_6_42 : zz_D zy_loadParameters_3_6 42 (.lor) 1 43 := ⟨by decide +kernel, rfl⟩
theorem zd_3_6_43 : zz_D zy_loadParameters_3_6 43 (.invokevirtual 143) 3 46 := ⟨by decide +kernel, rfl⟩
-- TensorForge$Compiler loadParameters (Z)V
abbrev zr_loadParameters_3_6 : Room := { frames := 1, cells := 0, slots := 0, locals := 22 }
def zp_loadParameters_3_6 (p0 : Int) (S0 : zz_S) : zz_S → Prop := fun S => zz_G S ∧ zz_fr [(1076, 1)] [1029, 1030] (fun a i => a = zz_rf 4 (S0 1076 0)) S0 S ∧ (S0 1076 1 ≤ S 1076 1 ∧ S 1076 1 ≤ S0 1076 1 + 2)
theorem zc_loadParameters_3_6 {g : mm_G} {l : Launch} (p0 : Int) (S0 : zz_S) (n : Nat) (hn : zz_end ≤ n) (G_S0 : zz_G S0) (hp0 : 0 ≤ p0 ∧ p0 ≤ 1) (hq : S0 1076 1 ≤ 900000) (hl : 0 ≤ S0 1076 3 ∧ 0 ≤ S0 1076 4 ∧ 0 ≤ S0 1076 5) : mm_Met g l zy_loadParameters_3_6 zr_loadParameters_3_6 [.ref 1076, zi p0] (zz_M S0 n) n (zz_QV n (zp_loadParameters_3_6 p0 S0)) := by
  refine zz_enter (by decide) (Nat.le_of_ble_eq_true rfl) (zz_less (ls1 := [some (.ref 1076), some (zi p0)]) ⟨rfl, ⟨rfl, trivial⟩⟩ ?_)
  have F_S0 : zz_fr [(1076, 1)] [1029, 1030] (fun a i => a = zz_rf 4 (S0 1076 0)) S0 S0 := zz_fr.refl
  refine zz_iload_n (x := p0) rfl zd_3_6_0 ?_
  refine zz_if_eq (by omega) zd_3_6_1 (fun c1 => ?_) (fun c1 => ?_)
  · refine zz_aload_n (x := 1076) rfl zd_3_6_46 ?_
    refine zz_iconst zd_3_6_47 ?_
    refine zz_aload_n (x := 1076) rfl zd_3_6_48 ?_
    have g2 := zz_G.r G_S0 1076 16 (-2147483648) 2147483647 rfl rfl
    refine zz_geti (z := S0 1076 16) zd_3_6_49 zf_Compiler_115 zT_1076 rfl (zz_ltn hn rfl) rfl ?_
    refine zz_aload_n (x := 1076) rfl zd_3_6_52 ?_
    have g3 := zz_G.r G_S0 1076 8 (-2147483648) 2147483647 rfl rfl
    refine zz_geti (z := S0 1076 8) zd_3_6_53 zf_Compiler_82 zT_1076 rfl (zz_ltn hn rfl) rfl ?_
    refine zz_callSJ [zi 2, zi (S0 1076 16), zi (S0 1076 8)] zd_3_6_56 zk_Compiler_128 rfl rfl ⟨Nat.le_of_ble_eq_true rfl, Nat.le_of_ble_eq_true rfl⟩ ⟨rfl, rfl⟩ (Nat.zero_le _) (Nat.zero_le _) (zc_shaped_12_6 2 (S0 1076 16) (S0 1076 8) S0 n hn G_S0 (by omega) (by omega) (by omega)) (fun v5 S4 hP => ?_)
    obtain ⟨rfl, o6⟩ := hP
    refine zz_bipush (by decide) zd_3_6_59 ?_
    refine zz_aload_n (x := 1076) rfl zd_3_6_61 ?_
    refine zz_callVI [] zd_3_6_62 zk_Compiler_175 zT_1076 (zz_ltn hn rfl) rfl rfl ⟨Nat.le_of_ble_eq_true rfl, Nat.le_of_ble_eq_true rfl⟩ ⟨rfl, rfl⟩ (Nat.zero_le _) (Nat.zero_le _) (zc_groupHalf_3_14  S0 n hn G_S0 ) (fun v8 S7 hP => ?_)
    obtain ⟨rfl, o9⟩ := hP
    refine zz_callSJ [zi 8, zi v8] zd_3_6_65 zk_Compiler_132 rfl rfl ⟨Nat.le_of_ble_eq_true rfl, Nat.le_of_ble_eq_true rfl⟩ ⟨rfl, rfl⟩ (Nat.zero_le _) (Nat.zero_le _) (zc_bits_12_4 8 v8 S0 n hn G_S0 (by omega) (by omega)) (fun v11 S10 hP => ?_)
    obtain ⟨rfl, o12⟩ := hP
    refine zz_lor zd_3_6_68 (fun v13 hv13 ev13 => ?_)
    refine zz_iconst zd_3_6_69 ?_
    refine zz_aload_n (x := 1076) rfl zd_3_6_70 ?_
    have g14 := zz_G.r G_S0 1076 3 (-1) 23 rfl rfl
    refine zz_getr (kd := 4) (z := S0 1076 3) zd_3_6_71 zf_Compiler_51 zT_1076 rfl (zz_ltn hn rfl) rfl (by omega) (zz_rf 6 (S0 1076 3)) rfl ?_
    refine zz_aload_n (x := 1076) rfl zd_3_6_74 ?_
    have g15 := zz_G.r G_S0 1076 4 (-1) 23 rfl rfl
    refine zz_getr (kd := 4) (z := S0 1076 4) zd_3_6_75 zf_Compiler_55 zT_1076 rfl (zz_ltn hn rfl) rfl (by omega) (zz_rf 6 (S0 1076 4)) rfl ?_
    refine zz_aload_n (x := 1076) rfl zd_3_6_78 ?_
    have g16 := zz_G.r G_S0 1076 13 (-2147483648) 2147483647 rfl rfl
    refine zz_geti (z := S0 1076 13) zd_3_6_79 zf_Compiler_106 zT_1076 rfl (zz_ltn hn rfl) rfl ?_
    refine zz_aload_n (x := 1076) rfl zd_3_6_82 ?_
    have g17 := zz_G.r G_S0 1076 14 (-2147483648) 2147483647 rfl rfl
    refine zz_geti (z := S0 1076 14) zd_3_6_83 zf_Compiler_109 zT_1076 rfl (zz_ltn hn rfl) rfl ?_
    refine zz_aload_n (x := 1076) rfl zd_3_6_86 ?_
    have g18 := zz_G.r G_S0 1076 15 (-2147483648) 2147483647 rfl rfl
    refine zz_geti (z := S0 1076 15) zd_3_6_87 zf_Compiler_112 zT_1076 rfl (zz_ltn hn rfl) rfl ?_
    refine zz_aload_n (x := 1076) rfl zd_3_6_90 ?_
    have g19 := zz_G.r G_S0 1076 7 (-2147483648) 2147483647 rfl rfl
    refine zz_geti (z := S0 1076 7) zd_3_6_91 zf_Compiler_76 zT_1076 rfl (zz_ltn hn rfl) rfl ?_
    refine zz_callVI [.ref (zz_rf 6 (S0 1076 4)), zi (S0 1076 13), zi (S0 1076 14), zi (S0 1076 15), zi (S0 1076 7)] zd_3_6_94 zk_Compiler_178 (zT_k6 (by omega)) (zN_k6 hn (by omega)) rfl rfl ⟨Nat.le_of_ble_eq_true rfl, Nat.le_of_ble_eq_true rfl⟩ ⟨rfl, rfl⟩ (Nat.zero_le _) (Nat.zero_le _) (zc_weightAt_4_14 (S0 1076 3) (S0 1076 4) (S0 1076 13) (S0 1076 14) (S0 1076 15) (S0 1076 7) S0 n hn G_S0 (by omega) (by omega) (by omega) (by omega) (by omega) (by omega)) (fun v21 S20 hP => ?_)
    obtain ⟨rfl, o22⟩ := hP
    refine zz_callSJ [zi 5, zi v21] zd_3_6_97 zk_Compiler_132 rfl rfl ⟨Nat.le_of_ble_eq_true rfl, Nat.le_of_ble_eq_true rfl⟩ ⟨rfl, rfl⟩ (Nat.zero_le _) (Nat.zero_le _) (zc_bits_12_4 5 v21 S0 n hn G_S0 (by omega) (by omega)) (fun v24 S23 hP => ?_)
    obtain ⟨rfl, o25⟩ := hP
    refine zz_lor zd_3_6_100 (fun v26 hv26 ev26 => ?_)
    refine zz_bipush (by decide) zd_3_6_101 ?_
    refine zz_aload_n (x := 1076) rfl zd_3_6_103 ?_
    refine zz_getr (kd := 4) (z := S0 1076 3) zd_3_6_104 zf_Compiler_51 zT_1076 rfl (zz_ltn hn rfl) rfl (by omega) (zz_rf 6 (S0 1076 3)) rfl ?_
    have g27 := zz_G.r G_S0 (zz_rf 6 (S0 1076 3)) 12 (-2147483648) 2147483647 (zR_k6_12 (by omega)) (zB_k6 (by omega))
    refine zz_geti (z := S0 (zz_rf 6 (S0 1076 3)) 12) zd_3_6_107 zf_Compiler_79 (zT_k6 (by omega)) rfl (zN_k6 hn (by omega)) rfl ?_
    refine zz_callSJ [zi 10, zi (S0 (zz_rf 6 (S0 1076 3)) 12)] zd_3_6_110 zk_Compiler_132 rfl rfl ⟨Nat.le_of_ble_eq_true rfl, Nat.le_of_ble_eq_true rfl⟩ ⟨rfl, rfl⟩ (Nat.zero_le _) (Nat.zero_le _) (zc_bits_12_4 10 (S0 (zz_rf 6 (S0 1076 3)) 12) S0 n hn G_S0 (by omega) (by omega)) (fun v29 S28 hP => ?_)
    obtain ⟨rfl, o30⟩ := hP
    refine zz_lor zd_3_6_113 (fun v31 hv31 ev31 => ?_)
    have g32 := zz_G.r G_S0 1076 1 0 1000000 rfl rfl
    refine zz_callVV [zl v31] zd_3_6_114 zk_Compiler_143 zT_1076 (zz_ltn hn rfl) rfl rfl ⟨Nat.le_of_ble_eq_true rfl, Nat.le_of_ble_eq_true rfl⟩ ⟨rfl, rfl⟩ (Nat.zero_le _) (Nat.zero_le _) (zc_emit_3_15 v31 S0 n hn G_S0 (by omega) (by omega)) (fun S33 hP => ?_)
    obtain ⟨G_S33, fS33, o35⟩ := hP
    have g36 := zz_G.r G_S0 1076 0 0 1 rfl rfl
    have F_S33 := zz_fr.trans F_S0 fS33 rfl (fun a i h => Or.inr (Or.inr (h)))
    have b37 := zz_rf4 (z := (S0 1076 0)) (by omega)
    have g38 := zz_G.r G_S33 1076 1 0 1000000 rfl rfl
    exact zz_vret zd_3_6_117 rfl (Nat.zero_le _) (Nat.zero_le _) ⟨_, rfl, G_S33, F_S33, by omega⟩
  · refine zz_aload_n (x := 1076) rfl zd_3_6_4 ?_
    refine zz_iconst zd_3_6_5 ?_
    refine zz_aload_n (x := 1076) rfl zd_3_6_6 ?_
    have g39 := zz_G.r G_S0 1076 11 (-2147483648) 2147483647 rfl rfl
    refine zz_geti (z := S0 1076 11) zd_3_6_7 zf_Compiler_91 zT_1076 rfl (zz_ltn hn rfl) rfl ?_
    refine zz_aload_n (x := 1076) rfl zd_3_6_10 ?_
    have g40 := zz_G.r G_S0 1076 8 (-2147483648) 2147483647 rfl rfl
    refine zz_geti (z := S0 1076 8) zd_3_6_11 zf_Compiler_82 zT_1076 rfl (zz_ltn hn rfl) rfl ?_
    refine zz_callSJ [zi 4, zi (S0 1076 11), zi (S0 1076 8)] zd_3_6_14 zk_Compiler_128 rfl rfl ⟨Nat.le_of_ble_eq_true rfl, Nat.le_of_ble_eq_true rfl⟩ ⟨rfl, rfl⟩ (Nat.zero_le _) (Nat.zero_le _) (zc_shaped_12_6 4 (S0 1076 11) (S0 1076 8) S0 n hn G_S0 (by omega) (by omega) (by omega)) (fun v42 S41 hP => ?_)
    obtain ⟨rfl, o43⟩ := hP
    refine zz_bipush (by decide) zd_3_6_17 ?_
    refine zz_aload_n (x := 1076) rfl zd_3_6_19 ?_
    refine zz_callVI [] zd_3_6_20 zk_Compiler_122 zT_1076 (zz_ltn hn rfl) rfl rfl ⟨Nat.le_of_ble_eq_true rfl, Nat.le_of_ble_eq_true rfl⟩ ⟨rfl, rfl⟩ (Nat.zero_le _) (Nat.zero_le _) (zc_tileHalf_3_13  S0 n hn G_S0 ) (fun v45 S44 hP => ?_)
    obtain ⟨rfl, o46⟩ := hP
    refine zz_callSJ [zi 8, zi v45] zd_3_6_23 zk_Compiler_132 rfl rfl ⟨Nat.le_of_ble_eq_true rfl, Nat.le_of_ble_eq_true rfl⟩ ⟨rfl, rfl⟩ (Nat.zero_le _) (Nat.zero_le _) (zc_bits_12_4 8 v45 S0 n hn G_S0 (by omega) (by omega)) (fun v48 S47 hP => ?_)
    obtain ⟨rfl, o49⟩ := hP
    refine zz_lor zd_3_6_26 (fun v50 hv50 ev50 => ?_)
    refine zz_iconst zd_3_6_27 ?_
    refine zz_aload_n (x := 1076) rfl zd_3_6_28 ?_
    have g51 := zz_G.r G_S0 1076 3 (-1) 23 rfl rfl
    refine zz_getr (kd := 4) (z := S0 1076 3) zd_3_6_29 zf_Compiler_51 zT_1076 rfl (zz_ltn hn rfl) rfl (by omega) (zz_rf 6 (S0 1076 3)) rfl ?_
    refine zz_aload_n (x := 1076) rfl zd_3_6_32 ?_
    have g52 := zz_G.r G_S0 1076 7 (-2147483648) 2147483647 rfl rfl
    refine zz_geti (z := S0 1076 7) zd_3_6_33 zf_Compiler_76 zT_1076 rfl (zz_ltn hn rfl) rfl ?_
    refine zz_callVI [zi (S0 1076 7)] zd_3_6_36 zk_Compiler_171 (zT_k6 (by omega)) (zN_k6 hn (by omega)) rfl rfl ⟨Nat.le_of_ble_eq_true rfl, Nat.le_of_ble_eq_true rfl⟩ ⟨rfl, rfl⟩ (Nat.zero_le _) (Nat.zero_le _) (zc_biasAt_4_13 (S0 1076 3) (S0 1076 7) S0 n hn G_S0 (by omega) (by omega)) (fun v54 S53 hP => ?_)
    obtain ⟨rfl, o55⟩ := hP
    refine zz_callSJ [zi 5, zi v54] zd_3_6_39 zk_Compiler_132 rfl rfl ⟨Nat.le_of_ble_eq_true rfl, Nat.le_of_ble_eq_true rfl⟩ ⟨rfl, rfl⟩ (Nat.zero_le _) (Nat.zero_le _) (zc_bits_12_4 5 v54 S0 n hn G_S0 (by omega) (by omega)) (fun v57 S56 hP => ?_)
    obtain ⟨rfl, o58⟩ := hP
    refine zz_lor zd_3_6_42 (fun v59 hv59 ev59 => ?_)
    have g60 := zz_G.r G_S0 1076 1 0 1000000 rfl rfl
    refine zz_callVV [zl v59] zd_3_6_43 zk_Compiler_143 zT_1076 (zz_ltn hn rfl) rfl rfl ⟨Nat.le_of_ble_eq_true rfl, Nat.le_of_ble_eq_true rfl⟩ ⟨rfl, rfl⟩ (Nat.zero_le _) (Nat.zero_le _) (zc_emit_3_15 v59 S0 n hn G_S0 (by omega) (by omega)) (fun S61 hP => ?_)
    obtain ⟨G_S61, fS61, o63⟩ := hP
    have g64 := zz_G.r G_S0 1076 0 0 1 rfl rfl
    have F_S61 := zz_fr.trans F_S0 fS61 rfl (fun a i h => Or.inr (Or.inr (h)))
    have b65 := zz_rf4 (z := (S0 1076 0)) (by omega)
    refine zz_aload_n (x := 1076) rfl zd_3_6_46 ?_
    refine zz_iconst zd_3_6_47 ?_
    refine zz_aload_n (x := 1076) rfl zd_3_6_48 ?_
    have g66 := zz_G.r G_S0 1076 16 (-2147483648) 2147483647 rfl rfl
    refine zz_geti (z := S0 1076 16) zd_3_6_49 zf_Compiler_115 zT_1076 rfl (zz_ltn hn rfl) (zz_rc fS61 rfl rfl (by omega) rfl) ?_
    refine zz_aload_n (x := 1076) rfl zd_3_6_52 ?_
    refine zz_geti (z := S0 1076 8) zd_3_6_53 zf_Compiler_82 zT_1076 rfl (zz_ltn hn rfl) (zz_rc fS61 rfl rfl (by omega) rfl) ?_
    refine zz_callSJ [zi 2, zi (S0 1076 16), zi (S0 1076 8)] zd_3_6_56 zk_Compiler_128 rfl rfl ⟨Nat.le_of_ble_eq_true rfl, Nat.le_of_ble_eq_true rfl⟩ ⟨rfl, rfl⟩ (Nat.zero_le _) (Nat.zero_le _) (zc_shaped_12_6 2 (S0 1076 16) (S0 1076 8) S61 n hn G_S61 (by omega) (by omega) (by omega)) (fun v68 S67 hP => ?_)
    obtain ⟨rfl, o69⟩ := hP
    refine zz_bipush (by decide) zd_3_6_59 ?_
    refine zz_aload_n (x := 1076) rfl zd_3_6_61 ?_
    refine zz_callVI [] zd_3_6_62 zk_Compiler_175 zT_1076 (zz_ltn hn rfl) rfl rfl ⟨Nat.le_of_ble_eq_true rfl, Nat.le_of_ble_eq_true rfl⟩ ⟨rfl, rfl⟩ (Nat.zero_le _) (Nat.zero_le _) (zc_groupHalf_3_14  S61 n hn G_S61 ) (fun v71 S70 hP => ?_)
    obtain ⟨rfl, o72⟩ := hP
    refine zz_callSJ [zi 8, zi v71] zd_3_6_65 zk_Compiler_132 rfl rfl ⟨Nat.le_of_ble_eq_true rfl, Nat.le_of_ble_eq_true rfl⟩ ⟨rfl, rfl⟩ (Nat.zero_le _) (Nat.zero_le _) (zc_bits_12_4 8 v71 S61 n hn G_S61 (by omega) (by omega)) (fun v74 S73 hP => ?_)
    obtain ⟨rfl, o75⟩ := hP
    refine zz_lor zd_3_6_68 (fun v76 hv76 ev76 => ?_)
    refine zz_iconst zd_3_6_69 ?_
    refine zz_aload_n (x := 1076) rfl zd_3_6_70 ?_
    refine zz_getr (kd := 4) (z := S0 1076 3) zd_3_6_71 zf_Compiler_51 zT_1076 rfl (zz_ltn hn rfl) (zz_rc fS61 rfl rfl (by omega) rfl) (by omega) (zz_rf 6 (S0 1076 3)) rfl ?_
    refine zz_aload_n (x := 1076) rfl zd_3_6_74 ?_
    have g77 := zz_G.r G_S0 1076 4 (-1) 23 rfl rfl
    refine zz_getr (kd := 4) (z := S0 1076 4) zd_3_6_75 zf_Compiler_55 zT_1076 rfl (zz_ltn hn rfl) (zz_rc fS61 rfl rfl (by omega) rfl) (by omega) (zz_rf 6 (S0 1076 4)) rfl ?_
    refine zz_aload_n (x := 1076) rfl zd_3_6_78 ?_
    have g78 := zz_G.r G_S0 1076 13 (-2147483648) 2147483647 rfl rfl
    refine zz_geti (z := S0 1076 13) zd_3_6_79 zf_Compiler_106 zT_1076 rfl (zz_ltn hn rfl) (zz_rc fS61 rfl rfl (by omega) rfl) ?_
    refine zz_aload_n (x := 1076) rfl zd_3_6_82 ?_
    have g79 := zz_G.r G_S0 1076 14 (-2147483648) 2147483647 rfl rfl
    refine zz_geti (z := S0 1076 14) zd_3_6_83 zf_Compiler_109 zT_1076 rfl (zz_ltn hn rfl) (zz_rc fS61 rfl rfl (by omega) rfl) ?_
    refine zz_aload_n (x := 1076) rfl zd_3_6_86 ?_
    have g80 := zz_G.r G_S0 1076 15 (-2147483648) 2147483647 rfl rfl
    refine zz_geti (z := S0 1076 15) zd_3_6_87 zf_Compiler_112 zT_1076 rfl (zz_ltn hn rfl) (zz_rc fS61 rfl rfl (by omega) rfl) ?_
    refine zz_aload_n (x := 1076) rfl zd_3_6_90 ?_
    refine zz_geti (z := S0 1076 7) zd_3_6_91 zf_Compiler_76 zT_1076 rfl (zz_ltn hn rfl) (zz_rc fS61 rfl rfl (by omega) rfl) ?_
    refine zz_callVI [.ref (zz_rf 6 (S0 1076 4)), zi (S0 1076 13), zi (S0 1076 14), zi (S0 1076 15), zi (S0 1076 7)] zd_3_6_94 zk_Compiler_178 (zT_k6 (by omega)) (zN_k6 hn (by omega)) rfl rfl ⟨Nat.le_of_ble_eq_true rfl, Nat.le_of_ble_eq_true rfl⟩ ⟨rfl, rfl⟩ (Nat.zero_le _) (Nat.zero_le _) (zc_weightAt_4_14 (S0 1076 3) (S0 1076 4) (S0 1076 13) (S0 1076 14) (S0 1076 15) (S0 1076 7) S61 n hn G_S61 (by omega) (by omega) (by omega) (by omega) (by omega) (by omega)) (fun v82 S81 hP => ?_)
    obtain ⟨rfl, o83⟩ := hP
    refine zz_callSJ [zi 5, zi v82] zd_3_6_97 zk_Compiler_132 rfl rfl ⟨Nat.le_of_ble_eq_true rfl, Nat.le_of_ble_eq_true rfl⟩ ⟨rfl, rfl⟩ (Nat.zero_le _) (Nat.zero_le _) (zc_bits_12_4 5 v82 S61 n hn G_S61 (by omega) (by omega)) (fun v85 S84 hP => ?_)
    obtain ⟨rfl, o86⟩ := hP
    refine zz_lor zd_3_6_100 (fun v87 hv87 ev87 => ?_)
    refine zz_bipush (by decide) zd_3_6_101 ?_
    refine zz_aload_n (x := 1076) rfl zd_3_6_103 ?_
    refine zz_getr (kd := 4) (z := S0 1076 3) zd_3_6_104 zf_Compiler_51 zT_1076 rfl (zz_ltn hn rfl) (zz_rc fS61 rfl rfl (by omega) rfl) (by omega) (zz_rf 6 (S0 1076 3)) rfl ?_
    have g88 := zz_G.r G_S0 (zz_rf 6 (S0 1076 3)) 12 (-2147483648) 2147483647 (zR_k6_12 (by omega)) (zB_k6 (by omega))
    refine zz_geti (z := S0 (zz_rf 6 (S0 1076 3)) 12) zd_3_6_107 zf_Compiler_79 (zT_k6 (by omega)) rfl (zN_k6 hn (by omega)) (zz_rc fS61 (zP_k6 (by omega) rfl) (zQ_k6 (by omega) rfl) (by omega) rfl) ?_
    refine zz_callSJ [zi 10, zi (S0 (zz_rf 6 (S0 1076 3)) 12)] zd_3_6_110 zk_Compiler_132 rfl rfl ⟨Nat.le_of_ble_eq_true rfl, Nat.le_of_ble_eq_true rfl⟩ ⟨rfl, rfl⟩ (Nat.zero_le _) (Nat.zero_le _) (zc_bits_12_4 10 (S0 (zz_rf 6 (S0 1076 3)) 12) S61 n hn G_S61 (by omega) (by omega)) (fun v90 S89 hP => ?_)
    obtain ⟨rfl, o91⟩ := hP
    refine zz_lor zd_3_6_113 (fun v92 hv92 ev92 => ?_)
    have g93 := zz_G.r G_S61 1076 1 0 1000000 rfl rfl
    refine zz_callVV [zl v92] zd_3_6_114 zk_Compiler_143 zT_1076 (zz_ltn hn rfl) rfl rfl ⟨Nat.le_of_ble_eq_true rfl, Nat.le_of_ble_eq_true rfl⟩ ⟨rfl, rfl⟩ (Nat.zero_le _) (Nat.zero_le _) (zc_emit_3_15 v92 S61 n hn G_S61 (by omega) (by omega)) (fun S94 hP => ?_)
    obtain ⟨G_S94, fS94, o96⟩ := hP
    have g97 := zz_G.r G_S61 1076 0 0 1 rfl rfl
    have F_S94 := zz_fr.trans F_S61 fS94 rfl (fun a i h => Or.inr (Or.inl (h ▸ zM_k4 (z := (S61 1076 0)) (by omega) rfl)))
    have b98 := zz_rf4 (z := (S61 1076 0)) (by omega)
    have g99 := zz_G.r G_S94 1076 1 0 1000000 rfl rfl
    exact zz_vret zd_3_6_117 rfl (Nat.zero_le _) (Nat.zero_le _) ⟨_, rfl, G_S94, F_S94, by omega⟩
theorem zk_Compiler_151 : mm_Vl "TensorForge$Compiler" 151 9 1 zy_loadParameters_3_6 := ⟨zyw_loadParameters_3_6, (R_Compiler, F_Compiler, 17), rfl, mm_tb_1 1424 (by decide +kernel) rfl, mm_tb_1 1426 (by decide +kernel) rfl, mm_tb_s 65 (by decide +kernel) rfl⟩
theorem zd_3_5_21 : zz_D zy_makeGroup_3_5 21 (.aload_n 0) 1 22 := ⟨by decide +kernel, rfl⟩
theorem zd_3_5_22 : zz_D zy_makeGroup_3_5 22 (.aload_n 0) 1 23 := ⟨by decide +kernel, rfl⟩
theorem zd_3_5_23 : zz_D zy_makeGroup_3_5 23 (.getfield 112) 3 26 := ⟨by decide +kernel, rfl⟩
theorem zd_3_5_26 : zz_D zy_makeGroup_3_5 26 (.invokevirtual 155) 3 29 := ⟨by decide +kernel, rfl⟩
theorem zd_3_5_29 : zz_B zy_makeGroup_3_5 29 Instr.goto 102 32 := ⟨73, by decide +kernel, rfl, rfl⟩
-- TensorForge$Compiler makeGroup (ZZ)V
abbrev zr_makeGroup_3_5 : Room := { frames := 3, cells := 0, slots := 0, locals := 48 }
def zp_makeGroup_3_5 (p0 : Int) (p1 : Int) (S0 : zz_S) : zz_S → Prop := fun S => zz_G S ∧ zz_fr [(1076, 1)] [1029, 1030] (fun a i => a = zz_rf 4 (S0 1076 0)) S0 S ∧ (S0 1076 1 ≤ S 1076 1 ∧ S 1076 1 ≤ S0 1076 1 + 7)
theorem zc_makeGroup_3_5 {g : mm_G} {l : Launch} (p0 : Int) (p1 : Int) (S0 : zz_S) (n : Nat) (hn : zz_end ≤ n) (G_S0 : zz_G S0) (hp0 : 0 ≤ p0 ∧ p0 ≤ 1) (hp1 : 0 ≤ p1 ∧ p1 ≤ 1) (hq : S0 1076 1 ≤ 900000) (hl : 0 ≤ S0 1076 3 ∧ 0 ≤ S0 1076 4 ∧ 0 ≤ S0 1076 5) : mm_Met g l zy_makeGroup_3_5 zr_makeGroup_3_5 [.ref 1076, zi p0, zi p1] (zz_M S0 n) n (zz_QV n (zp_makeGroup_3_5 p0 p1 S0)) := by
  refine zz_enter (by decide) (Nat.le_of_ble_eq_true rfl) (zz_less (ls1 := [some (.ref 1076), some (zi p0), some (zi p1)]) ⟨rfl, ⟨rfl, ⟨rfl, trivial⟩⟩⟩ ?_)
  have F_S0 : zz_fr [(1076, 1)] [1029, 1030] (fun a i => a = zz_rf 4 (S0 1076 0)) S0 S0 := zz_fr.refl
  refine zz_aload_n (x := 1076) rfl zd_3_5_0 ?_
  have g1 := zz_G.r G_S0 1076 1 0 1000000 rfl rfl
  refine zz_geti (z := S0 1076 1) zd_3_5_1 zf_Compiler_15 zT_1076 rfl (zz_ltn hn rfl) rfl ?_
  refine zz_istore_n [some (.ref 1076), some (zi p0), some (zi p1), some (zi (S0 1076 1))] zd_3_5_4 (by decide) rfl ?_
  refine zz_aload_n (x := 1076) rfl zd_3_5_5 ?_
  have g2 := zz_G.r G_S0 1076 3 (-1) 23 rfl rfl
  refine zz_getr (kd := 4) (z := S0 1076 3) zd_3_5_6 zf_Compiler_51 zT_1076 rfl (zz_ltn hn rfl) rfl (by omega) (zz_rf 6 (S0 1076 3)) rfl ?_
  have g3 := zz_G.r G_S0 (zz_rf 6 (S0 1076 3)) 0 (-2147483648) 2147483647 (zR_k6_0 (by omega)) (zB_k6 (by omega))
  refine zz_geti (z := S0 (zz_rf 6 (S0 1076 3)) 0) zd_3_5_9 zf_Compiler_61 (zT_k6 (by omega)) rfl (zN_k6 hn (by omega)) rfl ?_
  refine zz_iconst zd_3_5_12 ?_
  refine zz_icmp_ne (by omega) (by omega) zd_3_5_13 (fun c4 => ?_) (fun c4 => ?_)
  · refine zz_aload_n (x := 1076) rfl zd_3_5_32 ?_
    refine zz_getr (kd := 4) (z := S0 1076 3) zd_3_5_33 zf_Compiler_51 zT_1076 rfl (zz_ltn hn rfl) rfl (by omega) (zz_rf 6 (S0 1076 3)) rfl ?_
    refine zz_geti (z := S0 (zz_rf 6 (S0 1076 3)) 0) zd_3_5_36 zf_Compiler_61 (zT_k6 (by omega)) rfl (zN_k6 hn (by omega)) rfl ?_
    refine zz_iconst zd_3_5_39 ?_
    refine zz_icmp_ne (by omega) (by omega) zd_3_5_40 (fun c5 => ?_) (fun c5 => ?_)
    · refine zz_aload_n (x := 1076) rfl zd_3_5_54 ?_
      have g6 := zz_G.r G_S0 1076 14 (-2147483648) 2147483647 rfl rfl
      refine zz_geti (z := S0 1076 14) zd_3_5_55 zf_Compiler_109 zT_1076 rfl (zz_ltn hn rfl) rfl ?_
      refine zz_if_ne (by omega) zd_3_5_58 (fun c7 => ?_) (fun c7 => ?_)
      · refine zz_aload_n (x := 1076) rfl zd_3_5_68 ?_
        have g8 := zz_G.r G_S0 1076 5 (-1) 23 rfl rfl
        refine zz_getr (kd := 4) (z := S0 1076 5) zd_3_5_69 zf_Compiler_58 zT_1076 rfl (zz_ltn hn rfl) rfl (by omega) (zz_rf 6 (S0 1076 5)) rfl ?_
        refine zz_astore [some (.ref 1076), some (zi p0), some (zi p1), some (zi (S0 1076 1)), some (.ref (zz_rf 6 (S0 1076 5)))] zd_3_5_72 (by decide) rfl ?_
        refine zz_aload_n (x := 1076) rfl zd_3_5_74 ?_
        refine zz_iconst zd_3_5_75 ?_
        refine zz_aload_n (x := 1076) rfl zd_3_5_76 ?_
        have g9 := zz_G.r G_S0 1076 11 (-2147483648) 2147483647 rfl rfl
        refine zz_geti (z := S0 1076 11) zd_3_5_77 zf_Compiler_91 zT_1076 rfl (zz_ltn hn rfl) rfl ?_
        refine zz_aload (x := zz_rf 6 (S0 1076 5)) rfl zd_3_5_80 ?_
        refine zz_iconst zd_3_5_82 ?_
        refine zz_aload_n (x := 1076) rfl zd_3_5_83 ?_
        have g10 := zz_G.r G_S0 1076 10 (-2147483648) 2147483647 rfl rfl
        refine zz_geti (z := S0 1076 10) zd_3_5_84 zf_Compiler_88 zT_1076 rfl (zz_ltn hn rfl) rfl ?_
        refine zz_aload_n (x := 1076) rfl zd_3_5_87 ?_
        have g11 := zz_G.r G_S0 1076 7 (-2147483648) 2147483647 rfl rfl
        refine zz_geti (z := S0 1076 7) zd_3_5_88 zf_Compiler_76 zT_1076 rfl (zz_ltn hn rfl) rfl ?_
        refine zz_callVI [zi 0, zi (S0 1076 10), zi (S0 1076 7)] zd_3_5_91 zk_Compiler_147 (zT_k6 (by omega)) (zN_k6 hn (by omega)) rfl rfl ⟨Nat.le_of_ble_eq_true rfl, Nat.le_of_ble_eq_true rfl⟩ ⟨rfl, rfl⟩ (Nat.zero_le _) (Nat.zero_le _) (zc_cellAt_4_15 (S0 1076 5) 0 (S0 1076 10) (S0 1076 7) S0 n hn G_S0 (by omega) (by omega) (by omega) (by omega)) (fun v13 S12 hP => ?_)
        obtain ⟨rfl, o14⟩ := hP
        refine zz_aload (x := zz_rf 6 (S0 1076 5)) rfl zd_3_5_94 ?_
        have g15 := zz_G.r G_S0 (zz_rf 6 (S0 1076 5)) 12 (-2147483648) 2147483647 (zR_k6_12 (by omega)) (zB_k6 (by omega))
        refine zz_geti (z := S0 (zz_rf 6 (S0 1076 5)) 12) zd_3_5_96 zf_Compiler_79 (zT_k6 (by omega)) rfl (zN_k6 hn (by omega)) rfl ?_
        have g16 := zz_G.r G_S0 1076 4 (-1) 23 rfl rfl
        refine zz_callVV [zi 0, zi (S0 1076 11), zi v13, zi (S0 (zz_rf 6 (S0 1076 5)) 12)] zd_3_5_99 zk_Compiler_159 zT_1076 (zz_ltn hn rfl) rfl rfl ⟨Nat.le_of_ble_eq_true rfl, Nat.le_of_ble_eq_true rfl⟩ ⟨rfl, rfl⟩ (Nat.zero_le _) (Nat.zero_le _) (zc_loadPlaces_3_10 0 (S0 1076 11) v13 (S0 (zz_rf 6 (S0 1076 5)) 12) S0 n hn G_S0 (by omega) (by omega) (by omega) (by omega) (by omega) (by omega)) (fun S17 hP => ?_)
        obtain ⟨G_S17, fS17, o19⟩ := hP
        have g20 := zz_G.r G_S0 1076 0 0 1 rfl rfl
        have F_S17 := zz_fr.trans F_S0 fS17 rfl (fun a i h => Or.inr (Or.inr (h)))
        have b21 := zz_rf4 (z := (S0 1076 0)) (by omega)
        refine zz_aload_n (x := 1076) rfl zd_3_5_102 ?_
        have g22 := zz_G.r G_S0 1076 12 (-2147483648) 2147483647 rfl rfl
        refine zz_geti (z := S0 1076 12) zd_3_5_103 zf_Compiler_73 zT_1076 rfl (zz_ltn hn rfl) (zz_rc fS17 rfl rfl (by omega) rfl) ?_
        refine zz_iconst zd_3_5_106 ?_
        refine zz_icmp_le (by omega) (by omega) zd_3_5_107 (fun c23 => ?_) (fun c23 => ?_)
        · refine zz_aload_n (x := 1076) rfl zd_3_5_116 ?_
          refine zz_aload_n (x := 1076) rfl zd_3_5_117 ?_
          have g24 := zz_G.r G_S17 1076 1 0 1000000 rfl rfl
          refine zz_geti (z := S17 1076 1) zd_3_5_118 zf_Compiler_15 zT_1076 rfl (zz_ltn hn rfl) rfl ?_
          refine zz_iconst zd_3_5_121 ?_
          refine zz_isub zd_3_5_122 ?_
          refine zz_iconst zd_3_5_123 ?_
          refine zz_callVV [zi ((S17 1076 1) - 1), zi 4] zd_3_5_124 zk_Compiler_163 zT_1076 (zz_ltn hn rfl) rfl rfl ⟨Nat.le_of_ble_eq_true rfl, Nat.le_of_ble_eq_true rfl⟩ ⟨rfl, rfl⟩ (Nat.zero_le _) (Nat.zero_le _) (zc_mark_3_16 ((S17 1076 1) - 1) 4 S17 n hn G_S17 (by omega) (by omega)) (fun S25 hP => ?_)
          obtain ⟨G_S25, fS25⟩ := hP
          have g27 := zz_G.r G_S17 1076 0 0 1 rfl rfl
          have F_S25 := zz_fr.trans F_S17 fS25 rfl (fun a i h => Or.inr (Or.inl (h ▸ zM_k4 (z := (S17 1076 0)) (by omega) rfl)))
          have b28 := zz_rf4 (z := (S17 1076 0)) (by omega)
          refine zz_aload_n (x := 1076) rfl zd_3_5_127 ?_
          refine zz_iload_n (x := p0) rfl zd_3_5_128 ?_
          have e29 : S25 1076 3 = S0 1076 3 := (zz_rc fS25 rfl rfl (by omega) (zz_rc fS17 rfl rfl (by omega) rfl))
          have e30 : S25 1076 4 = S0 1076 4 := (zz_rc fS25 rfl rfl (by omega) (zz_rc fS17 rfl rfl (by omega) rfl))
          have e31 : S25 1076 5 = S0 1076 5 := (zz_rc fS25 rfl rfl (by omega) (zz_rc fS17 rfl rfl (by omega) rfl))
          refine zz_callVJ [zi p0] zd_3_5_129 zk_Compiler_167 zT_1076 (zz_ltn hn rfl) rfl rfl ⟨Nat.le_of_ble_eq_true rfl, Nat.le_of_ble_eq_true rfl⟩ ⟨rfl, rfl⟩ (Nat.zero_le _) (Nat.zero_le _) (zc_workOf_3_11 p0 S25 n hn G_S25 (by omega) (by omega)) (fun v33 S32 hP => ?_)
          obtain ⟨rfl, o34⟩ := hP
          refine zz_iconst zd_3_5_132 ?_
          refine zz_callSJ [zi 1] zd_3_5_133 zk_Compiler_139 rfl rfl ⟨Nat.le_of_ble_eq_true rfl, Nat.le_of_ble_eq_true rfl⟩ ⟨rfl, rfl⟩ (Nat.zero_le _) (Nat.zero_le _) (zc_flag_12_5 1 S25 n hn G_S25 (by omega)) (fun v36 S35 hP => ?_)
          obtain ⟨rfl, o37⟩ := hP
          refine zz_lor zd_3_5_136 (fun v38 hv38 ev38 => ?_)
          refine zz_lstore [some (.ref 1076), some (zi p0), some (zi p1), some (zi (S0 1076 1)), some (zl v38), none] zd_3_5_137 (by decide) rfl ?_
          refine zz_aload_n (x := 1076) rfl zd_3_5_139 ?_
          refine zz_iload_n (x := p1) rfl zd_3_5_140 ?_
          refine zz_if_eq (by omega) zd_3_5_141 (fun c39 => ?_) (fun c39 => ?_)
          · refine zz_lload (x := v38) rfl zd_3_5_149 ?_
            refine zz_iconst zd_3_5_151 ?_
            refine zz_callSJ [zi 3] zd_3_5_152 zk_Compiler_139 rfl rfl ⟨Nat.le_of_ble_eq_true rfl, Nat.le_of_ble_eq_true rfl⟩ ⟨rfl, rfl⟩ (Nat.zero_le _) (Nat.zero_le _) (zc_flag_12_5 3 S25 n hn G_S25 (by omega)) (fun v41 S40 hP => ?_)
            obtain ⟨rfl, o42⟩ := hP
            refine zz_lor zd_3_5_155 (fun v43 hv43 ev43 => ?_)
            have e44 : S25 1076 1 = S17 1076 1 := (zz_rc fS25 rfl rfl (by omega) rfl)
            refine zz_callVV [zl v43] zd_3_5_156 zk_Compiler_143 zT_1076 (zz_ltn hn rfl) rfl rfl ⟨Nat.le_of_ble_eq_true rfl, Nat.le_of_ble_eq_true rfl⟩ ⟨rfl, rfl⟩ (Nat.zero_le _) (Nat.zero_le _) (zc_emit_3_15 v43 S25 n hn G_S25 (by omega) (by omega)) (fun S45 hP => ?_)
            obtain ⟨G_S45, fS45, o47⟩ := hP
            have g48 := zz_G.r G_S25 1076 0 0 1 rfl rfl
            have F_S45 := zz_fr.trans F_S25 fS45 rfl (fun a i h => Or.inr (Or.inl (h ▸ zM_k4 (z := (S25 1076 0)) (by omega) rfl)))
            have b49 := zz_rf4 (z := (S25 1076 0)) (by omega)
            have g50 := zz_G.r G_S45 1076 1 0 1000000 rfl rfl
            exact zz_vret zd_3_5_159 rfl (Nat.zero_le _) (Nat.zero_le _) ⟨_, rfl, G_S45, F_S45, by omega⟩
          · refine zz_lload (x := v38) rfl zd_3_5_144 ?_
            refine zz_goto zd_3_5_146 ?_
            have e51 : S25 1076 1 = S17 1076 1 := (zz_rc fS25 rfl rfl (by omega) rfl)
            refine zz_callVV [zl v38] zd_3_5_156 zk_Compiler_143 zT_1076 (zz_ltn hn rfl) rfl rfl ⟨Nat.le_of_ble_eq_true rfl, Nat.le_of_ble_eq_true rfl⟩ ⟨rfl, rfl⟩ (Nat.zero_le _) (Nat.zero_le _) (zc_emit_3_15 v38 S25 n hn G_S25 (by omega) (by omega)) (fun S52 hP => ?_)
            obtain ⟨G_S52, fS52, o54⟩ := hP
            have g55 := zz_G.r G_S25 1076 0 0 1 rfl rfl
            have F_S52 := zz_fr.trans F_S25 fS52 rfl (fun a i h => Or.inr (Or.inl (h ▸ zM_k4 (z := (S25 1076 0)) (by omega) rfl)))
            have b56 := zz_rf4 (z := (S25 1076 0)) (by omega)
            have g57 := zz_G.r G_S52 1076 1 0 1000000 rfl rfl
            exact zz_vret zd_3_5_159 rfl (Nat.zero_le _) (Nat.zero_le _) ⟨_, rfl, G_S52, F_S52, by omega⟩
        · refine zz_aload_n (x := 1076) rfl zd_3_5_110 ?_
          refine zz_iload_n (x := S0 1076 1) rfl zd_3_5_111 ?_
          refine zz_iconst zd_3_5_112 ?_
          refine zz_callVV [zi (S0 1076 1), zi 2] zd_3_5_113 zk_Compiler_163 zT_1076 (zz_ltn hn rfl) rfl rfl ⟨Nat.le_of_ble_eq_true rfl, Nat.le_of_ble_eq_true rfl⟩ ⟨rfl, rfl⟩ (Nat.zero_le _) (Nat.zero_le _) (zc_mark_3_16 (S0 1076 1) 2 S17 n hn G_S17 (by omega) (by omega)) (fun S58 hP => ?_)
          obtain ⟨G_S58, fS58⟩ := hP
          have g60 := zz_G.r G_S17 1076 0 0 1 rfl rfl
          have F_S58 := zz_fr.trans F_S17 fS58 rfl (fun a i h => Or.inr (Or.inl (h ▸ zM_k4 (z := (S17 1076 0)) (by omega) rfl)))
          have b61 := zz_rf4 (z := (S17 1076 0)) (by omega)
          refine zz_aload_n (x := 1076) rfl zd_3_5_116 ?_
          refine zz_aload_n (x := 1076) rfl zd_3_5_117 ?_
          have g62 := zz_G.r G_S17 1076 1 0 1000000 rfl rfl
          refine zz_geti (z := S17 1076 1) zd_3_5_118 zf_Compiler_15 zT_1076 rfl (zz_ltn hn rfl) (zz_rc fS58 rfl rfl (by omega) rfl) ?_
          refine zz_iconst zd_3_5_121 ?_
          refine zz_isub zd_3_5_122 ?_
          refine zz_iconst zd_3_5_123 ?_
          refine zz_callVV [zi ((S17 1076 1) - 1), zi 4] zd_3_5_124 zk_Compiler_163 zT_1076 (zz_ltn hn rfl) rfl rfl ⟨Nat.le_of_ble_eq_true rfl, Nat.le_of_ble_eq_true rfl⟩ ⟨rfl, rfl⟩ (Nat.zero_le _) (Nat.zero_le _) (zc_mark_3_16 ((S17 1076 1) - 1) 4 S58 n hn G_S58 (by omega) (by omega)) (fun S63 hP => ?_)
          obtain ⟨G_S63, fS63⟩ := hP
          have g65 := zz_G.r G_S58 1076 0 0 1 rfl rfl
          have F_S63 := zz_fr.trans F_S58 fS63 rfl (fun a i h => Or.inr (Or.inl (h ▸ zM_k4 (z := (S58 1076 0)) (by omega) rfl)))
          have b66 := zz_rf4 (z := (S58 1076 0)) (by omega)
          refine zz_aload_n (x := 1076) rfl zd_3_5_127 ?_
          refine zz_iload_n (x := p0) rfl zd_3_5_128 ?_
          have e67 : S63 1076 3 = S0 1076 3 := (zz_rc fS63 rfl rfl (by omega) (zz_rc fS58 rfl rfl (by omega) (zz_rc fS17 rfl rfl (by omega) rfl)))
          have e68 : S63 1076 4 = S0 1076 4 := (zz_rc fS63 rfl rfl (by omega) (zz_rc fS58 rfl rfl (by omega) (zz_rc fS17 rfl rfl (by omega) rfl)))
          have e69 : S63 1076 5 = S0 1076 5 := (zz_rc fS63 rfl rfl (by omega) (zz_rc fS58 rfl rfl (by omega) (zz_rc fS17 rfl rfl (by omega) rfl)))
          refine zz_callVJ [zi p0] zd_3_5_129 zk_Compiler_167 zT_1076 (zz_ltn hn rfl) rfl rfl ⟨Nat.le_of_ble_eq_true rfl, Nat.le_of_ble_eq_true rfl⟩ ⟨rfl, rfl⟩ (Nat.zero_le _) (Nat.zero_le _) (zc_workOf_3_11 p0 S63 n hn G_S63 (by omega) (by omega)) (fun v71 S70 hP => ?_)
          obtain ⟨rfl, o72⟩ := hP
          refine zz_iconst zd_3_5_132 ?_
          refine zz_callSJ [zi 1] zd_3_5_133 zk_Compiler_139 rfl rfl ⟨Nat.le_of_ble_eq_true rfl, Nat.le_of_ble_eq_true rfl⟩ ⟨rfl, rfl⟩ (Nat.zero_le _) (Nat.zero_le _) (zc_flag_12_5 1 S63 n hn G_S63 (by omega)) (fun v74 S73 hP => ?_)
          obtain ⟨rfl, o75⟩ := hP
          refine zz_lor zd_3_5_136 (fun v76 hv76 ev76 => ?_)
          refine zz_lstore [some (.ref 1076), some (zi p0), some (zi p1), some (zi (S0 1076 1)), some (zl v76), none] zd_3_5_137 (by decide) rfl ?_
          refine zz_aload_n (x := 1076) rfl zd_3_5_139 ?_
          refine zz_iload_n (x := p1) rfl zd_3_5_140 ?_
          refine zz_if_eq (by omega) zd_3_5_141 (fun c77 => ?_) (fun c77 => ?_)
          · refine zz_lload (x := v76) rfl zd_3_5_149 ?_
            refine zz_iconst zd_3_5_151 ?_
            refine zz_callSJ [zi 3] zd_3_5_152 zk_Compiler_139 rfl rfl ⟨Nat.le_of_ble_eq_true rfl, Nat.le_of_ble_eq_true rfl⟩ ⟨rfl, rfl⟩ (Nat.zero_le _) (Nat.zero_le _) (zc_flag_12_5 3 S63 n hn G_S63 (by omega)) (fun v79 S78 hP => ?_)
            obtain ⟨rfl, o80⟩ := hP
            refine zz_lor zd_3_5_155 (fun v81 hv81 ev81 => ?_)
            have e82 : S63 1076 1 = S17 1076 1 := (zz_rc fS63 rfl rfl (by omega) (zz_rc fS58 rfl rfl (by omega) rfl))
            refine zz_callVV [zl v81] zd_3_5_156 zk_Compiler_143 zT_1076 (zz_ltn hn rfl) rfl rfl ⟨Nat.le_of_ble_eq_true rfl, Nat.le_of_ble_eq_true rfl⟩ ⟨rfl, rfl⟩ (Nat.zero_le _) (Nat.zero_le _) (zc_emit_3_15 v81 S63 n hn G_S63 (by omega) (by omega)) (fun S83 hP => ?_)
            obtain ⟨G_S83, fS83, o85⟩ := hP
            have g86 := zz_G.r G_S63 1076 0 0 1 rfl rfl
            have F_S83 := zz_fr.trans F_S63 fS83 rfl (fun a i h => Or.inr (Or.inl (h ▸ zM_k4 (z := (S63 1076 0)) (by omega) rfl)))
            have b87 := zz_rf4 (z := (S63 1076 0)) (by omega)
            have g88 := zz_G.r G_S83 1076 1 0 1000000 rfl rfl
            exact zz_vret zd_3_5_159 rfl (Nat.zero_le _) (Nat.zero_le _) ⟨_, rfl, G_S83, F_S83, by omega⟩
          · refine zz_lload (x := v76) rfl zd_3_5_144 ?_
            refine zz_goto zd_3_5_146 ?_
            have e89 : S63 1076 1 = S17 1076 1 := (zz_rc fS63 rfl rfl (by omega) (zz_rc fS58 rfl rfl (by omega) rfl))
            refine zz_callVV [zl v76] zd_3_5_156 zk_Compiler_143 zT_1076 (zz_ltn hn rfl) rfl rfl ⟨Nat.le_of_ble_eq_true rfl, Nat.le_of_ble_eq_true rfl⟩ ⟨rfl, rfl⟩ (Nat.zero_le _) (Nat.zero_le _) (zc_emit_3_15 v76 S63 n hn G_S63 (by omega) (by omega)) (fun S90 hP => ?_)
            obtain ⟨G_S90, fS90, o92⟩ := hP
            have g93 := zz_G.r G_S63 1076 0 0 1 rfl rfl
            have F_S90 := zz_fr.trans F_S63 fS90 rfl (fun a i h => Or.inr (Or.inl (h ▸ zM_k4 (z := (S63 1076 0)) (by omega) rfl)))
            have b94 := zz_rf4 (z := (S63 1076 0)) (by omega)
            have g95 := zz_G.r G_S90 1076 1 0 1000000 rfl rfl
            exact zz_vret zd_3_5_159 rfl (Nat.zero_le _) (Nat.zero_le _) ⟨_, rfl, G_S90, F_S90, by omega⟩
      · refine zz_aload_n (x := 1076) rfl zd_3_5_61 ?_
        have g96 := zz_G.r G_S0 1076 4 (-1) 23 rfl rfl
        refine zz_getr (kd := 4) (z := S0 1076 4) zd_3_5_62 zf_Compiler_55 zT_1076 rfl (zz_ltn hn rfl) rfl (by omega) (zz_rf 6 (S0 1076 4)) rfl ?_
        refine zz_goto zd_3_5_65 ?_
        refine zz_astore [some (.ref 1076), some (zi p0), some (zi p1), some (zi (S0 1076 1)), some (.ref (zz_rf 6 (S0 1076 4)))] zd_3_5_72 (by decide) rfl ?_
        refine zz_aload_n (x := 1076) rfl zd_3_5_74 ?_
        refine zz_iconst zd_3_5_75 ?_
        refine zz_aload_n (x := 1076) rfl zd_3_5_76 ?_
        have g97 := zz_G.r G_S0 1076 11 (-2147483648) 2147483647 rfl rfl
        refine zz_geti (z := S0 1076 11) zd_3_5_77 zf_Compiler_91 zT_1076 rfl (zz_ltn hn rfl) rfl ?_
        refine zz_aload (x := zz_rf 6 (S0 1076 4)) rfl zd_3_5_80 ?_
        refine zz_iconst zd_3_5_82 ?_
        refine zz_aload_n (x := 1076) rfl zd_3_5_83 ?_
        have g98 := zz_G.r G_S0 1076 10 (-2147483648) 2147483647 rfl rfl
        refine zz_geti (z := S0 1076 10) zd_3_5_84 zf_Compiler_88 zT_1076 rfl (zz_ltn hn rfl) rfl ?_
        refine zz_aload_n (x := 1076) rfl zd_3_5_87 ?_
        have g99 := zz_G.r G_S0 1076 7 (-2147483648) 2147483647 rfl rfl
        refine zz_geti (z := S0 1076 7) zd_3_5_88 zf_Compiler_76 zT_1076 rfl (zz_ltn hn rfl) rfl ?_
        refine zz_callVI [zi 0, zi (S0 1076 10), zi (S0 1076 7)] zd_3_5_91 zk_Compiler_147 (zT_k6 (by omega)) (zN_k6 hn (by omega)) rfl rfl ⟨Nat.le_of_ble_eq_true rfl, Nat.le_of_ble_eq_true rfl⟩ ⟨rfl, rfl⟩ (Nat.zero_le _) (Nat.zero_le _) (zc_cellAt_4_15 (S0 1076 4) 0 (S0 1076 10) (S0 1076 7) S0 n hn G_S0 (by omega) (by omega) (by omega) (by omega)) (fun v101 S100 hP => ?_)
        obtain ⟨rfl, o102⟩ := hP
        refine zz_aload (x := zz_rf 6 (S0 1076 4)) rfl zd_3_5_94 ?_
        have g103 := zz_G.r G_S0 (zz_rf 6 (S0 1076 4)) 12 (-2147483648) 2147483647 (zR_k6_12 (by omega)) (zB_k6 (by omega))
        refine zz_geti (z := S0 (zz_rf 6 (S0 1076 4)) 12) zd_3_5_96 zf_Compiler_79 (zT_k6 (by omega)) rfl (zN_k6 hn (by omega)) rfl ?_
        have g104 := zz_G.r G_S0 1076 5 (-1) 23 rfl rfl
        refine zz_callVV [zi 0, zi (S0 1076 11), zi v101, zi (S0 (zz_rf 6 (S0 1076 4)) 12)] zd_3_5_99 zk_Compiler_159 zT_1076 (zz_ltn hn rfl) rfl rfl ⟨Nat.le_of_ble_eq_true rfl, Nat.le_of_ble_eq_true rfl⟩ ⟨rfl, rfl⟩ (Nat.zero_le _) (Nat.zero_le _) (zc_loadPlaces_3_10 0 (S0 1076 11) v101 (S0 (zz_rf 6 (S0 1076 4)) 12) S0 n hn G_S0 (by omega) (by omega) (by omega) (by omega) (by omega) (by omega)) (fun S105 hP => ?_)
        obtain ⟨G_S105, fS105, o107⟩ := hP
        have g108 := zz_G.r G_S0 1076 0 0 1 rfl rfl
        have F_S105 := zz_fr.trans F_S0 fS105 rfl (fun a i h => Or.inr (Or.inr (h)))
        have b109 := zz_rf4 (z := (S0 1076 0)) (by omega)
        refine zz_aload_n (x := 1076) rfl zd_3_5_102 ?_
        have g110 := zz_G.r G_S0 1076 12 (-2147483648) 2147483647 rfl rfl
        refine zz_geti (z := S0 1076 12) zd_3_5_103 zf_Compiler_73 zT_1076 rfl (zz_ltn hn rfl) (zz_rc fS105 rfl rfl (by omega) rfl) ?_
        refine zz_iconst zd_3_5_106 ?_
        refine zz_icmp_le (by omega) (by omega) zd_3_5_107 (fun c111 => ?_) (fun c111 => ?_)
        · refine zz_aload_n (x := 1076) rfl zd_3_5_116 ?_
          refine zz_aload_n (x := 1076) rfl zd_3_5_117 ?_
          have g112 := zz_G.r G_S105 1076 1 0 1000000 rfl rfl
          refine zz_geti (z := S105 1076 1) zd_3_5_118 zf_Compiler_15 zT_1076 rfl (zz_ltn hn rfl) rfl ?_
          refine zz_iconst zd_3_5_121 ?_
          refine zz_isub zd_3_5_122 ?_
          refine zz_iconst zd_3_5_123 ?_
          refine zz_callVV [zi ((S105 1076 1) - 1), zi 4] zd_3_5_124 zk_Compiler_163 zT_1076 (zz_ltn hn rfl) rfl rfl ⟨Nat.le_of_ble_eq_true rfl, Nat.le_of_ble_eq_true rfl⟩ ⟨rfl, rfl⟩ (Nat.zero_le _) (Nat.zero_le _) (zc_mark_3_16 ((S105 1076 1) - 1) 4 S105 n hn G_S105 (by omega) (by omega)) (fun S113 hP => ?_)
          obtain ⟨G_S113, fS113⟩ := hP
          have g115 := zz_G.r G_S105 1076 0 0 1 rfl rfl
          have F_S113 := zz_fr.trans F_S105 fS113 rfl (fun a i h => Or.inr (Or.inl (h ▸ zM_k4 (z := (S105 1076 0)) (by omega) rfl)))
          have b116 := zz_rf4 (z := (S105 1076 0)) (by omega)
          refine zz_aload_n (x := 1076) rfl zd_3_5_127 ?_
          refine zz_iload_n (x := p0) rfl zd_3_5_128 ?_
          have e117 : S113 1076 3 = S0 1076 3 := (zz_rc fS113 rfl rfl (by omega) (zz_rc fS105 rfl rfl (by omega) rfl))
          have e118 : S113 1076 4 = S0 1076 4 := (zz_rc fS113 rfl rfl (by omega) (zz_rc fS105 rfl rfl (by omega) rfl))
          have e119 : S113 1076 5 = S0 1076 5 := (zz_rc fS113 rfl rfl (by omega) (zz_rc fS105 rfl rfl (by omega) rfl))
          refine zz_callVJ [zi p0] zd_3_5_129 zk_Compiler_167 zT_1076 (zz_ltn hn rfl) rfl rfl ⟨Nat.le_of_ble_eq_true rfl, Nat.le_of_ble_eq_true rfl⟩ ⟨rfl, rfl⟩ (Nat.zero_le _) (Nat.zero_le _) (zc_workOf_3_11 p0 S113 n hn G_S113 (by omega) (by omega)) (fun v121 S120 hP => ?_)
          obtain ⟨rfl, o122⟩ := hP
          refine zz_iconst zd_3_5_132 ?_
          refine zz_callSJ [zi 1] zd_3_5_133 zk_Compiler_139 rfl rfl ⟨Nat.le_of_ble_eq_true rfl, Nat.le_of_ble_eq_true rfl⟩ ⟨rfl, rfl⟩ (Nat.zero_le _) (Nat.zero_le _) (zc_flag_12_5 1 S113 n hn G_S113 (by omega)) (fun v124 S123 hP => ?_)
          obtain ⟨rfl, o125⟩ := hP
          refine zz_lor zd_3_5_136 (fun v126 hv126 ev126 => ?_)
          refine zz_lstore [some (.ref 1076), some (zi p0), some (zi p1), some (zi (S0 1076 1)), some (zl v126), none] zd_3_5_137 (by decide) rfl ?_
          refine zz_aload_n (x := 1076) rfl zd_3_5_139 ?_
          refine zz_iload_n (x := p1) rfl zd_3_5_140 ?_
          refine zz_if_eq (by omega) zd_3_5_141 (fun c127 => ?_) (fun c127 => ?_)
          · refine zz_lload (x := v126) rfl zd_3_5_149 ?_
            refine zz_iconst zd_3_5_151 ?_
            refine zz_callSJ [zi 3] zd_3_5_152 zk_Compiler_139 rfl rfl ⟨Nat.le_of_ble_eq_true rfl, Nat.le_of_ble_eq_true rfl⟩ ⟨rfl, rfl⟩ (Nat.zero_le _) (Nat.zero_le _) (zc_flag_12_5 3 S113 n hn G_S113 (by omega)) (fun v129 S128 hP => ?_)
            obtain ⟨rfl, o130⟩ := hP
            refine zz_lor zd_3_5_155 (fun v131 hv131 ev131 => ?_)
            have e132 : S113 1076 1 = S105 1076 1 := (zz_rc fS113 rfl rfl (by omega) rfl)
            refine zz_callVV [zl v131] zd_3_5_156 zk_Compiler_143 zT_1076 (zz_ltn hn rfl) rfl rfl ⟨Nat.le_of_ble_eq_true rfl, Nat.le_of_ble_eq_true rfl⟩ ⟨rfl, rfl⟩ (Nat.zero_le _) (Nat.zero_le _) (zc_emit_3_15 v131 S113 n hn G_S113 (by omega) (by omega)) (fun S133 hP => ?_)
            obtain ⟨G_S133, fS133, o135⟩ := hP
            have g136 := zz_G.r G_S113 1076 0 0 1 rfl rfl
            have F_S133 := zz_fr.trans F_S113 fS133 rfl (fun a i h => Or.inr (Or.inl (h ▸ zM_k4 (z := (S113 1076 0)) (by omega) rfl)))
            have b137 := zz_rf4 (z := (S113 1076 0)) (by omega)
            have g138 := zz_G.r G_S133 1076 1 0 1000000 rfl rfl
            exact zz_vret zd_3_5_159 rfl (Nat.zero_le _) (Nat.zero_le _) ⟨_, rfl, G_S133, F_S133, by omega⟩
          · refine zz_lload (x := v126) rfl zd_3_5_144 ?_
            refine zz_goto zd_3_5_146 ?_
            have e139 : S113 1076 1 = S105 1076 1 := (zz_rc fS113 rfl rfl (by omega) rfl)
            refine zz_callVV [zl v126] zd_3_5_156 zk_Compiler_143 zT_1076 (zz_ltn hn rfl) rfl rfl ⟨Nat.le_of_ble_eq_true rfl, Nat.le_of_ble_eq_true rfl⟩ ⟨rfl, rfl⟩ (Nat.zero_le _) (Nat.zero_le _) (zc_emit_3_15 v126 S113 n hn G_S113 (by omega) (by omega)) (fun S140 hP => ?_)
            obtain ⟨G_S140, fS140, o142⟩ := hP
            have g143 := zz_G.r G_S113 1076 0 0 1 rfl rfl
            have F_S140 := zz_fr.trans F_S113 fS140 rfl (fun a i h => Or.inr (Or.inl (h ▸ zM_k4 (z := (S113 1076 0)) (by omega) rfl)))
            have b144 := zz_rf4 (z := (S113 1076 0)) (by omega)
            have g145 := zz_G.r G_S140 1076 1 0 1000000 rfl rfl
            exact zz_vret zd_3_5_159 rfl (Nat.zero_le _) (Nat.zero_le _) ⟨_, rfl, G_S140, F_S140, by omega⟩
        · refine zz_aload_n (x := 1076) rfl zd_3_5_110 ?_
          refine zz_iload_n (x := S0 1076 1) rfl zd_3_5_111 ?_
          refine zz_iconst zd_3_5_112 ?_
          refine zz_callVV [zi (S0 1076 1), zi 2] zd_3_5_113 zk_Compiler_163 zT_1076 (zz_ltn hn rfl) rfl rfl ⟨Nat.le_of_ble_eq_true rfl, Nat.le_of_ble_eq_true rfl⟩ ⟨rfl, rfl⟩ (Nat.zero_le _) (Nat.zero_le _) (zc_mark_3_16 (S0 1076 1) 2 S105 n hn G_S105 (by omega) (by omega)) (fun S146 hP => ?_)
          obtain ⟨G_S146, fS146⟩ := hP
          have g148 := zz_G.r G_S105 1076 0 0 1 rfl rfl
          have F_S146 := zz_fr.trans F_S105 fS146 rfl (fun a i h => Or.inr (Or.inl (h ▸ zM_k4 (z := (S105 1076 0)) (by omega) rfl)))
          have b149 := zz_rf4 (z := (S105 1076 0)) (by omega)
          refine zz_aload_n (x := 1076) rfl zd_3_5_116 ?_
          refine zz_aload_n (x := 1076) rfl zd_3_5_117 ?_
          have g150 := zz_G.r G_S105 1076 1 0 1000000 rfl rfl
          refine zz_geti (z := S105 1076 1) zd_3_5_118 zf_Compiler_15 zT_1076 rfl (zz_ltn hn rfl) (zz_rc fS146 rfl rfl (by omega) rfl) ?_
          refine zz_iconst zd_3_5_121 ?_
          refine zz_isub zd_3_5_122 ?_
          refine zz_iconst zd_3_5_123 ?_
          refine zz_callVV [zi ((S105 1076 1) - 1), zi 4] zd_3_5_124 zk_Compiler_163 zT_1076 (zz_ltn hn rfl) rfl rfl ⟨Nat.le_of_ble_eq_true rfl, Nat.le_of_ble_eq_true rfl⟩ ⟨rfl, rfl⟩ (Nat.zero_le _) (Nat.zero_le _) (zc_mark_3_16 ((S105 1076 1) - 1) 4 S146 n hn G_S146 (by omega) (by omega)) (fun S151 hP => ?_)
          obtain ⟨G_S151, fS151⟩ := hP
          have g153 := zz_G.r G_S146 1076 0 0 1 rfl rfl
          have F_S151 := zz_fr.trans F_S146 fS151 rfl (fun a i h => Or.inr (Or.inl (h ▸ zM_k4 (z := (S146 1076 0)) (by omega) rfl)))
          have b154 := zz_rf4 (z := (S146 1076 0)) (by omega)
          refine zz_aload_n (x := 1076) rfl zd_3_5_127 ?_
          refine zz_iload_n (x := p0) rfl zd_3_5_128 ?_
          have e155 : S151 1076 3 = S0 1076 3 := (zz_rc fS151 rfl rfl (by omega) (zz_rc fS146 rfl rfl (by omega) (zz_rc fS105 rfl rfl (by omega) rfl)))
          have e156 : S151 1076 4 = S0 1076 4 := (zz_rc fS151 rfl rfl (by omega) (zz_rc fS146 rfl rfl (by omega) (zz_rc fS105 rfl rfl (by omega) rfl)))
          have e157 : S151 1076 5 = S0 1076 5 := (zz_rc fS151 rfl rfl (by omega) (zz_rc fS146 rfl rfl (by omega) (zz_rc fS105 rfl rfl (by omega) rfl)))
          refine zz_callVJ [zi p0] zd_3_5_129 zk_Compiler_167 zT_1076 (zz_ltn hn rfl) rfl rfl ⟨Nat.le_of_ble_eq_true rfl, Nat.le_of_ble_eq_true rfl⟩ ⟨rfl, rfl⟩ (Nat.zero_le _) (Nat.zero_le _) (zc_workOf_3_11 p0 S151 n hn G_S151 (by omega) (by omega)) (fun v159 S158 hP => ?_)
          obtain ⟨rfl, o160⟩ := hP
          refine zz_iconst zd_3_5_132 ?_
          refine zz_callSJ [zi 1] zd_3_5_133 zk_Compiler_139 rfl rfl ⟨Nat.le_of_ble_eq_true rfl, Nat.le_of_ble_eq_true rfl⟩ ⟨rfl, rfl⟩ (Nat.zero_le _) (Nat.zero_le _) (zc_flag_12_5 1 S151 n hn G_S151 (by omega)) (fun v162 S161 hP => ?_)
          obtain ⟨rfl, o163⟩ := hP
          refine zz_lor zd_3_5_136 (fun v164 hv164 ev164 => ?_)
          refine zz_lstore [some (.ref 1076), some (zi p0), some (zi p1), some (zi (S0 1076 1)), some (zl v164), none] zd_3_5_137 (by decide) rfl ?_
          refine zz_aload_n (x := 1076) rfl zd_3_5_139 ?_
          refine zz_iload_n (x := p1) rfl zd_3_5_140 ?_
          refine zz_if_eq (by omega) zd_3_5_141 (fun c165 => ?_) (fun c165 => ?_)
          · refine zz_lload (x := v164) rfl zd_3_5_149 ?_
            refine zz_iconst zd_3_5_151 ?_
            refine zz_callSJ [zi 3] zd_3_5_152 zk_Compiler_139 rfl rfl ⟨Nat.le_of_ble_eq_true rfl, Nat.le_of_ble_eq_true rfl⟩ ⟨rfl, rfl⟩ (Nat.zero_le _) (Nat.zero_le _) (zc_flag_12_5 3 S151 n hn G_S151 (by omega)) (fun v167 S166 hP => ?_)
            obtain ⟨rfl, o168⟩ := hP
            refine zz_lor zd_3_5_155 (fun v169 hv169 ev169 => ?_)
            have e170 : S151 1076 1 = S105 1076 1 := (zz_rc fS151 rfl rfl (by omega) (zz_rc fS146 rfl rfl (by omega) rfl))
            refine zz_callVV [zl v169] zd_3_5_156 zk_Compiler_143 zT_1076 (zz_ltn hn rfl) rfl rfl ⟨Nat.le_of_ble_eq_true rfl, Nat.le_of_ble_eq_true rfl⟩ ⟨rfl, rfl⟩ (Nat.zero_le _) (Nat.zero_le _) (zc_emit_3_15 v169 S151 n hn G_S151 (by omega) (by omega)) (fun S171 hP => ?_)
            obtain ⟨G_S171, fS171, o173⟩ := hP
            have g174 := zz_G.r G_S151 1076 0 0 1 rfl rfl
            have F_S171 := zz_fr.trans F_S151 fS171 rfl (fun a i h => Or.inr (Or.inl (h ▸ zM_k4 (z := (S151 1076 0)) (by omega) rfl)))
            have b175 := zz_rf4 (z := (S151 1076 0)) (by omega)
            have g176 := zz_G.r G_S171 1076 1 0 1000000 rfl rfl
            exact zz_vret zd_3_5_159 rfl (Nat.zero_le _) (Nat.zero_le _) ⟨_, rfl, G_S171, F_S171, by omega⟩
          · refine zz_lload (x := v164) rfl zd_3_5_144 ?_
            refine zz_goto zd_3_5_146 ?_
            have e177 : S151 1076 1 = S105 1076 1 := (zz_rc fS151 rfl rfl (by omega) (zz_rc fS146 rfl rfl (by omega) rfl))
            refine zz_callVV [zl v164] zd_3_5_156 zk_Compiler_143 zT_1076 (zz_ltn hn rfl) rfl rfl ⟨Nat.le_of_ble_eq_true rfl, Nat.le_of_ble_eq_true rfl⟩ ⟨rfl, rfl⟩ (Nat.zero_le _) (Nat.zero_le _) (zc_emit_3_15 v164 S151 n hn G_S151 (by omega) (by omega)) (fun S178 hP => ?_)
            obtain ⟨G_S178, fS178, o180⟩ := hP
            have g181 := zz_G.r G_S151 1076 0 0 1 rfl rfl
            have F_S178 := zz_fr.trans F_S151 fS178 rfl (fun a i h => Or.inr (Or.inl (h ▸ zM_k4 (z := (S151 1076 0)) (by omega) rfl)))
            have b182 := zz_rf4 (z := (S151 1076 0)) (by omega)
            have g183 := zz_G.r G_S178 1076 1 0 1000000 rfl rfl
            exact zz_vret zd_3_5_159 rfl (Nat.zero_le _) (Nat.zero_le _) ⟨_, rfl, G_S178, F_S178, by omega⟩
    · refine zz_aload_n (x := 1076) rfl zd_3_5_43 ?_
      refine zz_aload_n (x := 1076) rfl zd_3_5_44 ?_
      have g184 := zz_G.r G_S0 1076 7 (-2147483648) 2147483647 rfl rfl
      refine zz_geti (z := S0 1076 7) zd_3_5_45 zf_Compiler_76 zT_1076 rfl (zz_ltn hn rfl) rfl ?_
      have g185 := zz_G.r G_S0 1076 4 (-1) 23 rfl rfl
      have g186 := zz_G.r G_S0 1076 5 (-1) 23 rfl rfl
      refine zz_callVV [zi (S0 1076 7)] zd_3_5_48 zk_Compiler_155 zT_1076 (zz_ltn hn rfl) rfl rfl ⟨Nat.le_of_ble_eq_true rfl, Nat.le_of_ble_eq_true rfl⟩ ⟨rfl, rfl⟩ (Nat.zero_le _) (Nat.zero_le _) (zc_loadMet_3_7 (S0 1076 7) S0 n hn G_S0 (by omega) (by omega) (by omega)) (fun S187 hP => ?_)
      obtain ⟨G_S187, fS187, o189⟩ := hP
      have g190 := zz_G.r G_S0 1076 0 0 1 rfl rfl
      have F_S187 := zz_fr.trans F_S0 fS187 rfl (fun a i h => Or.inr (Or.inr (h)))
      have b191 := zz_rf4 (z := (S0 1076 0)) (by omega)
      refine zz_goto zd_3_5_51 ?_
      refine zz_aload_n (x := 1076) rfl zd_3_5_102 ?_
      have g192 := zz_G.r G_S0 1076 12 (-2147483648) 2147483647 rfl rfl
      refine zz_geti (z := S0 1076 12) zd_3_5_103 zf_Compiler_73 zT_1076 rfl (zz_ltn hn rfl) (zz_rc fS187 rfl rfl (by omega) rfl) ?_
      refine zz_iconst zd_3_5_106 ?_
      refine zz_icmp_le (by omega) (by omega) zd_3_5_107 (fun c193 => ?_) (fun c193 => ?_)
      · refine zz_aload_n (x := 1076) rfl zd_3_5_116 ?_
        refine zz_aload_n (x := 1076) rfl zd_3_5_117 ?_
        have g194 := zz_G.r G_S187 1076 1 0 1000000 rfl rfl
        refine zz_geti (z := S187 1076 1) zd_3_5_118 zf_Compiler_15 zT_1076 rfl (zz_ltn hn rfl) rfl ?_
        refine zz_iconst zd_3_5_121 ?_
        refine zz_isub zd_3_5_122 ?_
        refine zz_iconst zd_3_5_123 ?_
        refine zz_callVV [zi ((S187 1076 1) - 1), zi 4] zd_3_5_124 zk_Compiler_163 zT_1076 (zz_ltn hn rfl) rfl rfl ⟨Nat.le_of_ble_eq_true rfl, Nat.le_of_ble_eq_true rfl⟩ ⟨rfl, rfl⟩ (Nat.zero_le _) (Nat.zero_le _) (zc_mark_3_16 ((S187 1076 1) - 1) 4 S187 n hn G_S187 (by omega) (by omega)) (fun S195 hP => ?_)
        obtain ⟨G_S195, fS195⟩ := hP
        have g197 := zz_G.r G_S187 1076 0 0 1 rfl rfl
        have F_S195 := zz_fr.trans F_S187 fS195 rfl (fun a i h => Or.inr (Or.inl (h ▸ zM_k4 (z := (S187 1076 0)) (by omega) rfl)))
        have b198 := zz_rf4 (z := (S187 1076 0)) (by omega)
        refine zz_aload_n (x := 1076) rfl zd_3_5_127 ?_
        refine zz_iload_n (x := p0) rfl zd_3_5_128 ?_
        have e199 : S195 1076 3 = S0 1076 3 := (zz_rc fS195 rfl rfl (by omega) (zz_rc fS187 rfl rfl (by omega) rfl))
        have e200 : S195 1076 4 = S0 1076 4 := (zz_rc fS195 rfl rfl (by omega) (zz_rc fS187 rfl rfl (by omega) rfl))
        have e201 : S195 1076 5 = S0 1076 5 := (zz_rc fS195 rfl rfl (by omega) (zz_rc fS187 rfl rfl (by omega) rfl))
        refine zz_callVJ [zi p0] zd_3_5_129 zk_Compiler_167 zT_1076 (zz_ltn hn rfl) rfl rfl ⟨Nat.le_of_ble_eq_true rfl, Nat.le_of_ble_eq_true rfl⟩ ⟨rfl, rfl⟩ (Nat.zero_le _) (Nat.zero_le _) (zc_workOf_3_11 p0 S195 n hn G_S195 (by omega) (by omega)) (fun v203 S202 hP => ?_)
        obtain ⟨rfl, o204⟩ := hP
        refine zz_iconst zd_3_5_132 ?_
        refine zz_callSJ [zi 1] zd_3_5_133 zk_Compiler_139 rfl rfl ⟨Nat.le_of_ble_eq_true rfl, Nat.le_of_ble_eq_true rfl⟩ ⟨rfl, rfl⟩ (Nat.zero_le _) (Nat.zero_le _) (zc_flag_12_5 1 S195 n hn G_S195 (by omega)) (fun v206 S205 hP => ?_)
        obtain ⟨rfl, o207⟩ := hP
        refine zz_lor zd_3_5_136 (fun v208 hv208 ev208 => ?_)
        refine zz_lstore [some (.ref 1076), some (zi p0), some (zi p1), some (zi (S0 1076 1)), some (zl v208), none] zd_3_5_137 (by decide) rfl ?_
        refine zz_aload_n (x := 1076) rfl zd_3_5_139 ?_
        refine zz_iload_n (x := p1) rfl zd_3_5_140 ?_
        refine zz_if_eq (by omega) zd_3_5_141 (fun c209 => ?_) (fun c209 => ?_)
        · refine zz_lload (x := v208) rfl zd_3_5_149 ?_
          refine zz_iconst zd_3_5_151 ?_
          refine zz_callSJ [zi 3] zd_3_5_152 zk_Compiler_139 rfl rfl ⟨Nat.le_of_ble_eq_true rfl, Nat.le_of_ble_eq_true rfl⟩ ⟨rfl, rfl⟩ (Nat.zero_le _) (Nat.zero_le _) (zc_flag_12_5 3 S195 n hn G_S195 (by omega)) (fun v211 S210 hP => ?_)
          obtain ⟨rfl, o212⟩ := hP
          refine zz_lor zd_3_5_155 (fun v213 hv213 ev213 => ?_)
          have e214 : S195 1076 1 = S187 1076 1 := (zz_rc fS195 rfl rfl (by omega) rfl)
          refine zz_callVV [zl v213] zd_3_5_156 zk_Compiler_143 zT_1076 (zz_ltn hn rfl) rfl rfl ⟨Nat.le_of_ble_eq_true rfl, Nat.le_of_ble_eq_true rfl⟩ ⟨rfl, rfl⟩ (Nat.zero_le _) (Nat.zero_le _) (zc_emit_3_15 v213 S195 n hn G_S195 (by omega) (by omega)) (fun S215 hP => ?_)
          obtain ⟨G_S215, fS215, o217⟩ := hP
          have g218 := zz_G.r G_S195 1076 0 0 1 rfl rfl
          have F_S215 := zz_fr.trans F_S195 fS215 rfl (fun a i h => Or.inr (Or.inl (h ▸ zM_k4 (z := (S195 1076 0)) (by omega) rfl)))
          have b219 := zz_rf4 (z := (S195 1076 0)) (by omega)
          have g220 := zz_G.r G_S215 1076 1 0 1000000 rfl rfl
          exact zz_vret zd_3_5_159 rfl (Nat.zero_le _) (Nat.zero_le _) ⟨_, rfl, G_S215, F_S215, by omega⟩
        · refine zz_lload (x := v208) rfl zd_3_5_144 ?_
          refine zz_goto zd_3_5_146 ?_
          have e221 : S195 1076 1 = S187 1076 1 := (zz_rc fS195 rfl rfl (by omega) rfl)
          refine zz_callVV [zl v208] zd_3_5_156 zk_Compiler_143 zT_1076 (zz_ltn hn rfl) rfl rfl ⟨Nat.le_of_ble_eq_true rfl, Nat.le_of_ble_eq_true rfl⟩ ⟨rfl, rfl⟩ (Nat.zero_le _) (Nat.zero_le _) (zc_emit_3_15 v208 S195 n hn G_S195 (by omega) (by omega)) (fun S222 hP => ?_)
          obtain ⟨G_S222, fS222, o224⟩ := hP
          have g225 := zz_G.r G_S195 1076 0 0 1 rfl rfl
          have F_S222 := zz_fr.trans F_S195 fS222 rfl (fun a i h => Or.inr (Or.inl (h ▸ zM_k4 (z := (S195 1076 0)) (by omega) rfl)))
          have b226 := zz_rf4 (z := (S195 1076 0)) (by omega)
          have g227 := zz_G.r G_S222 1076 1 0 1000000 rfl rfl
          exact zz_vret zd_3_5_159 rfl (Nat.zero_le _) (Nat.zero_le _) ⟨_, rfl, G_S222, F_S222, by omega⟩
      · refine zz_aload_n (x := 1076) rfl zd_3_5_110 ?_
        refine zz_iload_n (x := S0 1076 1) rfl zd_3_5_111 ?_
        refine zz_iconst zd_3_5_112 ?_
        refine zz_callVV [zi (S0 1076 1), zi 2] zd_3_5_113 zk_Compiler_163 zT_1076 (zz_ltn hn rfl) rfl rfl ⟨Nat.le_of_ble_eq_true rfl, Nat.le_of_ble_eq_true rfl⟩ ⟨rfl, rfl⟩ (Nat.zero_le _) (Nat.zero_le _) (zc_mark_3_16 (S0 1076 1) 2 S187 n hn G_S187 (by omega) (by omega)) (fun S228 hP => ?_)
        obtain ⟨G_S228, fS228⟩ := hP
        have g230 := zz_G.r G_S187 1076 0 0 1 rfl rfl
        have F_S228 := zz_fr.trans F_S187 fS228 rfl (fun a i h => Or.inr (Or.inl (h ▸ zM_k4 (z := (S187 1076 0)) (by omega) rfl)))
        have b231 := zz_rf4 (z := (S187 1076 0)) (by omega)
        refine zz_aload_n (x := 1076) rfl zd_3_5_116 ?_
        refine zz_aload_n (x := 1076) rfl zd_3_5_117 ?_
        have g232 := zz_G.r G_S187 1076 1 0 1000000 rfl rfl
        refine zz_geti (z := S187 1076 1) zd_3_5_118 zf_Compiler_15 zT_1076 rfl (zz_ltn hn rfl) (zz_rc fS228 rfl rfl (by omega) rfl) ?_
        refine zz_iconst zd_3_5_121 ?_
        refine zz_isub zd_3_5_122 ?_
        refine zz_iconst zd_3_5_123 ?_
        refine zz_callVV [zi ((S187 1076 1) - 1), zi 4] zd_3_5_124 zk_Compiler_163 zT_1076 (zz_ltn hn rfl) rfl rfl ⟨Nat.le_of_ble_eq_true rfl, Nat.le_of_ble_eq_true rfl⟩ ⟨rfl, rfl⟩ (Nat.zero_le _) (Nat.zero_le _) (zc_mark_3_16 ((S187 1076 1) - 1) 4 S228 n hn G_S228 (by omega) (by omega)) (fun S233 hP => ?_)
        obtain ⟨G_S233, fS233⟩ := hP
        have g235 := zz_G.r G_S228 1076 0 0 1 rfl rfl
        have F_S233 := zz_fr.trans F_S228 fS233 rfl (fun a i h => Or.inr (Or.inl (h ▸ zM_k4 (z := (S228 1076 0)) (by omega) rfl)))
        have b236 := zz_rf4 (z := (S228 1076 0)) (by omega)
        refine zz_aload_n (x := 1076) rfl zd_3_5_127 ?_
        refine zz_iload_n (x := p0) rfl zd_3_5_128 ?_
        have e237 : S233 1076 3 = S0 1076 3 := (zz_rc fS233 rfl rfl (by omega) (zz_rc fS228 rfl rfl (by omega) (zz_rc fS187 rfl rfl (by omega) rfl)))
        have e238 : S233 1076 4 = S0 1076 4 := (zz_rc fS233 rfl rfl (by omega) (zz_rc fS228 rfl rfl (by omega) (zz_rc fS187 rfl rfl (by omega) rfl)))
        have e239 : S233 1076 5 = S0 1076 5 := (zz_rc fS233 rfl rfl (by omega) (zz_rc fS228 rfl rfl (by omega) (zz_rc fS187 rfl rfl (by omega) rfl)))
        refine zz_callVJ [zi p0] zd_3_5_129 zk_Compiler_167 zT_1076 (zz_ltn hn rfl) rfl rfl ⟨Nat.le_of_ble_eq_true rfl, Nat.le_of_ble_eq_true rfl⟩ ⟨rfl, rfl⟩ (Nat.zero_le _) (Nat.zero_le _) (zc_workOf_3_11 p0 S233 n hn G_S233 (by omega) (by omega)) (fun v241 S240 hP => ?_)
        obtain ⟨rfl, o242⟩ := hP
        refine zz_iconst zd_3_5_132 ?_
        refine zz_callSJ [zi 1] zd_3_5_133 zk_Compiler_139 rfl rfl ⟨Nat.le_of_ble_eq_true rfl, Nat.le_of_ble_eq_true rfl⟩ ⟨rfl, rfl⟩ (Nat.zero_le _) (Nat.zero_le _) (zc_flag_12_5 1 S233 n hn G_S233 (by omega)) (fun v244 S243 hP => ?_)
        obtain ⟨rfl, o245⟩ := hP
        refine zz_lor zd_3_5_136 (fun v246 hv246 ev246 => ?_)
        refine zz_lstore [some (.ref 1076), some (zi p0), some (zi p1), some (zi (S0 1076 1)), some (zl v246), none] zd_3_5_137 (by decide) rfl ?_
        refine zz_aload_n (x := 1076) rfl zd_3_5_139 ?_
        refine zz_iload_n (x := p1) rfl zd_3_5_140 ?_
        refine zz_if_eq (by omega) zd_3_5_141 (fun c247 => ?_) (fun c247 => ?_)
        · refine zz_lload (x := v246) rfl zd_3_5_149 ?_
          refine zz_iconst zd_3_5_151 ?_
          refine zz_callSJ [zi 3] zd_3_5_152 zk_Compiler_139 rfl rfl ⟨Nat.le_of_ble_eq_true rfl, Nat.le_of_ble_eq_true rfl⟩ ⟨rfl, rfl⟩ (Nat.zero_le _) (Nat.zero_le _) (zc_flag_12_5 3 S233 n hn G_S233 (by omega)) (fun v249 S248 hP => ?_)
          obtain ⟨rfl, o250⟩ := hP
          refine zz_lor zd_3_5_155 (fun v251 hv251 ev251 => ?_)
          have e252 : S233 1076 1 = S187 1076 1 := (zz_rc fS233 rfl rfl (by omega) (zz_rc fS228 rfl rfl (by omega) rfl))
          refine zz_callVV [zl v251] zd_3_5_156 zk_Compiler_143 zT_1076 (zz_ltn hn rfl) rfl rfl ⟨Nat.le_of_ble_eq_true rfl, Nat.le_of_ble_eq_true rfl⟩ ⟨rfl, rfl⟩ (Nat.zero_le _) (Nat.zero_le _) (zc_emit_3_15 v251 S233 n hn G_S233 (by omega) (by omega)) (fun S253 hP => ?_)
          obtain ⟨G_S253, fS253, o255⟩ := hP
          have g256 := zz_G.r G_S233 1076 0 0 1 rfl rfl
          have F_S253 := zz_fr.trans F_S233 fS253 rfl (fun a i h => Or.inr (Or.inl (h ▸ zM_k4 (z := (S233 1076 0)) (by omega) rfl)))
          have b257 := zz_rf4 (z := (S233 1076 0)) (by omega)
          have g258 := zz_G.r G_S253 1076 1 0 1000000 rfl rfl
          exact zz_vret zd_3_5_159 rfl (Nat.zero_le _) (Nat.zero_le _) ⟨_, rfl, G_S253, F_S253, by omega⟩
        · refine zz_lload (x := v246) rfl zd_3_5_144 ?_
          refine zz_goto zd_3_5_146 ?_
          have e259 : S233 1076 1 = S187 1076 1 := (zz_rc fS233 rfl rfl (by omega) (zz_rc fS228 rfl rfl (by omega) rfl))
          refine zz_callVV [zl v246] zd_3_5_156 zk_Compiler_143 zT_1076 (zz_ltn hn rfl) rfl rfl ⟨Nat.le_of_ble_eq_true rfl, Nat.le_of_ble_eq_true rfl⟩ ⟨rfl, rfl⟩ (Nat.zero_le _) (Nat.zero_le _) (zc_emit_3_15 v246 S233 n hn G_S233 (by omega) (by omega)) (fun S260 hP => ?_)
          obtain ⟨G_S260, fS260, o262⟩ := hP
          have g263 := zz_G.r G_S233 1076 0 0 1 rfl rfl
          have F_S260 := zz_fr.trans F_S233 fS260 rfl (fun a i h => Or.inr (Or.inl (h ▸ zM_k4 (z := (S233 1076 0)) (by omega) rfl)))
          have b264 := zz_rf4 (z := (S233 1076 0)) (by omega)
          have g265 := zz_G.r G_S260 1076 1 0 1000000 rfl rfl
          exact zz_vret zd_3_5_159 rfl (Nat.zero_le _) (Nat.zero_le _) ⟨_, rfl, G_S260, F_S260, by omega⟩
  · refine zz_aload_n (x := 1076) rfl zd_3_5_16 ?_
    refine zz_iload_n (x := p0) rfl zd_3_5_17 ?_
    have g266 := zz_G.r G_S0 1076 4 (-1) 23 rfl rfl
    have g267 := zz_G.r G_S0 1076 5 (-1) 23 rfl rfl
    refine zz_callVV [zi p0] zd_3_5_18 zk_Compiler_151 zT_1076 (zz_ltn hn rfl) rfl rfl ⟨Nat.le_of_ble_eq_true rfl, Nat.le_of_ble_eq_true rfl⟩ ⟨rfl, rfl⟩ (Nat.zero_le _) (Nat.zero_le _) (zc_loadParameters_3_6 p0 S0 n hn G_S0 (by omega) (by omega) (by omega)) (fun S268 hP => ?_)
    obtain ⟨G_S268, fS268, o270⟩ := hP
    have g271 := zz_G.r G_S0 1076 0 0 1 rfl rfl
    have F_S268 := zz_fr.trans F_S0 fS268 rfl (fun a i h => Or.inr (Or.inr (h)))
    have b272 := zz_rf4 (z := (S0 1076 0)) (by omega)
    refine zz_aload_n (x := 1076) rfl zd_3_5_21 ?_
    refine zz_aload_n (x := 1076) rfl zd_3_5_22 ?_
    have g273 := zz_G.r G_S0 1076 15 (-2147483648) 2147483647 rfl rfl
    refine zz_geti (z := S0 1076 15) zd_3_5_23 zf_Compiler_112 zT_1076 rfl (zz_ltn hn rfl) (zz_rc fS268 rfl rfl (by omega) rfl) ?_
    have g274 := zz_G.r G_S268 1076 1 0 1000000 rfl rfl
    have e275 : S268 1076 3 = S0 1076 3 := (zz_rc fS268 rfl rfl (by omega) rfl)
    have e276 : S268 1076 4 = S0 1076 4 := (zz_rc fS268 rfl rfl (by omega) rfl)
    have e277 : S268 1076 5 = S0 1076 5 := (zz_rc fS268 rfl rfl (by omega) rfl)
    refine zz_callVV [zi (S0 1076 15)] zd_3_5_26 zk_Compiler_155 zT_1076 (zz_ltn hn rfl) rfl rfl ⟨Nat.le_of_ble_eq_true rfl, Nat.le_of_ble_eq_true rfl⟩ ⟨rfl, rfl⟩ (Nat.zero_le _) (Nat.zero_le _) (zc_loadMet_3_7 (S0 1076 15) S268 n hn G_S268 (by omega) (by omega) (by omega)) (fun S278 hP => ?_)
    obtain ⟨G_S278, fS278, o280⟩ := hP
    have g281 := zz_G.r G_S268 1076 0 0 1 rfl rfl
    have F_S278 := zz_fr.trans F_S268 fS278 rfl (fun a i h => Or.inr (Or.inl (h ▸ zM_k4 (z := (S268 1076 0)) (by omega) rfl)))
    have b282 := zz_rf4 (z := (S268 1076 0)) (by omega)
    refine zz_goto zd_3_5_29 ?_
    refine zz_aload_n (x := 1076) rfl zd_3_5_102 ?_
    have g283 := zz_G.r G_S0 1076 12 (-2147483648) 2147483647 rfl rfl
    refine zz_geti (z := S0 1076 12) zd_3_5_103 zf_Compiler_73 zT_1076 rfl (zz_ltn hn rfl) (zz_rc fS278 rfl rfl (by omega) (zz_rc fS268 rfl rfl (by omega) rfl)) ?_
    refine zz_iconst zd_3_5_106 ?_
    refine zz_icmp_le (by omega) (by omega) zd_3_5_107 (fun c284 => ?_) (fun c284 => ?_)
    · refine zz_aload_n (x := 1076) rfl zd_3_5_116 ?_
      refine zz_aload_n (x := 1076) rfl zd_3_5_117 ?_
      have g285 := zz_G.r G_S278 1076 1 0 1000000 rfl rfl
      refine zz_geti (z := S278 1076 1) zd_3_5_118 zf_Compiler_15 zT_1076 rfl (zz_ltn hn rfl) rfl ?_
      refine zz_iconst zd_3_5_121 ?_
      refine zz_isub zd_3_5_122 ?_
      refine zz_iconst zd_3_5_123 ?_
      refine zz_callVV [zi ((S278 1076 1) - 1), zi 4] zd_3_5_124 zk_Compiler_163 zT_1076 (zz_ltn hn rfl) rfl rfl ⟨Nat.le_of_ble_eq_true rfl, Nat.le_of_ble_eq_true rfl⟩ ⟨rfl, rfl⟩ (Nat.zero_le _) (Nat.zero_le _) (zc_mark_3_16 ((S278 1076 1) - 1) 4 S278 n hn G_S278 (by omega) (by omega)) (fun S286 hP => ?_)
      obtain ⟨G_S286, fS286⟩ := hP
      have g288 := zz_G.r G_S278 1076 0 0 1 rfl rfl
      have F_S286 := zz_fr.trans F_S278 fS286 rfl (fun a i h => Or.inr (Or.inl (h ▸ zM_k4 (z := (S278 1076 0)) (by omega) rfl)))
      have b289 := zz_rf4 (z := (S278 1076 0)) (by omega)
      refine zz_aload_n (x := 1076) rfl zd_3_5_127 ?_
      refine zz_iload_n (x := p0) rfl zd_3_5_128 ?_
      have e290 : S286 1076 3 = S0 1076 3 := (zz_rc fS286 rfl rfl (by omega) (zz_rc fS278 rfl rfl (by omega) (zz_rc fS268 rfl rfl (by omega) rfl)))
      have e291 : S286 1076 4 = S0 1076 4 := (zz_rc fS286 rfl rfl (by omega) (zz_rc fS278 rfl rfl (by omega) (zz_rc fS268 rfl rfl (by omega) rfl)))
      have e292 : S286 1076 5 = S0 1076 5 := (zz_rc fS286 rfl rfl (by omega) (zz_rc fS278 rfl rfl (by omega) (zz_rc fS268 rfl rfl (by omega) rfl)))
      refine zz_callVJ [zi p0] zd_3_5_129 zk_Compiler_167 zT_1076 (zz_ltn hn rfl) rfl rfl ⟨Nat.le_of_ble_eq_true rfl, Nat.le_of_ble_eq_true rfl⟩ ⟨rfl, rfl⟩ (Nat.zero_le _) (Nat.zero_le _) (zc_workOf_3_11 p0 S286 n hn G_S286 (by omega) (by omega)) (fun v294 S293 hP => ?_)
      obtain ⟨rfl, o295⟩ := hP
      refine zz_iconst zd_3_5_132 ?_
      refine zz_callSJ [zi 1] zd_3_5_133 zk_Compiler_139 rfl rfl ⟨Nat.le_of_ble_eq_true rfl, Nat.le_of_ble_eq_true rfl⟩ ⟨rfl, rfl⟩ (Nat.zero_le _) (Nat.zero_le _) (zc_flag_12_5 1 S286 n hn G_S286 (by omega)) (fun v297 S296 hP => ?_)
      obtain ⟨rfl, o298⟩ := hP
      refine zz_lor zd_3_5_136 (fun v299 hv299 ev299 => ?_)
      refine zz_lstore [some (.ref 1076), some (zi p0), some (zi p1), some (zi (S0 1076 1)), some (zl v299), none] zd_3_5_137 (by decide) rfl ?_
      refine zz_aload_n (x := 1076) rfl zd_3_5_139 ?_
      refine zz_iload_n (x := p1) rfl zd_3_5_140 ?_
      refine zz_if_eq (by omega) zd_3_5_141 (fun c300 => ?_) (fun c300 => ?_)
      · refine zz_lload (x := v299) rfl zd_3_5_149 ?_
        refine zz_iconst zd_3_5_151 ?_
        refine zz_callSJ [zi 3] zd_3_5_152 zk_Compiler_139 rfl rfl ⟨Nat.le_of_ble_eq_true rfl, Nat.le_of_ble_eq_true rfl⟩ ⟨rfl, rfl⟩ (Nat.zero_le _) (Nat.zero_le _) (zc_flag_12_5 3 S286 n hn G_S286 (by omega)) (fun v302 S301 hP => ?_)
        obtain ⟨rfl, o303⟩ := hP
        refine zz_lor zd_3_5_155 (fun v304 hv304 ev304 => ?_)
        have e305 : S286 1076 1 = S278 1076 1 := (zz_rc fS286 rfl rfl (by omega) rfl)
        refine zz_callVV [zl v304] zd_3_5_156 zk_Compiler_143 zT_1076 (zz_ltn hn rfl) rfl rfl ⟨Nat.le_of_ble_eq_true rfl, Nat.le_of_ble_eq_true rfl⟩ ⟨rfl, rfl⟩ (Nat.zero_le _) (Nat.zero_le _) (zc_emit_3_15 v304 S286 n hn G_S286 (by omega) (by omega)) (fun S306 hP => ?_)
        obtain ⟨G_S306, fS306, o308⟩ := hP
        have g309 := zz_G.r G_S286 1076 0 0 1 rfl rfl
        have F_S306 := zz_fr.trans F_S286 fS306 rfl (fun a i h => Or.inr (Or.inl (h ▸ zM_k4 (z := (S286 1076 0)) (by omega) rfl)))
        have b310 := zz_rf4 (z := (S286 1076 0)) (by omega)
        have g311 := zz_G.r G_S306 1076 1 0 1000000 rfl rfl
        exact zz_vret zd_3_5_159 rfl (Nat.zero_le _) (Nat.zero_le _) ⟨_, rfl, G_S306, F_S306, by omega⟩
      · refine zz_lload (x := v299) rfl zd_3_5_144 ?_
        refine zz_goto zd_3_5_146 ?_
        have e312 : S286 1076 1 = S278 1076 1 := (zz_rc fS286 rfl rfl (by omega) rfl)
        refine zz_callVV [zl v299] zd_3_5_156 zk_Compiler_143 zT_1076 (zz_ltn hn rfl) rfl rfl ⟨Nat.le_of_ble_eq_true rfl, Nat.le_of_ble_eq_true rfl⟩ ⟨rfl, rfl⟩ (Nat.zero_le _) (Nat.zero_le _) (zc_emit_3_15 v299 S286 n hn G_S286 (by omega) (by omega)) (fun S313 hP => ?_)
        obtain ⟨G_S313, fS313, o315⟩ := hP
        have g316 := zz_G.r G_S286 1076 0 0 1 rfl rfl
        have F_S313 := zz_fr.trans F_S286 fS313 rfl (fun a i h => Or.inr (Or.inl (h ▸ zM_k4 (z := (S286 1076 0)) (by omega) rfl)))
        have b317 := zz_rf4 (z := (S286 1076 0)) (by omega)
        have g318 := zz_G.r G_S313 1076 1 0 1000000 rfl rfl
        exact zz_vret zd_3_5_159 rfl (Nat.zero_le _) (Nat.zero_le _) ⟨_, rfl, G_S313, F_S313, by omega⟩
    · refine zz_aload_n (x := 1076) rfl zd_3_5_110 ?_
      refine zz_iload_n (x := S0 1076 1) rfl zd_3_5_111 ?_
      refine zz_iconst zd_3_5_112 ?_
      refine zz_callVV [zi (S0 1076 1), zi 2] zd_3_5_113 zk_Compiler_163 zT_1076 (zz_ltn hn rfl) rfl rfl ⟨Nat.le_of_ble_eq_true rfl, Nat.le_of_ble_eq_true rfl⟩ ⟨rfl, rfl⟩ (Nat.zero_le _) (Nat.zero_le _) (zc_mark_3_16 (S0 1076 1) 2 S278 n hn G_S278 (by omega) (by omega)) (fun S319 hP => ?_)
      obtain ⟨G_S319, fS319⟩ := hP
      have g321 := zz_G.r G_S278 1076 0 0 1 rfl rfl
      have F_S319 := zz_fr.trans F_S278 fS319 rfl (fun a i h => Or.inr (Or.inl (h ▸ zM_k4 (z := (S278 1076 0)) (by omega) rfl)))
      have b322 := zz_rf4 (z := (S278 1076 0)) (by omega)
      refine zz_aload_n (x := 1076) rfl zd_3_5_116 ?_
      refine zz_aload_n (x := 1076) rfl zd_3_5_117 ?_
      have g323 := zz_G.r G_S278 1076 1 0 1000000 rfl rfl
      refine zz_geti (z := S278 1076 1) zd_3_5_118 zf_Compiler_15 zT_1076 rfl (zz_ltn hn rfl) (zz_rc fS319 rfl rfl (by omega) rfl) ?_
      refine zz_iconst zd_3_5_121 ?_
      refine zz_isub zd_3_5_122 ?_
      refine zz_iconst zd_3_5_123 ?_
      refine zz_callVV [zi ((S278 1076 1) - 1), zi 4] zd_3_5_124 zk_Compiler_163 zT_1076 (zz_ltn hn rfl) rfl rfl ⟨Nat.le_of_ble_eq_true rfl, Nat.le_of_ble_eq_true rfl⟩ ⟨rfl, rfl⟩ (Nat.zero_le _) (Nat.zero_le _) (zc_mark_3_16 ((S278 1076 1) - 1) 4 S319 n hn G_S319 (by omega) (by omega)) (fun S324 hP => ?_)
      obtain ⟨G_S324, fS324⟩ := hP
      have g326 := zz_G.r G_S319 1076 0 0 1 rfl rfl
      have F_S324 := zz_fr.trans F_S319 fS324 rfl (fun a i h => Or.inr (Or.inl (h ▸ zM_k4 (z := (S319 1076 0)) (by omega) rfl)))
      have b327 := zz_rf4 (z := (S319 1076 0)) (by omega)
      refine zz_aload_n (x := 1076) rfl zd_3_5_127 ?_
      refine zz_iload_n (x := p0) rfl zd_3_5_128 ?_
      have e328 : S324 1076 3 = S0 1076 3 := (zz_rc fS324 rfl rfl (by omega) (zz_rc fS319 rfl rfl (by omega) (zz_rc fS278 rfl rfl (by omega) (zz_rc fS268 rfl rfl (by omega) rfl))))
      have e329 : S324 1076 4 = S0 1076 4 := (zz_rc fS324 rfl rfl (by omega) (zz_rc fS319 rfl rfl (by omega) (zz_rc fS278 rfl rfl (by omega) (zz_rc fS268 rfl rfl (by omega) rfl))))
      have e330 : S324 1076 5 = S0 1076 5 := (zz_rc fS324 rfl rfl (by omega) (zz_rc fS319 rfl rfl (by omega) (zz_rc fS278 rfl rfl (by omega) (zz_rc fS268 rfl rfl (by omega) rfl))))
      refine zz_callVJ [zi p0] zd_3_5_129 zk_Compiler_167 zT_1076 (zz_ltn hn rfl) rfl rfl ⟨Nat.le_of_ble_eq_true rfl, Nat.le_of_ble_eq_true rfl⟩ ⟨rfl, rfl⟩ (Nat.zero_le _) (Nat.zero_le _) (zc_workOf_3_11 p0 S324 n hn G_S324 (by omega) (by omega)) (fun v332 S331 hP => ?_)
      obtain ⟨rfl, o333⟩ := hP
      refine zz_iconst zd_3_5_132 ?_
      refine zz_callSJ [zi 1] zd_3_5_133 zk_Compiler_139 rfl rfl ⟨Nat.le_of_ble_eq_true rfl, Nat.le_of_ble_eq_true rfl⟩ ⟨rfl, rfl⟩ (Nat.zero_le _) (Nat.zero_le _) (zc_flag_12_5 1 S324 n hn G_S324 (by omega)) (fun v335 S334 hP => ?_)
      obtain ⟨rfl, o336⟩ := hP
      refine zz_lor zd_3_5_136 (fun v337 hv337 ev337 => ?_)
      refine zz_lstore [some (.ref 1076), some (zi p0), some (zi p1), some (zi (S0 1076 1)), some (zl v337), none] zd_3_5_137 (by decide) rfl ?_
      refine zz_aload_n (x := 1076) rfl zd_3_5_139 ?_
      refine zz_iload_n (x := p1) rfl zd_3_5_140 ?_
      refine zz_if_eq (by omega) zd_3_5_141 (fun c338 => ?_) (fun c338 => ?_)
      · refine zz_lload (x := v337) rfl zd_3_5_149 ?_
        refine zz_iconst zd_3_5_151 ?_
        refine zz_callSJ [zi 3] zd_3_5_152 zk_Compiler_139 rfl rfl ⟨Nat.le_of_ble_eq_true rfl, Nat.le_of_ble_eq_true rfl⟩ ⟨rfl, rfl⟩ (Nat.zero_le _) (Nat.zero_le _) (zc_flag_12_5 3 S324 n hn G_S324 (by omega)) (fun v340 S339 hP => ?_)
        obtain ⟨rfl, o341⟩ := hP
        refine zz_lor zd_3_5_155 (fun v342 hv342 ev342 => ?_)
        have e343 : S324 1076 1 = S278 1076 1 := (zz_rc fS324 rfl rfl (by omega) (zz_rc fS319 rfl rfl (by omega) rfl))
        refine zz_callVV [zl v342] zd_3_5_156 zk_Compiler_143 zT_1076 (zz_ltn hn rfl) rfl rfl ⟨Nat.le_of_ble_eq_true rfl, Nat.le_of_ble_eq_true rfl⟩ ⟨rfl, rfl⟩ (Nat.zero_le _) (Nat.zero_le _) (zc_emit_3_15 v342 S324 n hn G_S324 (by omega) (by omega)) (fun S344 hP => ?_)
        obtain ⟨G_S344, fS344, o346⟩ := hP
        have g347 := zz_G.r G_S324 1076 0 0 1 rfl rfl
        have F_S344 := zz_fr.trans F_S324 fS344 rfl (fun a i h => Or.inr (Or.inl (h ▸ zM_k4 (z := (S324 1076 0)) (by omega) rfl)))
        have b348 := zz_rf4 (z := (S324 1076 0)) (by omega)
        have g349 := zz_G.r G_S344 1076 1 0 1000000 rfl rfl
        exact zz_vret zd_3_5_159 rfl (Nat.zero_le _) (Nat.zero_le _) ⟨_, rfl, G_S344, F_S344, by omega⟩
      · refine zz_lload (x := v337) rfl zd_3_5_144 ?_
        refine zz_goto zd_3_5_146 ?_
        have e350 : S324 1076 1 = S278 1076 1 := (zz_rc fS324 rfl rfl (by omega) (zz_rc fS319 rfl rfl (by omega) rfl))
        refine zz_callVV [zl v337] zd_3_5_156 zk_Compiler_143 zT_1076 (zz_ltn hn rfl) rfl rfl ⟨Nat.le_of_ble_eq_true rfl, Nat.le_of_ble_eq_true rfl⟩ ⟨rfl, rfl⟩ (Nat.zero_le _) (Nat.zero_le _) (zc_emit_3_15 v337 S324 n hn G_S324 (by omega) (by omega)) (fun S351 hP => ?_)
        obtain ⟨G_S351, fS351, o353⟩ := hP
        have g354 := zz_G.r G_S324 1076 0 0 1 rfl rfl
        have F_S351 := zz_fr.trans F_S324 fS351 rfl (fun a i h => Or.inr (Or.inl (h ▸ zM_k4 (z := (S324 1076 0)) (by omega) rfl)))
        have b355 := zz_rf4 (z := (S324 1076 0)) (by omega)
        have g356 := zz_G.r G_S351 1076 1 0 1000000 rfl rfl
        exact zz_vret zd_3_5_159 rfl (Nat.zero_le _) (Nat.zero_le _) ⟨_, rfl, G_S351, F_S351, by omega⟩
theorem zk_Compiler_118 : mm_Vl "TensorForge$Compiler" 118 9 2 zy_makeGroup_3_5 := ⟨zyw_makeGroup_3_5, (R_Compiler, F_Compiler, 17), rfl, mm_tb_1 1420 (by decide +kernel) rfl, mm_tb_1 1422 (by decide +kernel) rfl, mm_tb_s 64 (by decide +kernel) rfl⟩
theorem zd_3_4_227 : zz_D zy_makeTile_3_4 227 (.aload_n 0) 1 228 := ⟨by decide +kernel, rfl⟩
theorem zd_3_4_228 : zz_D zy_makeTile_3_4 228 (.dup) 1 229 := ⟨by decide +kernel, rfl⟩
theorem zd_3_4_229 : zz_D zy_makeTile_3_4 229 (.getfield 73) 3 232 := ⟨by decide +kernel, rfl⟩
theorem zd_3_4_232 : zz_D zy_makeTile_3_4 232 (.iconst 1) 1 233 := ⟨by decide +kernel, rfl⟩
theorem zd_3_4_233 : zz_D zy_makeTile_3_4 233 (.iadd) 1 234 := ⟨by decide +kernel, rfl⟩
theorem zd_3_4_234 : zz_D zy_makeTile_3_4 234 (.putfield 73) 3 237 := ⟨by decide +kernel, rfl⟩
theorem zd_3_4_237 : zz_D zy_makeTile_3_4 237 (.aload_n 0) 1 238 := ⟨by decide +kernel, rfl⟩
theorem zd_3_4_238 : zz_D zy_makeTile_3_4 238 (.dup) 1 239 := ⟨by decide +kernel, rfl⟩
theorem zd_3_4_239 : zz_D zy_makeTile_3_4 239 (.getfield 112) 3 242 := ⟨by decide +kernel, rfl⟩
theorem zd_3_4_242 : zz_D zy_makeTile_3_4 242 (.aload_n 0) 1 243 := ⟨by decide +kernel, rfl⟩
theorem zd_3_4_243 : zz_D zy_makeTile_3_4 243 (.getfield 21) 3 246 := ⟨by decide +kernel, rfl⟩
theorem zd_3_4_246 : zz_D zy_makeTile_3_4 246 (.iadd) 1 247 := ⟨by decide +kernel, rfl⟩
theorem zd_3_4_247 : zz_D zy_makeTile_3_4 247 (.putfield 112) 3 250 := ⟨by decide +kernel, rfl⟩
theorem zd_3_4_250 : zz_B zy_makeTile_3_4 250 Instr.goto 122 253 := ⟨(-128), by decide +kernel, rfl, rfl⟩
theorem zd_3_4_217 : zz_D zy_makeTile_3_4 217 (.iconst 1) 1 218 := ⟨by decide +kernel, rfl⟩
theorem zd_3_4_218 : zz_B zy_makeTile_3_4 218 Instr.goto 222 221 := ⟨4, by decide +kernel, rfl, rfl⟩
theorem zd_3_4_175 : zz_D zy_makeTile_3_4 175 (.aload_n 0) 1 176 := ⟨by decide +kernel, rfl⟩
theorem zd_3_4_176 : zz_D zy_makeTile_3_4 176 (.getfield 109) 3 179 := ⟨by decide +kernel, rfl⟩
theorem zd_3_4_179 : zz_D zy_makeTile_3_4 179 (.iload 4) 2 181 := ⟨by decide +kernel, rfl⟩
theorem zd_3_4_181 : zz_D zy_makeTile_3_4 181 (.iconst 1) 1 182 := ⟨by decide +kernel, rfl⟩
theorem zd_3_4_182 : zz_D zy_makeTile_3_4 182 (.isub) 1 183 := ⟨by decide +kernel, rfl⟩
theorem zd_3_4_183 : zz_B zy_makeTile_3_4 183 (Instr.if_icmp .ne) 204 186 := ⟨21, by decide +kernel, rfl, rfl⟩
theorem zd_3_4_186 : zz_D zy_makeTile_3_4 186 (.aload_n 0) 1 187 := ⟨by decide +kernel, rfl⟩
theorem zd_3_4_187 : zz_D zy_makeTile_3_4 187 (.getfield 112) 3 190 := ⟨by decide +kernel, rfl⟩
theorem zd_3_4_190 : zz_D zy_makeTile_3_4 190 (.aload_n 0) 1 191 := ⟨by decide +kernel, rfl⟩
theorem zd_3_4_191 : zz_D zy_makeTile_3_4 191 (.getfield 21) 3 194 := ⟨by decide +kernel, rfl⟩
theorem zd_3_4_194 : zz_D zy_makeTile_3_4 194 (.iadd) 1 195 := ⟨by decide +kernel, rfl⟩
theorem zd_3_4_195 : zz_D zy_makeTile_3_4 195 (.iload 5) 2 197 := ⟨by decide +kernel, rfl⟩
theorem zd_3_4_197 : zz_B zy_makeTile_3_4 197 (Instr.if_icmp .lt) 204 200 := ⟨7, by decide +kernel, rfl, rfl⟩
theorem zd_3_4_200 : zz_D zy_makeTile_3_4 200 (.iconst 1) 1 201 := ⟨by decide +kernel, rfl⟩
theorem zd_3_4_201 : zz_B zy_makeTile_3_4 201 Instr.goto 205 204 := ⟨4, by decide +kernel, rfl, rfl⟩
-- TensorForge$Compiler makeTile ()V
abbrev zr_makeTile_3_4 : Room := { frames := 4, cells := 0, slots := 0, locals := 65 }
def zp_makeTile_3_4  (S0 : zz_S) : zz_S → Prop := fun S => zz_G S ∧ zz_fr [(1076, 1), (1076, 6), (1076, 12), (1076, 13), (1076, 14), (1076, 15), (1076, 16)] [1029, 1030] (fun _ _ => False) S0 S ∧ (S0 1076 1 + 2 ≤ S 1076 1 ∧ S 1076 1 ≤ S0 1076 1 + 2600)
theorem zb_makeTile_3_4_95 {g : mm_G} {l : Launch}  (S0 : zz_S) (n : Nat) (hn : zz_end ≤ n) (G_S0 : zz_G S0) (hq : S0 1076 1 ≤ 600) (hl : 0 ≤ S0 1076 3 ∧ 0 ≤ S0 1076 4 ∧ 0 ≤ S0 1076 5) (hk : zz_ly S0 (S0 1076 3) ∧ S0 (zz_rf 6 (S0 1076 4)) 12 ≤ 63) (x1 : Int) (x3 : Int) (x4 : Int) (x5 : Int) (S : zz_S) (G_S : zz_G S) (F_S : zz_fr [(1076, 1), (1076, 6), (1076, 12), (1076, 13), (1076, 14), (1076, 15), (1076, 16)] [1029, 1030] (fun _ _ => False) S0 S) (i95_0 : 0 ≤ x1 ∧ x1 ≤ 0) (i95_1 : (-2147483648) ≤ x3 ∧ x3 ≤ 3) (i95_2 : (-2147483648) ≤ x4 ∧ x4 ≤ 3) (i95_3 : (-2147483648) ≤ x5 ∧ x5 ≤ 63) (i95_4 : 0 ≤ S 1076 13 ∧ S 1076 13 ≤ 3) (i95_5 : S0 1076 1 ≤ S 1076 1 ∧ S 1076 1 ≤ S0 1076 1 + 840 * S 1076 13) (R : Nat) (hR : (51539607552 + (3 - S 1076 13).toNat) * 1208925819614629174706176 + 1208925819614629174706175 = R) (k108 : ∀ (x1 : Int) (x3 : Int) (x4 : Int) (x5 : Int) (S : zz_S), zz_G S → zz_fr [(1076, 1), (1076, 6), (1076, 12), (1076, 13), (1076, 14), (1076, 15), (1076, 16)] [1029, 1030] (fun _ _ => False) S0 S → (0 ≤ x1 ∧ x1 ≤ 0) → ((-2147483648) ≤ x3 ∧ x3 ≤ 3) → ((-2147483648) ≤ x4 ∧ x4 ≤ 3) → ((-2147483648) ≤ x5 ∧ x5 ≤ 63) → (S0 (zz_rf 6 (S0 1076 3)) 0 ≠ 1) → (S0 (zz_rf 6 (S0 1076 3)) 0 ≠ 3) → (0 ≤ S 1076 13 ∧ S 1076 13 ≤ 2) → (0 ≤ S 1076 14 ∧ S 1076 14 ≤ 3) → (S 1076 13 < x3) → (S0 1076 1 ≤ S 1076 1 ∧ S 1076 1 ≤ S0 1076 1 + 840 * S 1076 13 + 280 * S 1076 14) → (51539607552 + (3 - S 1076 13).toNat) * 1208925819614629174706176 + (34359738368 + (3 - S 1076 14).toNat) * 1099511627776 + 1099511627775 < R → zz_E g l zy_makeTile_3_4 zr_makeTile_3_4 (zz_QV n (zp_makeTile_3_4  S0)) S n 108 [some (.ref 1076), some (zi x1), none, some (zi x3), some (zi x4), some (zi x5), some (zi (S0 1076 12))] [] 0 0) : zz_E g l zy_makeTile_3_4 zr_makeTile_3_4 (zz_QV n (zp_makeTile_3_4  S0)) S n 95 [some (.ref 1076), some (zi x1), none, some (zi x3), some (zi x4), some (zi x5), some (zi (S0 1076 12))] [] 0 0 := by
  refine zz_aload_n (x := 1076) rfl zd_3_4_95 ?_
  have g36 := zz_G.r G_S 1076 13 (-2147483648) 2147483647 rfl rfl
  refine zz_geti (z := S 1076 13) zd_3_4_96 zf_Compiler_106 zT_1076 rfl (zz_ltn hn rfl) rfl ?_
  refine zz_iload_n (x := x3) rfl zd_3_4_99 ?_
  refine zz_icmp_ge (by omega) (by omega) zd_3_4_100 (fun c37 => ?_) (fun c37 => ?_)
  · refine zz_aload_n (x := 1076) rfl zd_3_4_279 ?_
    refine zz_callVI [] zd_3_4_280 zk_Compiler_122 zT_1076 (zz_ltn hn rfl) rfl rfl ⟨Nat.le_of_ble_eq_true rfl, Nat.le_of_ble_eq_true rfl⟩ ⟨rfl, rfl⟩ (Nat.zero_le _) (Nat.zero_le _) (zc_tileHalf_3_13  S n hn G_S ) (fun v39 S38 hP => ?_)
    obtain ⟨rfl, o40⟩ := hP
    refine zz_istore [some (.ref 1076), some (zi x1), none, some (zi x3), some (zi x4), some (zi x5), some (zi (S0 1076 12)), some (zi v39)] zd_3_4_283 (by decide) rfl ?_
    refine zz_bipush (by decide) zd_3_4_285 ?_
    refine zz_aload_n (x := 1076) rfl zd_3_4_287 ?_
    have g41 := zz_G.r G_S0 1076 11 (-2147483648) 2147483647 rfl rfl
    refine zz_geti (z := S0 1076 11) zd_3_4_288 zf_Compiler_91 zT_1076 rfl (zz_ltn hn rfl) (zz_rc F_S rfl rfl (fun h => h) rfl) ?_
    refine zz_aload_n (x := 1076) rfl zd_3_4_291 ?_
    have g42 := zz_G.r G_S0 1076 8 (-2147483648) 2147483647 rfl rfl
    refine zz_geti (z := S0 1076 8) zd_3_4_292 zf_Compiler_82 zT_1076 rfl (zz_ltn hn rfl) (zz_rc F_S rfl rfl (fun h => h) rfl) ?_
    refine zz_callSJ [zi 7, zi (S0 1076 11), zi (S0 1076 8)] zd_3_4_295 zk_Compiler_128 rfl rfl ⟨Nat.le_of_ble_eq_true rfl, Nat.le_of_ble_eq_true rfl⟩ ⟨rfl, rfl⟩ (Nat.zero_le _) (Nat.zero_le _) (zc_shaped_12_6 7 (S0 1076 11) (S0 1076 8) S n hn G_S (by omega) (by omega) (by omega)) (fun v44 S43 hP => ?_)
    obtain ⟨rfl, o45⟩ := hP
    refine zz_bipush (by decide) zd_3_4_298 ?_
    refine zz_iload (x := v39) rfl zd_3_4_300 ?_
    refine zz_callSJ [zi 8, zi v39] zd_3_4_302 zk_Compiler_132 rfl rfl ⟨Nat.le_of_ble_eq_true rfl, Nat.le_of_ble_eq_true rfl⟩ ⟨rfl, rfl⟩ (Nat.zero_le _) (Nat.zero_le _) (zc_bits_12_4 8 v39 S n hn G_S (by omega) (by omega)) (fun v47 S46 hP => ?_)
    obtain ⟨rfl, o48⟩ := hP
    refine zz_lor zd_3_4_305 (fun v49 hv49 ev49 => ?_)
    refine zz_bipush (by decide) zd_3_4_306 ?_
    refine zz_iload (x := v39) rfl zd_3_4_308 ?_
    refine zz_callSJ [zi 9, zi v39] zd_3_4_310 zk_Compiler_132 rfl rfl ⟨Nat.le_of_ble_eq_true rfl, Nat.le_of_ble_eq_true rfl⟩ ⟨rfl, rfl⟩ (Nat.zero_le _) (Nat.zero_le _) (zc_bits_12_4 9 v39 S n hn G_S (by omega) (by omega)) (fun v51 S50 hP => ?_)
    obtain ⟨rfl, o52⟩ := hP
    refine zz_lor zd_3_4_313 (fun v53 hv53 ev53 => ?_)
    refine zz_bipush (by decide) zd_3_4_314 ?_
    refine zz_aload_n (x := 1076) rfl zd_3_4_316 ?_
    have g54 := zz_G.r G_S0 1076 3 (-1) 23 rfl rfl
    refine zz_getr (kd := 4) (z := S0 1076 3) zd_3_4_317 zf_Compiler_51 zT_1076 rfl (zz_ltn hn rfl) (zz_rc F_S rfl rfl (fun h => h) rfl) (by omega) (zz_rf 6 (S0 1076 3)) rfl ?_
    refine zz_callVI [] zd_3_4_320 zk_Compiler_136 (zT_k6 (by omega)) (zN_k6 hn (by omega)) rfl rfl ⟨Nat.le_of_ble_eq_true rfl, Nat.le_of_ble_eq_true rfl⟩ ⟨rfl, rfl⟩ (Nat.zero_le _) (Nat.zero_le _) (zc_narrowing_4_6 (S0 1076 3) S n hn G_S (by omega)) (fun v56 S55 hP => ?_)
    obtain ⟨rfl, o57⟩ := hP
    refine zz_callSJ [zi 11, zi v56] zd_3_4_323 zk_Compiler_132 rfl rfl ⟨Nat.le_of_ble_eq_true rfl, Nat.le_of_ble_eq_true rfl⟩ ⟨rfl, rfl⟩ (Nat.zero_le _) (Nat.zero_le _) (zc_bits_12_4 11 v56 S n hn G_S (by omega) (by omega)) (fun v59 S58 hP => ?_)
    obtain ⟨rfl, o60⟩ := hP
    refine zz_lor zd_3_4_326 (fun v61 hv61 ev61 => ?_)
    refine zz_iconst zd_3_4_327 ?_
    refine zz_callSJ [zi 3] zd_3_4_328 zk_Compiler_139 rfl rfl ⟨Nat.le_of_ble_eq_true rfl, Nat.le_of_ble_eq_true rfl⟩ ⟨rfl, rfl⟩ (Nat.zero_le _) (Nat.zero_le _) (zc_flag_12_5 3 S n hn G_S (by omega)) (fun v63 S62 hP => ?_)
    obtain ⟨rfl, o64⟩ := hP
    refine zz_lor zd_3_4_331 (fun v65 hv65 ev65 => ?_)
    refine zz_iconst zd_3_4_332 ?_
    refine zz_callSJ [zi 4] zd_3_4_333 zk_Compiler_139 rfl rfl ⟨Nat.le_of_ble_eq_true rfl, Nat.le_of_ble_eq_true rfl⟩ ⟨rfl, rfl⟩ (Nat.zero_le _) (Nat.zero_le _) (zc_flag_12_5 4 S n hn G_S (by omega)) (fun v67 S66 hP => ?_)
    obtain ⟨rfl, o68⟩ := hP
    refine zz_lor zd_3_4_336 (fun v69 hv69 ev69 => ?_)
    refine zz_lstore [some (.ref 1076), some (zi x1), none, some (zi x3), some (zi x4), some (zi x5), some (zi (S0 1076 12)), some (zi v39), some (zl v69), none] zd_3_4_337 (by decide) rfl ?_
    refine zz_aload_n (x := 1076) rfl zd_3_4_339 ?_
    refine zz_aload_n (x := 1076) rfl zd_3_4_340 ?_
    have g70 := zz_G.r G_S 1076 6 (-2147483648) 2147483647 rfl rfl
    refine zz_geti (z := S 1076 6) zd_3_4_341 zf_Compiler_70 zT_1076 rfl (zz_ltn hn rfl) rfl ?_
    refine zz_iconst zd_3_4_344 ?_
    refine zz_icmp_le (by omega) (by omega) zd_3_4_345 (fun c71 => ?_) (fun c71 => ?_)
    · refine zz_lload (x := v69) rfl zd_3_4_358 ?_
      have g72 := zz_G.r G_S 1076 1 0 1000000 rfl rfl
      refine zz_callVV [zl v69] zd_3_4_360 zk_Compiler_143 zT_1076 (zz_ltn hn rfl) rfl rfl ⟨Nat.le_of_ble_eq_true rfl, Nat.le_of_ble_eq_true rfl⟩ ⟨rfl, rfl⟩ (Nat.zero_le _) (Nat.zero_le _) (zc_emit_3_15 v69 S n hn G_S (by omega) (by omega)) (fun S73 hP => ?_)
      obtain ⟨G_S73, fS73, o75⟩ := hP
      have g76 := zz_G.r G_S 1076 0 0 1 rfl rfl
      have F_S73 := zz_fr.trans F_S fS73 rfl (fun a i h => Or.inr (Or.inl (h ▸ zM_k4 (z := (S 1076 0)) (by omega) rfl)))
      have b77 := zz_rf4 (z := (S 1076 0)) (by omega)
      refine zz_aload_n (x := 1076) rfl zd_3_4_363 ?_
      refine zz_bipush (by decide) zd_3_4_364 ?_
      refine zz_aload_n (x := 1076) rfl zd_3_4_366 ?_
      refine zz_geti (z := S0 1076 11) zd_3_4_367 zf_Compiler_91 zT_1076 rfl (zz_ltn hn rfl) (zz_rc fS73 rfl rfl (by omega) (zz_rc F_S rfl rfl (fun h => h) rfl)) ?_
      refine zz_aload_n (x := 1076) rfl zd_3_4_370 ?_
      refine zz_geti (z := S0 1076 8) zd_3_4_371 zf_Compiler_82 zT_1076 rfl (zz_ltn hn rfl) (zz_rc fS73 rfl rfl (by omega) (zz_rc F_S rfl rfl (fun h => h) rfl)) ?_
      refine zz_callSJ [zi 8, zi (S0 1076 11), zi (S0 1076 8)] zd_3_4_374 zk_Compiler_128 rfl rfl ⟨Nat.le_of_ble_eq_true rfl, Nat.le_of_ble_eq_true rfl⟩ ⟨rfl, rfl⟩ (Nat.zero_le _) (Nat.zero_le _) (zc_shaped_12_6 8 (S0 1076 11) (S0 1076 8) S73 n hn G_S73 (by omega) (by omega) (by omega)) (fun v79 S78 hP => ?_)
      obtain ⟨rfl, o80⟩ := hP
      refine zz_bipush (by decide) zd_3_4_377 ?_
      refine zz_iload (x := v39) rfl zd_3_4_379 ?_
      refine zz_callSJ [zi 8, zi v39] zd_3_4_381 zk_Compiler_132 rfl rfl ⟨Nat.le_of_ble_eq_true rfl, Nat.le_of_ble_eq_true rfl⟩ ⟨rfl, rfl⟩ (Nat.zero_le _) (Nat.zero_le _) (zc_bits_12_4 8 v39 S73 n hn G_S73 (by omega) (by omega)) (fun v82 S81 hP => ?_)
      obtain ⟨rfl, o83⟩ := hP
      refine zz_lor zd_3_4_384 (fun v84 hv84 ev84 => ?_)
      refine zz_iconst zd_3_4_385 ?_
      refine zz_aload_n (x := 1076) rfl zd_3_4_386 ?_
      refine zz_getr (kd := 4) (z := S0 1076 3) zd_3_4_387 zf_Compiler_51 zT_1076 rfl (zz_ltn hn rfl) (zz_rc fS73 rfl rfl (by omega) (zz_rc F_S rfl rfl (fun h => h) rfl)) (by omega) (zz_rf 6 (S0 1076 3)) rfl ?_
      refine zz_aload_n (x := 1076) rfl zd_3_4_390 ?_
      have g85 := zz_G.r G_S0 1076 9 (-2147483648) 2147483647 rfl rfl
      refine zz_geti (z := S0 1076 9) zd_3_4_391 zf_Compiler_85 zT_1076 rfl (zz_ltn hn rfl) (zz_rc fS73 rfl rfl (by omega) (zz_rc F_S rfl rfl (fun h => h) rfl)) ?_
      refine zz_aload_n (x := 1076) rfl zd_3_4_394 ?_
      have g86 := zz_G.r G_S0 1076 10 (-2147483648) 2147483647 rfl rfl
      refine zz_geti (z := S0 1076 10) zd_3_4_395 zf_Compiler_88 zT_1076 rfl (zz_ltn hn rfl) (zz_rc fS73 rfl rfl (by omega) (zz_rc F_S rfl rfl (fun h => h) rfl)) ?_
      refine zz_aload_n (x := 1076) rfl zd_3_4_398 ?_
      have g87 := zz_G.r G_S0 1076 7 (-2147483648) 2147483647 rfl rfl
      refine zz_geti (z := S0 1076 7) zd_3_4_399 zf_Compiler_76 zT_1076 rfl (zz_ltn hn rfl) (zz_rc fS73 rfl rfl (by omega) (zz_rc F_S rfl rfl (fun h => h) rfl)) ?_
      refine zz_callVI [zi (S0 1076 9), zi (S0 1076 10), zi (S0 1076 7)] zd_3_4_402 zk_Compiler_147 (zT_k6 (by omega)) (zN_k6 hn (by omega)) rfl rfl ⟨Nat.le_of_ble_eq_true rfl, Nat.le_of_ble_eq_true rfl⟩ ⟨rfl, rfl⟩ (Nat.zero_le _) (Nat.zero_le _) (zc_cellAt_4_15 (S0 1076 3) (S0 1076 9) (S0 1076 10) (S0 1076 7) S73 n hn G_S73 (by omega) (by omega) (by omega) (by omega)) (fun v89 S88 hP => ?_)
      obtain ⟨rfl, o90⟩ := hP
      refine zz_callSJ [zi 5, zi v89] zd_3_4_405 zk_Compiler_132 rfl rfl ⟨Nat.le_of_ble_eq_true rfl, Nat.le_of_ble_eq_true rfl⟩ ⟨rfl, rfl⟩ (Nat.zero_le _) (Nat.zero_le _) (zc_bits_12_4 5 v89 S73 n hn G_S73 (by omega) (by omega)) (fun v92 S91 hP => ?_)
      obtain ⟨rfl, o93⟩ := hP
      refine zz_lor zd_3_4_408 (fun v94 hv94 ev94 => ?_)
      refine zz_bipush (by decide) zd_3_4_409 ?_
      refine zz_aload_n (x := 1076) rfl zd_3_4_411 ?_
      refine zz_getr (kd := 4) (z := S0 1076 3) zd_3_4_412 zf_Compiler_51 zT_1076 rfl (zz_ltn hn rfl) (zz_rc fS73 rfl rfl (by omega) (zz_rc F_S rfl rfl (fun h => h) rfl)) (by omega) (zz_rf 6 (S0 1076 3)) rfl ?_
      have g95 := zz_G.r G_S0 (zz_rf 6 (S0 1076 3)) 12 (-2147483648) 2147483647 (zR_k6_12 (by omega)) (zB_k6 (by omega))
      refine zz_geti (z := S0 (zz_rf 6 (S0 1076 3)) 12) zd_3_4_415 zf_Compiler_79 (zT_k6 (by omega)) rfl (zN_k6 hn (by omega)) (zz_rc fS73 (zP_k6 (by omega) rfl) (zQ_k6 (by omega) rfl) (by omega) (zz_rc F_S (zP_k6 (by omega) rfl) (zQ_k6 (by omega) rfl) (fun h => h) rfl)) ?_
      refine zz_callSJ [zi 10, zi (S0 (zz_rf 6 (S0 1076 3)) 12)] zd_3_4_418 zk_Compiler_132 rfl rfl ⟨Nat.le_of_ble_eq_true rfl, Nat.le_of_ble_eq_true rfl⟩ ⟨rfl, rfl⟩ (Nat.zero_le _) (Nat.zero_le _) (zc_bits_12_4 10 (S0 (zz_rf 6 (S0 1076 3)) 12) S73 n hn G_S73 (by omega) (by omega)) (fun v97 S96 hP => ?_)
      obtain ⟨rfl, o98⟩ := hP
      refine zz_lor zd_3_4_421 (fun v99 hv99 ev99 => ?_)
      refine zz_iconst zd_3_4_422 ?_
      refine zz_callSJ [zi 1] zd_3_4_423 zk_Compiler_139 rfl rfl ⟨Nat.le_of_ble_eq_true rfl, Nat.le_of_ble_eq_true rfl⟩ ⟨rfl, rfl⟩ (Nat.zero_le _) (Nat.zero_le _) (zc_flag_12_5 1 S73 n hn G_S73 (by omega)) (fun v101 S100 hP => ?_)
      obtain ⟨rfl, o102⟩ := hP
      refine zz_lor zd_3_4_426 (fun v103 hv103 ev103 => ?_)
      refine zz_iconst zd_3_4_427 ?_
      refine zz_callSJ [zi 3] zd_3_4_428 zk_Compiler_139 rfl rfl ⟨Nat.le_of_ble_eq_true rfl, Nat.le_of_ble_eq_true rfl⟩ ⟨rfl, rfl⟩ (Nat.zero_le _) (Nat.zero_le _) (zc_flag_12_5 3 S73 n hn G_S73 (by omega)) (fun v105 S104 hP => ?_)
      obtain ⟨rfl, o106⟩ := hP
      refine zz_lor zd_3_4_431 (fun v107 hv107 ev107 => ?_)
      have g108 := zz_G.r G_S73 1076 1 0 1000000 rfl rfl
      refine zz_callVV [zl v107] zd_3_4_432 zk_Compiler_143 zT_1076 (zz_ltn hn rfl) rfl rfl ⟨Nat.le_of_ble_eq_true rfl, Nat.le_of_ble_eq_true rfl⟩ ⟨rfl, rfl⟩ (Nat.zero_le _) (Nat.zero_le _) (zc_emit_3_15 v107 S73 n hn G_S73 (by omega) (by omega)) (fun S109 hP => ?_)
      obtain ⟨G_S109, fS109, o111⟩ := hP
      have g112 := zz_G.r G_S73 1076 0 0 1 rfl rfl
      have F_S109 := zz_fr.trans F_S73 fS109 rfl (fun a i h => Or.inr (Or.inl (h ▸ zM_k4 (z := (S73 1076 0)) (by omega) rfl)))
      have b113 := zz_rf4 (z := (S73 1076 0)) (by omega)
      refine zz_aload_n (x := 1076) rfl zd_3_4_435 ?_
      refine zz_dup rfl zd_3_4_436 ?_
      refine zz_geti (z := S 1076 6) zd_3_4_437 zf_Compiler_70 zT_1076 rfl (zz_ltn hn rfl) (zz_rc fS109 rfl rfl (by omega) (zz_rc fS73 rfl rfl (by omega) rfl)) ?_
      refine zz_iconst zd_3_4_440 ?_
      refine zz_iadd zd_3_4_441 ?_
      refine zz_puti zd_3_4_442 zf_Compiler_70 zT_1076 rfl (zz_ltn hn rfl) (fun S114 qS114 => ?_)
      have G_S114 := zz_G.put G_S109 qS114 (-2147483648) 2147483647 rfl (by omega)
      have F_S114 := zz_fr.puts F_S109 qS114 rfl
      have g115 := zz_G.r G_S109 1076 1 0 1000000 rfl rfl
      have e116 : S114 1076 1 = S109 1076 1 := (zz_ro qS114 (fun h => absurd h.2 (by decide)) rfl)
      exact zz_vret zd_3_4_445 rfl (Nat.zero_le _) (Nat.zero_le _) ⟨_, rfl, G_S114, F_S114, by omega⟩
    · refine zz_lload (x := v69) rfl zd_3_4_348 ?_
      refine zz_iconst zd_3_4_350 ?_
      refine zz_callSJ [zi 2] zd_3_4_351 zk_Compiler_139 rfl rfl ⟨Nat.le_of_ble_eq_true rfl, Nat.le_of_ble_eq_true rfl⟩ ⟨rfl, rfl⟩ (Nat.zero_le _) (Nat.zero_le _) (zc_flag_12_5 2 S n hn G_S (by omega)) (fun v118 S117 hP => ?_)
      obtain ⟨rfl, o119⟩ := hP
      refine zz_lor zd_3_4_354 (fun v120 hv120 ev120 => ?_)
      refine zz_goto zd_3_4_355 ?_
      have g121 := zz_G.r G_S 1076 1 0 1000000 rfl rfl
      refine zz_callVV [zl v120] zd_3_4_360 zk_Compiler_143 zT_1076 (zz_ltn hn rfl) rfl rfl ⟨Nat.le_of_ble_eq_true rfl, Nat.le_of_ble_eq_true rfl⟩ ⟨rfl, rfl⟩ (Nat.zero_le _) (Nat.zero_le _) (zc_emit_3_15 v120 S n hn G_S (by omega) (by omega)) (fun S122 hP => ?_)
      obtain ⟨G_S122, fS122, o124⟩ := hP
      have g125 := zz_G.r G_S 1076 0 0 1 rfl rfl
      have F_S122 := zz_fr.trans F_S fS122 rfl (fun a i h => Or.inr (Or.inl (h ▸ zM_k4 (z := (S 1076 0)) (by omega) rfl)))
      have b126 := zz_rf4 (z := (S 1076 0)) (by omega)
      refine zz_aload_n (x := 1076) rfl zd_3_4_363 ?_
      refine zz_bipush (by decide) zd_3_4_364 ?_
      refine zz_aload_n (x := 1076) rfl zd_3_4_366 ?_
      refine zz_geti (z := S0 1076 11) zd_3_4_367 zf_Compiler_91 zT_1076 rfl (zz_ltn hn rfl) (zz_rc fS122 rfl rfl (by omega) (zz_rc F_S rfl rfl (fun h => h) rfl)) ?_
      refine zz_aload_n (x := 1076) rfl zd_3_4_370 ?_
      refine zz_geti (z := S0 1076 8) zd_3_4_371 zf_Compiler_82 zT_1076 rfl (zz_ltn hn rfl) (zz_rc fS122 rfl rfl (by omega) (zz_rc F_S rfl rfl (fun h => h) rfl)) ?_
      refine zz_callSJ [zi 8, zi (S0 1076 11), zi (S0 1076 8)] zd_3_4_374 zk_Compiler_128 rfl rfl ⟨Nat.le_of_ble_eq_true rfl, Nat.le_of_ble_eq_true rfl⟩ ⟨rfl, rfl⟩ (Nat.zero_le _) (Nat.zero_le _) (zc_shaped_12_6 8 (S0 1076 11) (S0 1076 8) S122 n hn G_S122 (by omega) (by omega) (by omega)) (fun v128 S127 hP => ?_)
      obtain ⟨rfl, o129⟩ := hP
      refine zz_bipush (by decide) zd_3_4_377 ?_
      refine zz_iload (x := v39) rfl zd_3_4_379 ?_
      refine zz_callSJ [zi 8, zi v39] zd_3_4_381 zk_Compiler_132 rfl rfl ⟨Nat.le_of_ble_eq_true rfl, Nat.le_of_ble_eq_true rfl⟩ ⟨rfl, rfl⟩ (Nat.zero_le _) (Nat.zero_le _) (zc_bits_12_4 8 v39 S122 n hn G_S122 (by omega) (by omega)) (fun v131 S130 hP => ?_)
      obtain ⟨rfl, o132⟩ := hP
      refine zz_lor zd_3_4_384 (fun v133 hv133 ev133 => ?_)
      refine zz_iconst zd_3_4_385 ?_
      refine zz_aload_n (x := 1076) rfl zd_3_4_386 ?_
      refine zz_getr (kd := 4) (z := S0 1076 3) zd_3_4_387 zf_Compiler_51 zT_1076 rfl (zz_ltn hn rfl) (zz_rc fS122 rfl rfl (by omega) (zz_rc F_S rfl rfl (fun h => h) rfl)) (by omega) (zz_rf 6 (S0 1076 3)) rfl ?_
      refine zz_aload_n (x := 1076) rfl zd_3_4_390 ?_
      have g134 := zz_G.r G_S0 1076 9 (-2147483648) 2147483647 rfl rfl
      refine zz_geti (z := S0 1076 9) zd_3_4_391 zf_Compiler_85 zT_1076 rfl (zz_ltn hn rfl) (zz_rc fS122 rfl rfl (by omega) (zz_rc F_S rfl rfl (fun h => h) rfl)) ?_
      refine zz_aload_n (x := 1076) rfl zd_3_4_394 ?_
      have g135 := zz_G.r G_S0 1076 10 (-2147483648) 2147483647 rfl rfl
      refine zz_geti (z := S0 1076 10) zd_3_4_395 zf_Compiler_88 zT_1076 rfl (zz_ltn hn rfl) (zz_rc fS122 rfl rfl (by omega) (zz_rc F_S rfl rfl (fun h => h) rfl)) ?_
      refine zz_aload_n (x := 1076) rfl zd_3_4_398 ?_
      have g136 := zz_G.r G_S0 1076 7 (-2147483648) 2147483647 rfl rfl
      refine zz_geti (z := S0 1076 7) zd_3_4_399 zf_Compiler_76 zT_1076 rfl (zz_ltn hn rfl) (zz_rc fS122 rfl rfl (by omega) (zz_rc F_S rfl rfl (fun h => h) rfl)) ?_
      refine zz_callVI [zi (S0 1076 9), zi (S0 1076 10), zi (S0 1076 7)] zd_3_4_402 zk_Compiler_147 (zT_k6 (by omega)) (zN_k6 hn (by omega)) rfl rfl ⟨Nat.le_of_ble_eq_true rfl, Nat.le_of_ble_eq_true rfl⟩ ⟨rfl, rfl⟩ (Nat.zero_le _) (Nat.zero_le _) (zc_cellAt_4_15 (S0 1076 3) (S0 1076 9) (S0 1076 10) (S0 1076 7) S122 n hn G_S122 (by omega) (by omega) (by omega) (by omega)) (fun v138 S137 hP => ?_)
      obtain ⟨rfl, o139⟩ := hP
      refine zz_callSJ [zi 5, zi v138] zd_3_4_405 zk_Compiler_132 rfl rfl ⟨Nat.le_of_ble_eq_true rfl, Nat.le_of_ble_eq_true rfl⟩ ⟨rfl, rfl⟩ (Nat.zero_le _) (Nat.zero_le _) (zc_bits_12_4 5 v138 S122 n hn G_S122 (by omega) (by omega)) (fun v141 S140 hP => ?_)
      obtain ⟨rfl, o142⟩ := hP
      refine zz_lor zd_3_4_408 (fun v143 hv143 ev143 => ?_)
      refine zz_bipush (by decide) zd_3_4_409 ?_
      refine zz_aload_n (x := 1076) rfl zd_3_4_411 ?_
      refine zz_getr (kd := 4) (z := S0 1076 3) zd_3_4_412 zf_Compiler_51 zT_1076 rfl (zz_ltn hn rfl) (zz_rc fS122 rfl rfl (by omega) (zz_rc F_S rfl rfl (fun h => h) rfl)) (by omega) (zz_rf 6 (S0 1076 3)) rfl ?_
      have g144 := zz_G.r G_S0 (zz_rf 6 (S0 1076 3)) 12 (-2147483648) 2147483647 (zR_k6_12 (by omega)) (zB_k6 (by omega))
      refine zz_geti (z := S0 (zz_rf 6 (S0 1076 3)) 12) zd_3_4_415 zf_Compiler_79 (zT_k6 (by omega)) rfl (zN_k6 hn (by omega)) (zz_rc fS122 (zP_k6 (by omega) rfl) (zQ_k6 (by omega) rfl) (by omega) (zz_rc F_S (zP_k6 (by omega) rfl) (zQ_k6 (by omega) rfl) (fun h => h) rfl)) ?_
      refine zz_callSJ [zi 10, zi (S0 (zz_rf 6 (S0 1076 3)) 12)] zd_3_4_418 zk_Compiler_132 rfl rfl ⟨Nat.le_of_ble_eq_true rfl, Nat.le_of_ble_eq_true rfl⟩ ⟨rfl, rfl⟩ (Nat.zero_le _) (Nat.zero_le _) (zc_bits_12_4 10 (S0 (zz_rf 6 (S0 1076 3)) 12) S122 n hn G_S122 (by omega) (by omega)) (fun v146 S145 hP => ?_)
      obtain ⟨rfl, o147⟩ := hP
      refine zz_lor zd_3_4_421 (fun v148 hv148 ev148 => ?_)
      refine zz_iconst zd_3_4_422 ?_
      refine zz_callSJ [zi 1] zd_3_4_423 zk_Compiler_139 rfl rfl ⟨Nat.le_of_ble_eq_true rfl, Nat.le_of_ble_eq_true rfl⟩ ⟨rfl, rfl⟩ (Nat.zero_le _) (Nat.zero_le _) (zc_flag_12_5 1 S122 n hn G_S122 (by omega)) (fun v150 S149 hP => ?_)
      obtain ⟨rfl, o151⟩ := hP
      refine zz_lor zd_3_4_426 (fun v152 hv152 ev152 => ?_)
      refine zz_iconst zd_3_4_427 ?_
      refine zz_callSJ [zi 3] zd_3_4_428 zk_Compiler_139 rfl rfl ⟨Nat.le_of_ble_eq_true rfl, Nat.le_of_ble_eq_true rfl⟩ ⟨rfl, rfl⟩ (Nat.zero_le _) (Nat.zero_le _) (zc_flag_12_5 3 S122 n hn G_S122 (by omega)) (fun v154 S153 hP => ?_)
      obtain ⟨rfl, o155⟩ := hP
      refine zz_lor zd_3_4_431 (fun v156 hv156 ev156 => ?_)
      have g157 := zz_G.r G_S122 1076 1 0 1000000 rfl rfl
      refine zz_callVV [zl v156] zd_3_4_432 zk_Compiler_143 zT_1076 (zz_ltn hn rfl) rfl rfl ⟨Nat.le_of_ble_eq_true rfl, Nat.le_of_ble_eq_true rfl⟩ ⟨rfl, rfl⟩ (Nat.zero_le _) (Nat.zero_le _) (zc_emit_3_15 v156 S122 n hn G_S122 (by omega) (by omega)) (fun S158 hP => ?_)
      obtain ⟨G_S158, fS158, o160⟩ := hP
      have g161 := zz_G.r G_S122 1076 0 0 1 rfl rfl
      have F_S158 := zz_fr.trans F_S122 fS158 rfl (fun a i h => Or.inr (Or.inl (h ▸ zM_k4 (z := (S122 1076 0)) (by omega) rfl)))
      have b162 := zz_rf4 (z := (S122 1076 0)) (by omega)
      refine zz_aload_n (x := 1076) rfl zd_3_4_435 ?_
      refine zz_dup rfl zd_3_4_436 ?_
      refine zz_geti (z := S 1076 6) zd_3_4_437 zf_Compiler_70 zT_1076 rfl (zz_ltn hn rfl) (zz_rc fS158 rfl rfl (by omega) (zz_rc fS122 rfl rfl (by omega) rfl)) ?_
      refine zz_iconst zd_3_4_440 ?_
      refine zz_iadd zd_3_4_441 ?_
      refine zz_nrm (fun v163 hv163 ev163 => ?_)
      refine zz_puti zd_3_4_442 zf_Compiler_70 zT_1076 rfl (zz_ltn hn rfl) (fun S164 qS164 => ?_)
      have G_S164 := zz_G.put G_S158 qS164 (-2147483648) 2147483647 rfl (by omega)
      have F_S164 := zz_fr.puts F_S158 qS164 rfl
      have g165 := zz_G.r G_S158 1076 1 0 1000000 rfl rfl
      have e166 : S164 1076 1 = S158 1076 1 := (zz_ro qS164 (fun h => absurd h.2 (by decide)) rfl)
      exact zz_vret zd_3_4_445 rfl (Nat.zero_le _) (Nat.zero_le _) ⟨_, rfl, G_S164, F_S164, by omega⟩
  · refine zz_aload_n (x := 1076) rfl zd_3_4_103 ?_
    refine zz_iconst zd_3_4_104 ?_
    refine zz_puti zd_3_4_105 zf_Compiler_109 zT_1076 rfl (zz_ltn hn rfl) (fun S167 qS167 => ?_)
    have G_S167 := zz_G.put G_S qS167 (-2147483648) 2147483647 rfl (by omega)
    have F_S167 := zz_fr.puts F_S qS167 rfl
    have e168 : S167 1076 13 = S 1076 13 := (zz_ro qS167 (fun h => absurd h.2 (by decide)) rfl)
    have e169 : S167 1076 14 = 0 := (zz_rs qS167)
    have g170 := zz_G.r G_S 1076 1 0 1000000 rfl rfl
    have e171 : S167 1076 1 = S 1076 1 := (zz_ro qS167 (fun h => absurd h.2 (by decide)) rfl)
    exact k108 x1 x3 x4 x5 S167 G_S167 F_S167 (by omega) (by omega) (by omega) (by omega) (by omega) (by omega) (by omega) (by omega) (by omega) (by omega) (by omega)
theorem zb_makeTile_3_4_108 {g : mm_G} {l : Launch}  (S0 : zz_S) (n : Nat) (hn : zz_end ≤ n) (G_S0 : zz_G S0) (hq : S0 1076 1 ≤ 600) (hl : 0 ≤ S0 1076 3 ∧ 0 ≤ S0 1076 4 ∧ 0 ≤ S0 1076 5) (hk : zz_ly S0 (S0 1076 3) ∧ S0 (zz_rf 6 (S0 1076 4)) 12 ≤ 63) (x1 : Int) (x3 : Int) (x4 : Int) (x5 : Int) (S : zz_S) (G_S : zz_G S) (F_S : zz_fr [(1076, 1), (1076, 6), (1076, 12), (1076, 13), (1076, 14), (1076, 15), (1076, 16)] [1029, 1030] (fun _ _ => False) S0 S) (i108_0 : 0 ≤ x1 ∧ x1 ≤ 0) (i108_1 : (-2147483648) ≤ x3 ∧ x3 ≤ 3) (i108_2 : (-2147483648) ≤ x4 ∧ x4 ≤ 3) (i108_3 : (-2147483648) ≤ x5 ∧ x5 ≤ 63) (i108_4 : S0 (zz_rf 6 (S0 1076 3)) 0 ≠ 1) (i108_5 : S0 (zz_rf 6 (S0 1076 3)) 0 ≠ 3) (i108_6 : 0 ≤ S 1076 13 ∧ S 1076 13 ≤ 2) (i108_7 : 0 ≤ S 1076 14 ∧ S 1076 14 ≤ 3) (i108_8 : S 1076 13 < x3) (i108_9 : S0 1076 1 ≤ S 1076 1 ∧ S 1076 1 ≤ S0 1076 1 + 840 * S 1076 13 + 280 * S 1076 14) (R : Nat) (hR : (51539607552 + (3 - S 1076 13).toNat) * 1208925819614629174706176 + (34359738368 + (3 - S 1076 14).toNat) * 1099511627776 + 1099511627775 = R) (k95 : ∀ (x1 : Int) (x3 : Int) (x4 : Int) (x5 : Int) (S : zz_S), zz_G S → zz_fr [(1076, 1), (1076, 6), (1076, 12), (1076, 13), (1076, 14), (1076, 15), (1076, 16)] [1029, 1030] (fun _ _ => False) S0 S → (0 ≤ x1 ∧ x1 ≤ 0) → ((-2147483648) ≤ x3 ∧ x3 ≤ 3) → ((-2147483648) ≤ x4 ∧ x4 ≤ 3) → ((-2147483648) ≤ x5 ∧ x5 ≤ 63) → (0 ≤ S 1076 13 ∧ S 1076 13 ≤ 3) → (S0 1076 1 ≤ S 1076 1 ∧ S 1076 1 ≤ S0 1076 1 + 840 * S 1076 13) → (51539607552 + (3 - S 1076 13).toNat) * 1208925819614629174706176 + 1208925819614629174706175 < R → zz_E g l zy_makeTile_3_4 zr_makeTile_3_4 (zz_QV n (zp_makeTile_3_4  S0)) S n 95 [some (.ref 1076), some (zi x1), none, some (zi x3), some (zi x4), some (zi x5), some (zi (S0 1076 12))] [] 0 0) (k122 : ∀ (x1 : Int) (x3 : Int) (x4 : Int) (x5 : Int) (S : zz_S), zz_G S → zz_fr [(1076, 1), (1076, 6), (1076, 12), (1076, 13), (1076, 14), (1076, 15), (1076, 16)] [1029, 1030] (fun _ _ => False) S0 S → (0 ≤ x1 ∧ x1 ≤ 0) → ((-2147483648) ≤ x3 ∧ x3 ≤ 3) → ((-2147483648) ≤ x4 ∧ x4 ≤ 3) → ((-2147483648) ≤ x5 ∧ x5 ≤ 63) → (S0 (zz_rf 6 (S0 1076 3)) 0 ≠ 1) → (S0 (zz_rf 6 (S0 1076 3)) 0 ≠ 3) → (0 ≤ S 1076 13 ∧ S 1076 13 ≤ 2) → (0 ≤ S 1076 14 ∧ S 1076 14 ≤ 2) → (S 1076 13 < x3) → (S 1076 14 < x4) → (0 ≤ S 1076 15 ∧ S 1076 15 ≤ 70) → (S0 1076 1 ≤ S 1076 1 ∧ S 1076 1 ≤ S0 1076 1 + 840 * S 1076 13 + 280 * S 1076 14 + 4 * S 1076 15) → (51539607552 + (3 - S 1076 13).toNat) * 1208925819614629174706176 + (34359738368 + (3 - S 1076 14).toNat) * 1099511627776 + (17179869184 + (80 - S 1076 15).toNat) < R → zz_E g l zy_makeTile_3_4 zr_makeTile_3_4 (zz_QV n (zp_makeTile_3_4  S0)) S n 122 [some (.ref 1076), some (zi x1), none, some (zi x3), some (zi x4), some (zi x5), some (zi (S0 1076 12))] [] 0 0) : zz_E g l zy_makeTile_3_4 zr_makeTile_3_4 (zz_QV n (zp_makeTile_3_4  S0)) S n 108 [some (.ref 1076), some (zi x1), none, some (zi x3), some (zi x4), some (zi x5), some (zi (S0 1076 12))] [] 0 0 := by
  refine zz_aload_n (x := 1076) rfl zd_3_4_108 ?_
  have g172 := zz_G.r G_S 1076 14 (-2147483648) 2147483647 rfl rfl
  refine zz_geti (z := S 1076 14) zd_3_4_109 zf_Compiler_109 zT_1076 rfl (zz_ltn hn rfl) rfl ?_
  refine zz_iload (x := x4) rfl zd_3_4_112 ?_
  refine zz_icmp_ge (by omega) (by omega) zd_3_4_114 (fun c173 => ?_) (fun c173 => ?_)
  · refine zz_aload_n (x := 1076) rfl zd_3_4_266 ?_
    refine zz_dup rfl zd_3_4_267 ?_
    have g174 := zz_G.r G_S 1076 13 (-2147483648) 2147483647 rfl rfl
    refine zz_geti (z := S 1076 13) zd_3_4_268 zf_Compiler_106 zT_1076 rfl (zz_ltn hn rfl) rfl ?_
    refine zz_iconst zd_3_4_271 ?_
    refine zz_iadd zd_3_4_272 ?_
    refine zz_nrm (fun v175 hv175 ev175 => ?_)
    refine zz_puti zd_3_4_273 zf_Compiler_106 zT_1076 rfl (zz_ltn hn rfl) (fun S176 qS176 => ?_)
    have G_S176 := zz_G.put G_S qS176 (-2147483648) 2147483647 rfl (by omega)
    have F_S176 := zz_fr.puts F_S qS176 rfl
    refine zz_goto zd_3_4_276 ?_
    have e177 : S176 1076 13 = v175 := (zz_rs qS176)
    have g178 := zz_G.r G_S 1076 1 0 1000000 rfl rfl
    have e179 : S176 1076 1 = S 1076 1 := (zz_ro qS176 (fun h => absurd h.2 (by decide)) rfl)
    exact k95 x1 x3 x4 x5 S176 G_S176 F_S176 (by omega) (by omega) (by omega) (by omega) (by omega) (by omega) (by omega)
  · refine zz_aload_n (x := 1076) rfl zd_3_4_117 ?_
    refine zz_iconst zd_3_4_118 ?_
    refine zz_puti zd_3_4_119 zf_Compiler_112 zT_1076 rfl (zz_ltn hn rfl) (fun S180 qS180 => ?_)
    have G_S180 := zz_G.put G_S qS180 (-2147483648) 2147483647 rfl (by omega)
    have F_S180 := zz_fr.puts F_S qS180 rfl
    have g181 := zz_G.r G_S 1076 13 (-2147483648) 2147483647 rfl rfl
    have e182 : S180 1076 13 = S 1076 13 := (zz_ro qS180 (fun h => absurd h.2 (by decide)) rfl)
    have e183 : S180 1076 14 = S 1076 14 := (zz_ro qS180 (fun h => absurd h.2 (by decide)) rfl)
    have e184 : S180 1076 15 = 0 := (zz_rs qS180)
    have g185 := zz_G.r G_S 1076 1 0 1000000 rfl rfl
    have e186 : S180 1076 1 = S 1076 1 := (zz_ro qS180 (fun h => absurd h.2 (by decide)) rfl)
    exact k122 x1 x3 x4 x5 S180 G_S180 F_S180 (by omega) (by omega) (by omega) (by omega) (by omega) (by omega) (by omega) (by omega) (by omega) (by omega) (by omega) (by omega) (by omega)
theorem zb_makeTile_3_4_122 {g : mm_G} {l : Launch}  (S0 : zz_S) (n : Nat) (hn : zz_end ≤ n) (G_S0 : zz_G S0) (hq : S0 1076 1 ≤ 600) (hl : 0 ≤ S0 1076 3 ∧ 0 ≤ S0 1076 4 ∧ 0 ≤ S0 1076 5) (hk : zz_ly S0 (S0 1076 3) ∧ S0 (zz_rf 6 (S0 1076 4)) 12 ≤ 63) (x1 : Int) (x3 : Int) (x4 : Int) (x5 : Int) (S : zz_S) (G_S : zz_G S) (F_S : zz_fr [(1076, 1), (1076, 6), (1076, 12), (1076, 13), (1076, 14), (1076, 15), (1076, 16)] [1029, 1030] (fun _ _ => False) S0 S) (i122_0 : 0 ≤ x1 ∧ x1 ≤ 0) (i122_1 : (-2147483648) ≤ x3 ∧ x3 ≤ 3) (i122_2 : (-2147483648) ≤ x4 ∧ x4 ≤ 3) (i122_3 : (-2147483648) ≤ x5 ∧ x5 ≤ 63) (i122_4 : S0 (zz_rf 6 (S0 1076 3)) 0 ≠ 1) (i122_5 : S0 (zz_rf 6 (S0 1076 3)) 0 ≠ 3) (i122_6 : 0 ≤ S 1076 13 ∧ S 1076 13 ≤ 2) (i122_7 : 0 ≤ S 1076 14 ∧ S 1076 14 ≤ 2) (i122_8 : S 1076 13 < x3) (i122_9 : S 1076 14 < x4) (i122_10 : 0 ≤ S 1076 15 ∧ S 1076 15 ≤ 70) (i122_11 : S0 1076 1 ≤ S 1076 1 ∧ S 1076 1 ≤ S0 1076 1 + 840 * S 1076 13 + 280 * S 1076 14 + 4 * S 1076 15) (R : Nat) (hR : (51539607552 + (3 - S 1076 13).toNat) * 1208925819614629174706176 + (34359738368 + (3 - S 1076 14).toNat) * 1099511627776 + (17179869184 + (80 - S 1076 15).toNat) = R) (k108 : ∀ (x1 : Int) (x3 : Int) (x4 : Int) (x5 : Int) (S : zz_S), zz_G S → zz_fr [(1076, 1), (1076, 6), (1076, 12), (1076, 13), (1076, 14), (1076, 15), (1076, 16)] [1029, 1030] (fun _ _ => False) S0 S → (0 ≤ x1 ∧ x1 ≤ 0) → ((-2147483648) ≤ x3 ∧ x3 ≤ 3) → ((-2147483648) ≤ x4 ∧ x4 ≤ 3) → ((-2147483648) ≤ x5 ∧ x5 ≤ 63) → (S0 (zz_rf 6 (S0 1076 3)) 0 ≠ 1) → (S0 (zz_rf 6 (S0 1076 3)) 0 ≠ 3) → (0 ≤ S 1076 13 ∧ S 1076 13 ≤ 2) → (0 ≤ S 1076 14 ∧ S 1076 14 ≤ 3) → (S 1076 13 < x3) → (S0 1076 1 ≤ S 1076 1 ∧ S 1076 1 ≤ S0 1076 1 + 840 * S 1076 13 + 280 * S 1076 14) → (51539607552 + (3 - S 1076 13).toNat) * 1208925819614629174706176 + (34359738368 + (3 - S 1076 14).toNat) * 1099511627776 + 1099511627775 < R → zz_E g l zy_makeTile_3_4 zr_makeTile_3_4 (zz_QV n (zp_makeTile_3_4  S0)) S n 108 [some (.ref 1076), some (zi x1), none, some (zi x3), some (zi x4), some (zi x5), some (zi (S0 1076 12))] [] 0 0) (k122 : ∀ (x1 : Int) (x3 : Int) (x4 : Int) (x5 : Int) (S : zz_S), zz_G S → zz_fr [(1076, 1), (1076, 6), (1076, 12), (1076, 13), (1076, 14), (1076, 15), (1076, 16)] [1029, 1030] (fun _ _ => False) S0 S → (0 ≤ x1 ∧ x1 ≤ 0) → ((-2147483648) ≤ x3 ∧ x3 ≤ 3) → ((-2147483648) ≤ x4 ∧ x4 ≤ 3) → ((-2147483648) ≤ x5 ∧ x5 ≤ 63) → (S0 (zz_rf 6 (S0 1076 3)) 0 ≠ 1) → (S0 (zz_rf 6 (S0 1076 3)) 0 ≠ 3) → (0 ≤ S 1076 13 ∧ S 1076 13 ≤ 2) → (0 ≤ S 1076 14 ∧ S 1076 14 ≤ 2) → (S 1076 13 < x3) → (S 1076 14 < x4) → (0 ≤ S 1076 15 ∧ S 1076 15 ≤ 70) → (S0 1076 1 ≤ S 1076 1 ∧ S 1076 1 ≤ S0 1076 1 + 840 * S 1076 13 + 280 * S 1076 14 + 4 * S 1076 15) → (51539607552 + (3 - S 1076 13).toNat) * 1208925819614629174706176 + (34359738368 + (3 - S 1076 14).toNat) * 1099511627776 + (17179869184 + (80 - S 1076 15).toNat) < R → zz_E g l zy_makeTile_3_4 zr_makeTile_3_4 (zz_QV n (zp_makeTile_3_4  S0)) S n 122 [some (.ref 1076), some (zi x1), none, some (zi x3), some (zi x4), some (zi x5), some (zi (S0 1076 12))] [] 0 0) : zz_E g l zy_makeTile_3_4 zr_makeTile_3_4 (zz_QV n (zp_makeTile_3_4  S0)) S n 122 [some (.ref 1076), some (zi x1), none, some (zi x3), some (zi x4), some (zi x5), some (zi (S0 1076 12))] [] 0 0 := by
  refine zz_aload_n (x := 1076) rfl zd_3_4_122 ?_
  have g187 := zz_G.r G_S 1076 15 (-2147483648) 2147483647 rfl rfl
  refine zz_geti (z := S 1076 15) zd_3_4_123 zf_Compiler_112 zT_1076 rfl (zz_ltn hn rfl) rfl ?_
  refine zz_iload (x := x5) rfl zd_3_4_126 ?_
  refine zz_icmp_ge (by omega) (by omega) zd_3_4_128 (fun c188 => ?_) (fun c188 => ?_)
  · refine zz_aload_n (x := 1076) rfl zd_3_4_253 ?_
    refine zz_dup rfl zd_3_4_254 ?_
    have g189 := zz_G.r G_S 1076 14 (-2147483648) 2147483647 rfl rfl
    refine zz_geti (z := S 1076 14) zd_3_4_255 zf_Compiler_109 zT_1076 rfl (zz_ltn hn rfl) rfl ?_
    refine zz_iconst zd_3_4_258 ?_
    refine zz_iadd zd_3_4_259 ?_
    refine zz_nrm (fun v190 hv190 ev190 => ?_)
    refine zz_puti zd_3_4_260 zf_Compiler_109 zT_1076 rfl (zz_ltn hn rfl) (fun S191 qS191 => ?_)
    have G_S191 := zz_G.put G_S qS191 (-2147483648) 2147483647 rfl (by omega)
    have F_S191 := zz_fr.puts F_S qS191 rfl
    refine zz_goto zd_3_4_263 ?_
    have g192 := zz_G.r G_S 1076 13 (-2147483648) 2147483647 rfl rfl
    have e193 : S191 1076 13 = S 1076 13 := (zz_ro qS191 (fun h => absurd h.2 (by decide)) rfl)
    have e194 : S191 1076 14 = v190 := (zz_rs qS191)
    have g195 := zz_G.r G_S 1076 1 0 1000000 rfl rfl
    have e196 : S191 1076 1 = S 1076 1 := (zz_ro qS191 (fun h => absurd h.2 (by decide)) rfl)
    exact k108 x1 x3 x4 x5 S191 G_S191 F_S191 (by omega) (by omega) (by omega) (by omega) (by omega) (by omega) (by omega) (by omega) (by omega) (by omega) (by omega)
  · refine zz_aload_n (x := 1076) rfl zd_3_4_131 ?_
    refine zz_iload_n (x := x1) rfl zd_3_4_132 ?_
    refine zz_if_eq (by omega) zd_3_4_133 (fun c197 => ?_) (fun c197 => ?_)
    · refine zz_aload_n (x := 1076) rfl zd_3_4_158 ?_
      have g198 := zz_G.r G_S0 1076 8 (-2147483648) 2147483647 rfl rfl
      refine zz_geti (z := S0 1076 8) zd_3_4_159 zf_Compiler_82 zT_1076 rfl (zz_ltn hn rfl) (zz_rc F_S rfl rfl (fun h => h) rfl) ?_
      refine zz_puti zd_3_4_162 zf_Compiler_115 zT_1076 rfl (zz_ltn hn rfl) (fun S199 qS199 => ?_)
      have G_S199 := zz_G.put G_S qS199 (-2147483648) 2147483647 rfl (by omega)
      have F_S199 := zz_fr.puts F_S qS199 rfl
      refine zz_aload_n (x := 1076) rfl zd_3_4_165 ?_
      have g200 := zz_G.r G_S 1076 13 (-2147483648) 2147483647 rfl rfl
      refine zz_geti (z := S 1076 13) zd_3_4_166 zf_Compiler_106 zT_1076 rfl (zz_ltn hn rfl) (zz_ro qS199 (fun h => absurd h.2 (by decide)) rfl) ?_
      refine zz_iload_n (x := x3) rfl zd_3_4_169 ?_
      refine zz_iconst zd_3_4_170 ?_
      refine zz_isub zd_3_4_171 ?_
      refine zz_nrm (fun v201 hv201 ev201 => ?_)
      refine zz_icmp_ne (by omega) (by omega) zd_3_4_172 (fun c202 => ?_) (fun c202 => ?_)
      · refine zz_iconst zd_3_4_204 ?_
        refine zz_istore [some (.ref 1076), some (zi x1), none, some (zi x3), some (zi x4), some (zi x5), some (zi (S0 1076 12)), some (zi 0)] zd_3_4_205 (by decide) rfl ?_
        refine zz_aload_n (x := 1076) rfl zd_3_4_207 ?_
        refine zz_aload_n (x := 1076) rfl zd_3_4_208 ?_
        have g203 := zz_G.r G_S 1076 12 (-2147483648) 2147483647 rfl rfl
        refine zz_geti (z := S 1076 12) zd_3_4_209 zf_Compiler_73 zT_1076 rfl (zz_ltn hn rfl) (zz_ro qS199 (fun h => absurd h.2 (by decide)) rfl) ?_
        refine zz_iload (x := S0 1076 12) rfl zd_3_4_212 ?_
        refine zz_icmp_ne (by omega) (by omega) zd_3_4_214 (fun c204 => ?_) (fun c204 => ?_)
        · refine zz_iconst zd_3_4_221 ?_
          refine zz_iload (x := 0) rfl zd_3_4_222 ?_
          have g205 := zz_G.r G_S 1076 1 0 1000000 rfl rfl
          have e206 : S199 1076 1 = S 1076 1 := (zz_ro qS199 (fun h => absurd h.2 (by decide)) rfl)
          have g207 := zz_G.r G_S0 1076 3 (-1) 23 rfl rfl
          have e208 : S199 1076 3 = S0 1076 3 := (zz_ro qS199 (fun h => absurd h.2 (by decide)) (zz_rc F_S rfl rfl (fun h => h) rfl))
          have g209 := zz_G.r G_S0 1076 4 (-1) 23 rfl rfl
          have e210 : S199 1076 4 = S0 1076 4 := (zz_ro qS199 (fun h => absurd h.2 (by decide)) (zz_rc F_S rfl rfl (fun h => h) rfl))
          have g211 := zz_G.r G_S0 1076 5 (-1) 23 rfl rfl
          have e212 : S199 1076 5 = S0 1076 5 := (zz_ro qS199 (fun h => absurd h.2 (by decide)) (zz_rc F_S rfl rfl (fun h => h) rfl))
          refine zz_callVV [zi 0, zi 0] zd_3_4_224 zk_Compiler_118 zT_1076 (zz_ltn hn rfl) rfl rfl ⟨Nat.le_of_ble_eq_true rfl, Nat.le_of_ble_eq_true rfl⟩ ⟨rfl, rfl⟩ (Nat.zero_le _) (Nat.zero_le _) (zc_makeGroup_3_5 0 0 S199 n hn G_S199 (by omega) (by omega) (by omega) (by omega)) (fun S213 hP => ?_)
          obtain ⟨G_S213, fS213, o215⟩ := hP
          have g216 := zz_G.r G_S199 1076 0 0 1 rfl rfl
          have F_S213 := zz_fr.trans F_S199 fS213 rfl (fun a i h => Or.inr (Or.inl (h ▸ zM_k4 (z := (S199 1076 0)) (by omega) rfl)))
          have b217 := zz_rf4 (z := (S199 1076 0)) (by omega)
          refine zz_aload_n (x := 1076) rfl zd_3_4_227 ?_
          refine zz_dup rfl zd_3_4_228 ?_
          refine zz_geti (z := S 1076 12) zd_3_4_229 zf_Compiler_73 zT_1076 rfl (zz_ltn hn rfl) (zz_rc fS213 rfl rfl (by omega) (zz_ro qS199 (fun h => absurd h.2 (by decide)) rfl)) ?_
          refine zz_iconst zd_3_4_232 ?_
          refine zz_iadd zd_3_4_233 ?_
          refine zz_nrm (fun v218 hv218 ev218 => ?_)
          refine zz_puti zd_3_4_234 zf_Compiler_73 zT_1076 rfl (zz_ltn hn rfl) (fun S219 qS219 => ?_)
          have G_S219 := zz_G.put G_S213 qS219 (-2147483648) 2147483647 rfl (by omega)
          have F_S219 := zz_fr.puts F_S213 qS219 rfl
          refine zz_aload_n (x := 1076) rfl zd_3_4_237 ?_
          refine zz_dup rfl zd_3_4_238 ?_
          refine zz_geti (z := S 1076 15) zd_3_4_239 zf_Compiler_112 zT_1076 rfl (zz_ltn hn rfl) (zz_ro qS219 (fun h => absurd h.2 (by decide)) (zz_rc fS213 rfl rfl (by omega) (zz_ro qS199 (fun h => absurd h.2 (by decide)) rfl))) ?_
          refine zz_aload_n (x := 1076) rfl zd_3_4_242 ?_
          have g220 := zz_G.r G_S0 1076 2 2 8 rfl rfl
          refine zz_geti (z := S0 1076 2) zd_3_4_243 zf_Compiler_21 zT_1076 rfl (zz_ltn hn rfl) (zz_ro qS219 (fun h => absurd h.2 (by decide)) (zz_rc fS213 rfl rfl (by omega) (zz_ro qS199 (fun h => absurd h.2 (by decide)) (zz_rc F_S rfl rfl (fun h => h) rfl)))) ?_
          refine zz_iadd zd_3_4_246 ?_
          refine zz_puti zd_3_4_247 zf_Compiler_112 zT_1076 rfl (zz_ltn hn rfl) (fun S221 qS221 => ?_)
          have G_S221 := zz_G.put G_S219 qS221 (-2147483648) 2147483647 rfl (by omega)
          have F_S221 := zz_fr.puts F_S219 qS221 rfl
          refine zz_goto zd_3_4_250 ?_
          have e222 : S221 1076 13 = S 1076 13 := (zz_ro qS221 (fun h => absurd h.2 (by decide)) (zz_ro qS219 (fun h => absurd h.2 (by decide)) (zz_rc fS213 rfl rfl (by omega) (zz_ro qS199 (fun h => absurd h.2 (by decide)) rfl))))
          have g223 := zz_G.r G_S 1076 14 (-2147483648) 2147483647 rfl rfl
          have e224 : S221 1076 14 = S 1076 14 := (zz_ro qS221 (fun h => absurd h.2 (by decide)) (zz_ro qS219 (fun h => absurd h.2 (by decide)) (zz_rc fS213 rfl rfl (by omega) (zz_ro qS199 (fun h => absurd h.2 (by decide)) rfl))))
          have e225 : S221 1076 15 = (S 1076 15) + (S0 1076 2) := (zz_rs qS221)
          have g226 := zz_G.r G_S213 1076 1 0 1000000 rfl rfl
          have e227 : S221 1076 1 = S213 1076 1 := (zz_ro qS221 (fun h => absurd h.2 (by decide)) (zz_ro qS219 (fun h => absurd h.2 (by decide)) rfl))
          refine zz_less (ls1 := [some (.ref 1076), some (zi x1), none, some (zi x3), some (zi x4), some (zi x5), some (zi (S0 1076 12))]) ⟨rfl, ⟨rfl, ⟨rfl, ⟨rfl, ⟨rfl, ⟨rfl, trivial⟩⟩⟩⟩⟩⟩ ?_
          exact k122 x1 x3 x4 x5 S221 G_S221 F_S221 (by omega) (by omega) (by omega) (by omega) (by omega) (by omega) (by omega) (by omega) (by omega) (by omega) (by omega) (by omega) (by omega)
        · refine zz_iconst zd_3_4_217 ?_
          refine zz_goto zd_3_4_218 ?_
          refine zz_iload (x := 0) rfl zd_3_4_222 ?_
          have g228 := zz_G.r G_S 1076 1 0 1000000 rfl rfl
          have e229 : S199 1076 1 = S 1076 1 := (zz_ro qS199 (fun h => absurd h.2 (by decide)) rfl)
          have g230 := zz_G.r G_S0 1076 3 (-1) 23 rfl rfl
          have e231 : S199 1076 3 = S0 1076 3 := (zz_ro qS199 (fun h => absurd h.2 (by decide)) (zz_rc F_S rfl rfl (fun h => h) rfl))
          have g232 := zz_G.r G_S0 1076 4 (-1) 23 rfl rfl
          have e233 : S199 1076 4 = S0 1076 4 := (zz_ro qS199 (fun h => absurd h.2 (by decide)) (zz_rc F_S rfl rfl (fun h => h) rfl))
          have g234 := zz_G.r G_S0 1076 5 (-1) 23 rfl rfl
          have e235 : S199 1076 5 = S0 1076 5 := (zz_ro qS199 (fun h => absurd h.2 (by decide)) (zz_rc F_S rfl rfl (fun h => h) rfl))
          refine zz_callVV [zi 1, zi 0] zd_3_4_224 zk_Compiler_118 zT_1076 (zz_ltn hn rfl) rfl rfl ⟨Nat.le_of_ble_eq_true rfl, Nat.le_of_ble_eq_true rfl⟩ ⟨rfl, rfl⟩ (Nat.zero_le _) (Nat.zero_le _) (zc_makeGroup_3_5 1 0 S199 n hn G_S199 (by omega) (by omega) (by omega) (by omega)) (fun S236 hP => ?_)
          obtain ⟨G_S236, fS236, o238⟩ := hP
          have g239 := zz_G.r G_S199 1076 0 0 1 rfl rfl
          have F_S236 := zz_fr.trans F_S199 fS236 rfl (fun a i h => Or.inr (Or.inl (h ▸ zM_k4 (z := (S199 1076 0)) (by omega) rfl)))
          have b240 := zz_rf4 (z := (S199 1076 0)) (by omega)
          refine zz_aload_n (x := 1076) rfl zd_3_4_227 ?_
          refine zz_dup rfl zd_3_4_228 ?_
          refine zz_geti (z := S 1076 12) zd_3_4_229 zf_Compiler_73 zT_1076 rfl (zz_ltn hn rfl) (zz_rc fS236 rfl rfl (by omega) (zz_ro qS199 (fun h => absurd h.2 (by decide)) rfl)) ?_
          refine zz_iconst zd_3_4_232 ?_
          refine zz_iadd zd_3_4_233 ?_
          refine zz_nrm (fun v241 hv241 ev241 => ?_)
          refine zz_puti zd_3_4_234 zf_Compiler_73 zT_1076 rfl (zz_ltn hn rfl) (fun S242 qS242 => ?_)
          have G_S242 := zz_G.put G_S236 qS242 (-2147483648) 2147483647 rfl (by omega)
          have F_S242 := zz_fr.puts F_S236 qS242 rfl
          refine zz_aload_n (x := 1076) rfl zd_3_4_237 ?_
          refine zz_dup rfl zd_3_4_238 ?_
          refine zz_geti (z := S 1076 15) zd_3_4_239 zf_Compiler_112 zT_1076 rfl (zz_ltn hn rfl) (zz_ro qS242 (fun h => absurd h.2 (by decide)) (zz_rc fS236 rfl rfl (by omega) (zz_ro qS199 (fun h => absurd h.2 (by decide)) rfl))) ?_
          refine zz_aload_n (x := 1076) rfl zd_3_4_242 ?_
          have g243 := zz_G.r G_S0 1076 2 2 8 rfl rfl
          refine zz_geti (z := S0 1076 2) zd_3_4_243 zf_Compiler_21 zT_1076 rfl (zz_ltn hn rfl) (zz_ro qS242 (fun h => absurd h.2 (by decide)) (zz_rc fS236 rfl rfl (by omega) (zz_ro qS199 (fun h => absurd h.2 (by decide)) (zz_rc F_S rfl rfl (fun h => h) rfl)))) ?_
          refine zz_iadd zd_3_4_246 ?_
          refine zz_puti zd_3_4_247 zf_Compiler_112 zT_1076 rfl (zz_ltn hn rfl) (fun S244 qS244 => ?_)
          have G_S244 := zz_G.put G_S242 qS244 (-2147483648) 2147483647 rfl (by omega)
          have F_S244 := zz_fr.puts F_S242 qS244 rfl
          refine zz_goto zd_3_4_250 ?_
          have e245 : S244 1076 13 = S 1076 13 := (zz_ro qS244 (fun h => absurd h.2 (by decide)) (zz_ro qS242 (fun h => absurd h.2 (by decide)) (zz_rc fS236 rfl rfl (by omega) (zz_ro qS199 (fun h => absurd h.2 (by decide)) rfl))))
          have g246 := zz_G.r G_S 1076 14 (-2147483648) 2147483647 rfl rfl
          have e247 : S244 1076 14 = S 1076 14 := (zz_ro qS244 (fun h => absurd h.2 (by decide)) (zz_ro qS242 (fun h => absurd h.2 (by decide)) (zz_rc fS236 rfl rfl (by omega) (zz_ro qS199 (fun h => absurd h.2 (by decide)) rfl))))
          have e248 : S244 1076 15 = (S 1076 15) + (S0 1076 2) := (zz_rs qS244)
          have g249 := zz_G.r G_S236 1076 1 0 1000000 rfl rfl
          have e250 : S244 1076 1 = S236 1076 1 := (zz_ro qS244 (fun h => absurd h.2 (by decide)) (zz_ro qS242 (fun h => absurd h.2 (by decide)) rfl))
          refine zz_less (ls1 := [some (.ref 1076), some (zi x1), none, some (zi x3), some (zi x4), some (zi x5), some (zi (S0 1076 12))]) ⟨rfl, ⟨rfl, ⟨rfl, ⟨rfl, ⟨rfl, ⟨rfl, trivial⟩⟩⟩⟩⟩⟩ ?_
          exact k122 x1 x3 x4 x5 S244 G_S244 F_S244 (by omega) (by omega) (by omega) (by omega) (by omega) (by omega) (by omega) (by omega) (by omega) (by omega) (by omega) (by omega) (by omega)
      · refine zz_aload_n (x := 1076) rfl zd_3_4_175 ?_
        have g251 := zz_G.r G_S 1076 14 (-2147483648) 2147483647 rfl rfl
        refine zz_geti (z := S 1076 14) zd_3_4_176 zf_Compiler_109 zT_1076 rfl (zz_ltn hn rfl) (zz_ro qS199 (fun h => absurd h.2 (by decide)) rfl) ?_
        refine zz_iload (x := x4) rfl zd_3_4_179 ?_
        refine zz_iconst zd_3_4_181 ?_
        refine zz_isub zd_3_4_182 ?_
        refine zz_nrm (fun v252 hv252 ev252 => ?_)
        refine zz_icmp_ne (by omega) (by omega) zd_3_4_183 (fun c253 => ?_) (fun c253 => ?_)
        · refine zz_iconst zd_3_4_204 ?_
          refine zz_istore [some (.ref 1076), some (zi x1), none, some (zi x3), some (zi x4), some (zi x5), some (zi (S0 1076 12)), some (zi 0)] zd_3_4_205 (by decide) rfl ?_
          refine zz_aload_n (x := 1076) rfl zd_3_4_207 ?_
          refine zz_aload_n (x := 1076) rfl zd_3_4_208 ?_
          have g254 := zz_G.r G_S 1076 12 (-2147483648) 2147483647 rfl rfl
          refine zz_geti (z := S 1076 12) zd_3_4_209 zf_Compiler_73 zT_1076 rfl (zz_ltn hn rfl) (zz_ro qS199 (fun h => absurd h.2 (by decide)) rfl) ?_
          refine zz_iload (x := S0 1076 12) rfl zd_3_4_212 ?_
          refine zz_icmp_ne (by omega) (by omega) zd_3_4_214 (fun c255 => ?_) (fun c255 => ?_)
          · refine zz_iconst zd_3_4_221 ?_
            refine zz_iload (x := 0) rfl zd_3_4_222 ?_
            have g256 := zz_G.r G_S 1076 1 0 1000000 rfl rfl
            have e257 : S199 1076 1 = S 1076 1 := (zz_ro qS199 (fun h => absurd h.2 (by decide)) rfl)
            have g258 := zz_G.r G_S0 1076 3 (-1) 23 rfl rfl
            have e259 : S199 1076 3 = S0 1076 3 := (zz_ro qS199 (fun h => absurd h.2 (by decide)) (zz_rc F_S rfl rfl (fun h => h) rfl))
            have g260 := zz_G.r G_S0 1076 4 (-1) 23 rfl rfl
            have e261 : S199 1076 4 = S0 1076 4 := (zz_ro qS199 (fun h => absurd h.2 (by decide)) (zz_rc F_S rfl rfl (fun h => h) rfl))
            have g262 := zz_G.r G_S0 1076 5 (-1) 23 rfl rfl
            have e263 : S199 1076 5 = S0 1076 5 := (zz_ro qS199 (fun h => absurd h.2 (by decide)) (zz_rc F_S rfl rfl (fun h => h) rfl))
            refine zz_callVV [zi 0, zi 0] zd_3_4_224 zk_Compiler_118 zT_1076 (zz_ltn hn rfl) rfl rfl ⟨Nat.le_of_ble_eq_true rfl, Nat.le_of_ble_eq_true rfl⟩ ⟨rfl, rfl⟩ (Nat.zero_le _) (Nat.zero_le _) (zc_makeGroup_3_5 0 0 S199 n hn G_S199 (by omega) (by omega) (by omega) (by omega)) (fun S264 hP => ?_)
            obtain ⟨G_S264, fS264, o266⟩ := hP
            have g267 := zz_G.r G_S199 1076 0 0 1 rfl rfl
            have F_S264 := zz_fr.trans F_S199 fS264 rfl (fun a i h => Or.inr (Or.inl (h ▸ zM_k4 (z := (S199 1076 0)) (by omega) rfl)))
            have b268 := zz_rf4 (z := (S199 1076 0)) (by omega)
            refine zz_aload_n (x := 1076) rfl zd_3_4_227 ?_
            refine zz_dup rfl zd_3_4_228 ?_
            refine zz_geti (z := S 1076 12) zd_3_4_229 zf_Compiler_73 zT_1076 rfl (zz_ltn hn rfl) (zz_rc fS264 rfl rfl (by omega) (zz_ro qS199 (fun h => absurd h.2 (by decide)) rfl)) ?_
            refine zz_iconst zd_3_4_232 ?_
            refine zz_iadd zd_3_4_233 ?_
            refine zz_nrm (fun v269 hv269 ev269 => ?_)
            refine zz_puti zd_3_4_234 zf_Compiler_73 zT_1076 rfl (zz_ltn hn rfl) (fun S270 qS270 => ?_)
            have G_S270 := zz_G.put G_S264 qS270 (-2147483648) 2147483647 rfl (by omega)
            have F_S270 := zz_fr.puts F_S264 qS270 rfl
            refine zz_aload_n (x := 1076) rfl zd_3_4_237 ?_
            refine zz_dup rfl zd_3_4_238 ?_
            refine zz_geti (z := S 1076 15) zd_3_4_239 zf_Compiler_112 zT_1076 rfl (zz_ltn hn rfl) (zz_ro qS270 (fun h => absurd h.2 (by decide)) (zz_rc fS264 rfl rfl (by omega) (zz_ro qS199 (fun h => absurd h.2 (by decide)) rfl))) ?_
            refine zz_aload_n (x := 1076) rfl zd_3_4_242 ?_
            have g271 := zz_G.r G_S0 1076 2 2 8 rfl rfl
            refine zz_geti (z := S0 1076 2) zd_3_4_243 zf_Compiler_21 zT_1076 rfl (zz_ltn hn rfl) (zz_ro qS270 (fun h => absurd h.2 (by decide)) (zz_rc fS264 rfl rfl (by omega) (zz_ro qS199 (fun h => absurd h.2 (by decide)) (zz_rc F_S rfl rfl (fun h => h) rfl)))) ?_
            refine zz_iadd zd_3_4_246 ?_
            refine zz_puti zd_3_4_247 zf_Compiler_112 zT_1076 rfl (zz_ltn hn rfl) (fun S272 qS272 => ?_)
            have G_S272 := zz_G.put G_S270 qS272 (-2147483648) 2147483647 rfl (by omega)
            have F_S272 := zz_fr.puts F_S270 qS272 rfl
            refine zz_goto zd_3_4_250 ?_
            have e273 : S272 1076 13 = S 1076 13 := (zz_ro qS272 (fun h => absurd h.2 (by decide)) (zz_ro qS270 (fun h => absurd h.2 (by decide)) (zz_rc fS264 rfl rfl (by omega) (zz_ro qS199 (fun h => absurd h.2 (by decide)) rfl))))
            have e274 : S272 1076 14 = S 1076 14 := (zz_ro qS272 (fun h => absurd h.2 (by decide)) (zz_ro qS270 (fun h => absurd h.2 (by decide)) (zz_rc fS264 rfl rfl (by omega) (zz_ro qS199 (fun h => absurd h.2 (by decide)) rfl))))
            have e275 : S272 1076 15 = (S 1076 15) + (S0 1076 2) := (zz_rs qS272)
            have g276 := zz_G.r G_S264 1076 1 0 1000000 rfl rfl
            have e277 : S272 1076 1 = S264 1076 1 := (zz_ro qS272 (fun h => absurd h.2 (by decide)) (zz_ro qS270 (fun h => absurd h.2 (by decide)) rfl))
            refine zz_less (ls1 := [some (.ref 1076), some (zi x1), none, some (zi x3), some (zi x4), some (zi x5), some (zi (S0 1076 12))]) ⟨rfl, ⟨rfl, ⟨rfl, ⟨rfl, ⟨rfl, ⟨rfl, trivial⟩⟩⟩⟩⟩⟩ ?_
            exact k122 x1 x3 x4 x5 S272 G_S272 F_S272 (by omega) (by omega) (by omega) (by omega) (by omega) (by omega) (by omega) (by omega) (by omega) (by omega) (by omega) (by omega) (by omega)
          · refine zz_iconst zd_3_4_217 ?_
            refine zz_goto zd_3_4_218 ?_
            refine zz_iload (x := 0) rfl zd_3_4_222 ?_
            have g278 := zz_G.r G_S 1076 1 0 1000000 rfl rfl
            have e279 : S199 1076 1 = S 1076 1 := (zz_ro qS199 (fun h => absurd h.2 (by decide)) rfl)
            have g280 := zz_G.r G_S0 1076 3 (-1) 23 rfl rfl
            have e281 : S199 1076 3 = S0 1076 3 := (zz_ro qS199 (fun h => absurd h.2 (by decide)) (zz_rc F_S rfl rfl (fun h => h) rfl))
            have g282 := zz_G.r G_S0 1076 4 (-1) 23 rfl rfl
            have e283 : S199 1076 4 = S0 1076 4 := (zz_ro qS199 (fun h => absurd h.2 (by decide)) (zz_rc F_S rfl rfl (fun h => h) rfl))
            have g284 := zz_G.r G_S0 1076 5 (-1) 23 rfl rfl
            have e285 : S199 1076 5 = S0 1076 5 := (zz_ro qS199 (fun h => absurd h.2 (by decide)) (zz_rc F_S rfl rfl (fun h => h) rfl))
            refine zz_callVV [zi 1, zi 0] zd_3_4_224 zk_Compiler_118 zT_1076 (zz_ltn hn rfl) rfl rfl ⟨Nat.le_of_ble_eq_true rfl, Nat.le_of_ble_eq_true rfl⟩ ⟨rfl, rfl⟩ (Nat.zero_le _) (Nat.zero_le _) (zc_makeGroup_3_5 1 0 S199 n hn G_S199 (by omega) (by omega) (by omega) (by omega)) (fun S286 hP => ?_)
            obtain ⟨G_S286, fS286, o288⟩ := hP
            have g289 := zz_G.r G_S199 1076 0 0 1 rfl rfl
            have F_S286 := zz_fr.trans F_S199 fS286 rfl (fun a i h => Or.inr (Or.inl (h ▸ zM_k4 (z := (S199 1076 0)) (by omega) rfl)))
            have b290 := zz_rf4 (z := (S199 1076 0)) (by omega)
            refine zz_aload_n (x := 1076) rfl zd_3_4_227 ?_
            refine zz_dup rfl zd_3_4_228 ?_
            refine zz_geti (z := S 1076 12) zd_3_4_229 zf_Compiler_73 zT_1076 rfl (zz_ltn hn rfl) (zz_rc fS286 rfl rfl (by omega) (zz_ro qS199 (fun h => absurd h.2 (by decide)) rfl)) ?_
            refine zz_iconst zd_3_4_232 ?_
            refine zz_iadd zd_3_4_233 ?_
            refine zz_nrm (fun v291 hv291 ev291 => ?_)
            refine zz_puti zd_3_4_234 zf_Compiler_73 zT_1076 rfl (zz_ltn hn rfl) (fun S292 qS292 => ?_)
            have G_S292 := zz_G.put G_S286 qS292 (-2147483648) 2147483647 rfl (by omega)
            have F_S292 := zz_fr.puts F_S286 qS292 rfl
            refine zz_aload_n (x := 1076) rfl zd_3_4_237 ?_
            refine zz_dup rfl zd_3_4_238 ?_
            refine zz_geti (z := S 1076 15) zd_3_4_239 zf_Compiler_112 zT_1076 rfl (zz_ltn hn rfl) (zz_ro qS292 (fun h => absurd h.2 (by decide)) (zz_rc fS286 rfl rfl (by omega) (zz_ro qS199 (fun h => absurd h.2 (by decide)) rfl))) ?_
            refine zz_aload_n (x := 1076) rfl zd_3_4_242 ?_
            have g293 := zz_G.r G_S0 1076 2 2 8 rfl rfl
            refine zz_geti (z := S0 1076 2) zd_3_4_243 zf_Compiler_21 zT_1076 rfl (zz_ltn hn rfl) (zz_ro qS292 (fun h => absurd h.2 (by decide)) (zz_rc fS286 rfl rfl (by omega) (zz_ro qS199 (fun h => absurd h.2 (by decide)) (zz_rc F_S rfl rfl (fun h => h) rfl)))) ?_
            refine zz_iadd zd_3_4_246 ?_
            refine zz_puti zd_3_4_247 zf_Compiler_112 zT_1076 rfl (zz_ltn hn rfl) (fun S294 qS294 => ?_)
            have G_S294 := zz_G.put G_S292 qS294 (-2147483648) 2147483647 rfl (by omega)
            have F_S294 := zz_fr.puts F_S292 qS294 rfl
            refine zz_goto zd_3_4_250 ?_
            have e295 : S294 1076 13 = S 1076 13 := (zz_ro qS294 (fun h => absurd h.2 (by decide)) (zz_ro qS292 (fun h => absurd h.2 (by decide)) (zz_rc fS286 rfl rfl (by omega) (zz_ro qS199 (fun h => absurd h.2 (by decide)) rfl))))
            have e296 : S294 1076 14 = S 1076 14 := (zz_ro qS294 (fun h => absurd h.2 (by decide)) (zz_ro qS292 (fun h => absurd h.2 (by decide)) (zz_rc fS286 rfl rfl (by omega) (zz_ro qS199 (fun h => absurd h.2 (by decide)) rfl))))
            have e297 : S294 1076 15 = (S 1076 15) + (S0 1076 2) := (zz_rs qS294)
            have g298 := zz_G.r G_S286 1076 1 0 1000000 rfl rfl
            have e299 : S294 1076 1 = S286 1076 1 := (zz_ro qS294 (fun h => absurd h.2 (by decide)) (zz_ro qS292 (fun h => absurd h.2 (by decide)) rfl))
            refine zz_less (ls1 := [some (.ref 1076), some (zi x1), none, some (zi x3), some (zi x4), some (zi x5), some (zi (S0 1076 12))]) ⟨rfl, ⟨rfl, ⟨rfl, ⟨rfl, ⟨rfl, ⟨rfl, trivial⟩⟩⟩⟩⟩⟩ ?_
            exact k122 x1 x3 x4 x5 S294 G_S294 F_S294 (by omega) (by omega) (by omega) (by omega) (by omega) (by omega) (by omega) (by omega) (by omega) (by omega) (by omega) (by omega) (by omega)
        · refine zz_aload_n (x := 1076) rfl zd_3_4_186 ?_
          refine zz_geti (z := S 1076 15) zd_3_4_187 zf_Compiler_112 zT_1076 rfl (zz_ltn hn rfl) (zz_ro qS199 (fun h => absurd h.2 (by decide)) rfl) ?_
          refine zz_aload_n (x := 1076) rfl zd_3_4_190 ?_
          have g300 := zz_G.r G_S0 1076 2 2 8 rfl rfl
          refine zz_geti (z := S0 1076 2) zd_3_4_191 zf_Compiler_21 zT_1076 rfl (zz_ltn hn rfl) (zz_ro qS199 (fun h => absurd h.2 (by decide)) (zz_rc F_S rfl rfl (fun h => h) rfl)) ?_
          refine zz_iadd zd_3_4_194 ?_
          refine zz_iload (x := x5) rfl zd_3_4_195 ?_
          refine zz_icmp_lt (by omega) (by omega) zd_3_4_197 (fun c301 => ?_) (fun c301 => ?_)
          · refine zz_iconst zd_3_4_204 ?_
            refine zz_istore [some (.ref 1076), some (zi x1), none, some (zi x3), some (zi x4), some (zi x5), some (zi (S0 1076 12)), some (zi 0)] zd_3_4_205 (by decide) rfl ?_
            refine zz_aload_n (x := 1076) rfl zd_3_4_207 ?_
            refine zz_aload_n (x := 1076) rfl zd_3_4_208 ?_
            have g302 := zz_G.r G_S 1076 12 (-2147483648) 2147483647 rfl rfl
            refine zz_geti (z := S 1076 12) zd_3_4_209 zf_Compiler_73 zT_1076 rfl (zz_ltn hn rfl) (zz_ro qS199 (fun h => absurd h.2 (by decide)) rfl) ?_
            refine zz_iload (x := S0 1076 12) rfl zd_3_4_212 ?_
            refine zz_icmp_ne (by omega) (by omega) zd_3_4_214 (fun c303 => ?_) (fun c303 => ?_)
            · refine zz_iconst zd_3_4_221 ?_
              refine zz_iload (x := 0) rfl zd_3_4_222 ?_
              have g304 := zz_G.r G_S 1076 1 0 1000000 rfl rfl
              have e305 : S199 1076 1 = S 1076 1 := (zz_ro qS199 (fun h => absurd h.2 (by decide)) rfl)
              have g306 := zz_G.r G_S0 1076 3 (-1) 23 rfl rfl
              have e307 : S199 1076 3 = S0 1076 3 := (zz_ro qS199 (fun h => absurd h.2 (by decide)) (zz_rc F_S rfl rfl (fun h => h) rfl))
              have g308 := zz_G.r G_S0 1076 4 (-1) 23 rfl rfl
              have e309 : S199 1076 4 = S0 1076 4 := (zz_ro qS199 (fun h => absurd h.2 (by decide)) (zz_rc F_S rfl rfl (fun h => h) rfl))
              have g310 := zz_G.r G_S0 1076 5 (-1) 23 rfl rfl
              have e311 : S199 1076 5 = S0 1076 5 := (zz_ro qS199 (fun h => absurd h.2 (by decide)) (zz_rc F_S rfl rfl (fun h => h) rfl))
              refine zz_callVV [zi 0, zi 0] zd_3_4_224 zk_Compiler_118 zT_1076 (zz_ltn hn rfl) rfl rfl ⟨Nat.le_of_ble_eq_true rfl, Nat.le_of_ble_eq_true rfl⟩ ⟨rfl, rfl⟩ (Nat.zero_le _) (Nat.zero_le _) (zc_makeGroup_3_5 0 0 S199 n hn G_S199 (by omega) (by omega) (by omega) (by omega)) (fun S312 hP => ?_)
              obtain ⟨G_S312, fS312, o314⟩ := hP
              have g315 := zz_G.r G_S199 1076 0 0 1 rfl rfl
              have F_S312 := zz_fr.trans F_S199 fS312 rfl (fun a i h => Or.inr (Or.inl (h ▸ zM_k4 (z := (S199 1076 0)) (by omega) rfl)))
              have b316 := zz_rf4 (z := (S199 1076 0)) (by omega)
              refine zz_aload_n (x := 1076) rfl zd_3_4_227 ?_
              refine zz_dup rfl zd_3_4_228 ?_
              refine zz_geti (z := S 1076 12) zd_3_4_229 zf_Compiler_73 zT_1076 rfl (zz_ltn hn rfl) (zz_rc fS312 rfl rfl (by omega) (zz_ro qS199 (fun h => absurd h.2 (by decide)) rfl)) ?_
              refine zz_iconst zd_3_4_232 ?_
              refine zz_iadd zd_3_4_233 ?_
              refine zz_nrm (fun v317 hv317 ev317 => ?_)
              refine zz_puti zd_3_4_234 zf_Compiler_73 zT_1076 rfl (zz_ltn hn rfl) (fun S318 qS318 => ?_)
              have G_S318 := zz_G.put G_S312 qS318 (-2147483648) 2147483647 rfl (by omega)
              have F_S318 := zz_fr.puts F_S312 qS318 rfl
              refine zz_aload_n (x := 1076) rfl zd_3_4_237 ?_
              refine zz_dup rfl zd_3_4_238 ?_
              refine zz_geti (z := S 1076 15) zd_3_4_239 zf_Compiler_112 zT_1076 rfl (zz_ltn hn rfl) (zz_ro qS318 (fun h => absurd h.2 (by decide)) (zz_rc fS312 rfl rfl (by omega) (zz_ro qS199 (fun h => absurd h.2 (by decide)) rfl))) ?_
              refine zz_aload_n (x := 1076) rfl zd_3_4_242 ?_
              refine zz_geti (z := S0 1076 2) zd_3_4_243 zf_Compiler_21 zT_1076 rfl (zz_ltn hn rfl) (zz_ro qS318 (fun h => absurd h.2 (by decide)) (zz_rc fS312 rfl rfl (by omega) (zz_ro qS199 (fun h => absurd h.2 (by decide)) (zz_rc F_S rfl rfl (fun h => h) rfl)))) ?_
              refine zz_iadd zd_3_4_246 ?_
              refine zz_puti zd_3_4_247 zf_Compiler_112 zT_1076 rfl (zz_ltn hn rfl) (fun S319 qS319 => ?_)
              have G_S319 := zz_G.put G_S318 qS319 (-2147483648) 2147483647 rfl (by omega)
              have F_S319 := zz_fr.puts F_S318 qS319 rfl
              refine zz_goto zd_3_4_250 ?_
              have e320 : S319 1076 13 = S 1076 13 := (zz_ro qS319 (fun h => absurd h.2 (by decide)) (zz_ro qS318 (fun h => absurd h.2 (by decide)) (zz_rc fS312 rfl rfl (by omega) (zz_ro qS199 (fun h => absurd h.2 (by decide)) rfl))))
              have e321 : S319 1076 14 = S 1076 14 := (zz_ro qS319 (fun h => absurd h.2 (by decide)) (zz_ro qS318 (fun h => absurd h.2 (by decide)) (zz_rc fS312 rfl rfl (by omega) (zz_ro qS199 (fun h => absurd h.2 (by decide)) rfl))))
              have e322 : S319 1076 15 = (S 1076 15) + (S0 1076 2) := (zz_rs qS319)
              have g323 := zz_G.r G_S312 1076 1 0 1000000 rfl rfl
              have e324 : S319 1076 1 = S312 1076 1 := (zz_ro qS319 (fun h => absurd h.2 (by decide)) (zz_ro qS318 (fun h => absurd h.2 (by decide)) rfl))
              refine zz_less (ls1 := [some (.ref 1076), some (zi x1), none, some (zi x3), some (zi x4), some (zi x5), some (zi (S0 1076 12))]) ⟨rfl, ⟨rfl, ⟨rfl, ⟨rfl, ⟨rfl, ⟨rfl, trivial⟩⟩⟩⟩⟩⟩ ?_
              exact k122 x1 x3 x4 x5 S319 G_S319 F_S319 (by omega) (by omega) (by omega) (by omega) (by omega) (by omega) (by omega) (by omega) (by omega) (by omega) (by omega) (by omega) (by omega)
            · refine zz_iconst zd_3_4_217 ?_
              refine zz_goto zd_3_4_218 ?_
              refine zz_iload (x := 0) rfl zd_3_4_222 ?_
              have g325 := zz_G.r G_S 1076 1 0 1000000 rfl rfl
              have e326 : S199 1076 1 = S 1076 1 := (zz_ro qS199 (fun h => absurd h.2 (by decide)) rfl)
              have g327 := zz_G.r G_S0 1076 3 (-1) 23 rfl rfl
              have e328 : S199 1076 3 = S0 1076 3 := (zz_ro qS199 (fun h => absurd h.2 (by decide)) (zz_rc F_S rfl rfl (fun h => h) rfl))
              have g329 := zz_G.r G_S0 1076 4 (-1) 23 rfl rfl
              have e330 : S199 1076 4 = S0 1076 4 := (zz_ro qS199 (fun h => absurd h.2 (by decide)) (zz_rc F_S rfl rfl (fun h => h) rfl))
              have g331 := zz_G.r G_S0 1076 5 (-1) 23 rfl rfl
              have e332 : S199 1076 5 = S0 1076 5 := (zz_ro qS199 (fun h => absurd h.2 (by decide)) (zz_rc F_S rfl rfl (fun h => h) rfl))
              refine zz_callVV [zi 1, zi 0] zd_3_4_224 zk_Compiler_118 zT_1076 (zz_ltn hn rfl) rfl rfl ⟨Nat.le_of_ble_eq_true rfl, Nat.le_of_ble_eq_true rfl⟩ ⟨rfl, rfl⟩ (Nat.zero_le _) (Nat.zero_le _) (zc_makeGroup_3_5 1 0 S199 n hn G_S199 (by omega) (by omega) (by omega) (by omega)) (fun S333 hP => ?_)
              obtain ⟨G_S333, fS333, o335⟩ := hP
              have g336 := zz_G.r G_S199 1076 0 0 1 rfl rfl
              have F_S333 := zz_fr.trans F_S199 fS333 rfl (fun a i h => Or.inr (Or.inl (h ▸ zM_k4 (z := (S199 1076 0)) (by omega) rfl)))
              have b337 := zz_rf4 (z := (S199 1076 0)) (by omega)
              refine zz_aload_n (x := 1076) rfl zd_3_4_227 ?_
              refine zz_dup rfl zd_3_4_228 ?_
              refine zz_geti (z := S 1076 12) zd_3_4_229 zf_Compiler_73 zT_1076 rfl (zz_ltn hn rfl) (zz_rc fS333 rfl rfl (by omega) (zz_ro qS199 (fun h => absurd h.2 (by decide)) rfl)) ?_
              refine zz_iconst zd_3_4_232 ?_
              refine zz_iadd zd_3_4_233 ?_
              refine zz_nrm (fun v338 hv338 ev338 => ?_)
              refine zz_puti zd_3_4_234 zf_Compiler_73 zT_1076 rfl (zz_ltn hn rfl) (fun S339 qS339 => ?_)
              have G_S339 := zz_G.put G_S333 qS339 (-2147483648) 2147483647 rfl (by omega)
              have F_S339 := zz_fr.puts F_S333 qS339 rfl
              refine zz_aload_n (x := 1076) rfl zd_3_4_237 ?_
              refine zz_dup rfl zd_3_4_238 ?_
              refine zz_geti (z := S 1076 15) zd_3_4_239 zf_Compiler_112 zT_1076 rfl (zz_ltn hn rfl) (zz_ro qS339 (fun h => absurd h.2 (by decide)) (zz_rc fS333 rfl rfl (by omega) (zz_ro qS199 (fun h => absurd h.2 (by decide)) rfl))) ?_
              refine zz_aload_n (x := 1076) rfl zd_3_4_242 ?_
              refine zz_geti (z := S0 1076 2) zd_3_4_243 zf_Compiler_21 zT_1076 rfl (zz_ltn hn rfl) (zz_ro qS339 (fun h => absurd h.2 (by decide)) (zz_rc fS333 rfl rfl (by omega) (zz_ro qS199 (fun h => absurd h.2 (by decide)) (zz_rc F_S rfl rfl (fun h => h) rfl)))) ?_
              refine zz_iadd zd_3_4_246 ?_
              refine zz_puti zd_3_4_247 zf_Compiler_112 zT_1076 rfl (zz_ltn hn rfl) (fun S340 qS340 => ?_)
              have G_S340 := zz_G.put G_S339 qS340 (-2147483648) 2147483647 rfl (by omega)
              have F_S340 := zz_fr.puts F_S339 qS340 rfl
              refine zz_goto zd_3_4_250 ?_
              have e341 : S340 1076 13 = S 1076 13 := (zz_ro qS340 (fun h => absurd h.2 (by decide)) (zz_ro qS339 (fun h => absurd h.2 (by decide)) (zz_rc fS333 rfl rfl (by omega) (zz_ro qS199 (fun h => absurd h.2 (by decide)) rfl))))
              have e342 : S340 1076 14 = S 1076 14 := (zz_ro qS340 (fun h => absurd h.2 (by decide)) (zz_ro qS339 (fun h => absurd h.2 (by decide)) (zz_rc fS333 rfl rfl (by omega) (zz_ro qS199 (fun h => absurd h.2 (by decide)) rfl))))
              have e343 : S340 1076 15 = (S 1076 15) + (S0 1076 2) := (zz_rs qS340)
              have g344 := zz_G.r G_S333 1076 1 0 1000000 rfl rfl
              have e345 : S340 1076 1 = S333 1076 1 := (zz_ro qS340 (fun h => absurd h.2 (by decide)) (zz_ro qS339 (fun h => absurd h.2 (by decide)) rfl))
              refine zz_less (ls1 := [some (.ref 1076), some (zi x1), none, some (zi x3), some (zi x4), some (zi x5), some (zi (S0 1076 12))]) ⟨rfl, ⟨rfl, ⟨rfl, ⟨rfl, ⟨rfl, ⟨rfl, trivial⟩⟩⟩⟩⟩⟩ ?_
              exact k122 x1 x3 x4 x5 S340 G_S340 F_S340 (by omega) (by omega) (by omega) (by omega) (by omega) (by omega) (by omega) (by omega) (by omega) (by omega) (by omega) (by omega) (by omega)
          · refine zz_iconst zd_3_4_200 ?_
            refine zz_goto zd_3_4_201 ?_
            refine zz_istore [some (.ref 1076), some (zi x1), none, some (zi x3), some (zi x4), some (zi x5), some (zi (S0 1076 12)), some (zi 1)] zd_3_4_205 (by decide) rfl ?_
            refine zz_aload_n (x := 1076) rfl zd_3_4_207 ?_
            refine zz_aload_n (x := 1076) rfl zd_3_4_208 ?_
            have g346 := zz_G.r G_S 1076 12 (-2147483648) 2147483647 rfl rfl
            refine zz_geti (z := S 1076 12) zd_3_4_209 zf_Compiler_73 zT_1076 rfl (zz_ltn hn rfl) (zz_ro qS199 (fun h => absurd h.2 (by decide)) rfl) ?_
            refine zz_iload (x := S0 1076 12) rfl zd_3_4_212 ?_
            refine zz_icmp_ne (by omega) (by omega) zd_3_4_214 (fun c347 => ?_) (fun c347 => ?_)
            · refine zz_iconst zd_3_4_221 ?_
              refine zz_iload (x := 1) rfl zd_3_4_222 ?_
              have g348 := zz_G.r G_S 1076 1 0 1000000 rfl rfl
              have e349 : S199 1076 1 = S 1076 1 := (zz_ro qS199 (fun h => absurd h.2 (by decide)) rfl)
              have g350 := zz_G.r G_S0 1076 3 (-1) 23 rfl rfl
              have e351 : S199 1076 3 = S0 1076 3 := (zz_ro qS199 (fun h => absurd h.2 (by decide)) (zz_rc F_S rfl rfl (fun h => h) rfl))
              have g352 := zz_G.r G_S0 1076 4 (-1) 23 rfl rfl
              have e353 : S199 1076 4 = S0 1076 4 := (zz_ro qS199 (fun h => absurd h.2 (by decide)) (zz_rc F_S rfl rfl (fun h => h) rfl))
              have g354 := zz_G.r G_S0 1076 5 (-1) 23 rfl rfl
              have e355 : S199 1076 5 = S0 1076 5 := (zz_ro qS199 (fun h => absurd h.2 (by decide)) (zz_rc F_S rfl rfl (fun h => h) rfl))
              refine zz_callVV [zi 0, zi 1] zd_3_4_224 zk_Compiler_118 zT_1076 (zz_ltn hn rfl) rfl rfl ⟨Nat.le_of_ble_eq_true rfl, Nat.le_of_ble_eq_true rfl⟩ ⟨rfl, rfl⟩ (Nat.zero_le _) (Nat.zero_le _) (zc_makeGroup_3_5 0 1 S199 n hn G_S199 (by omega) (by omega) (by omega) (by omega)) (fun S356 hP => ?_)
              obtain ⟨G_S356, fS356, o358⟩ := hP
              have g359 := zz_G.r G_S199 1076 0 0 1 rfl rfl
              have F_S356 := zz_fr.trans F_S199 fS356 rfl (fun a i h => Or.inr (Or.inl (h ▸ zM_k4 (z := (S199 1076 0)) (by omega) rfl)))
              have b360 := zz_rf4 (z := (S199 1076 0)) (by omega)
              refine zz_aload_n (x := 1076) rfl zd_3_4_227 ?_
              refine zz_dup rfl zd_3_4_228 ?_
              refine zz_geti (z := S 1076 12) zd_3_4_229 zf_Compiler_73 zT_1076 rfl (zz_ltn hn rfl) (zz_rc fS356 rfl rfl (by omega) (zz_ro qS199 (fun h => absurd h.2 (by decide)) rfl)) ?_
              refine zz_iconst zd_3_4_232 ?_
              refine zz_iadd zd_3_4_233 ?_
              refine zz_nrm (fun v361 hv361 ev361 => ?_)
              refine zz_puti zd_3_4_234 zf_Compiler_73 zT_1076 rfl (zz_ltn hn rfl) (fun S362 qS362 => ?_)
              have G_S362 := zz_G.put G_S356 qS362 (-2147483648) 2147483647 rfl (by omega)
              have F_S362 := zz_fr.puts F_S356 qS362 rfl
              refine zz_aload_n (x := 1076) rfl zd_3_4_237 ?_
              refine zz_dup rfl zd_3_4_238 ?_
              refine zz_geti (z := S 1076 15) zd_3_4_239 zf_Compiler_112 zT_1076 rfl (zz_ltn hn rfl) (zz_ro qS362 (fun h => absurd h.2 (by decide)) (zz_rc fS356 rfl rfl (by omega) (zz_ro qS199 (fun h => absurd h.2 (by decide)) rfl))) ?_
              refine zz_aload_n (x := 1076) rfl zd_3_4_242 ?_
              refine zz_geti (z := S0 1076 2) zd_3_4_243 zf_Compiler_21 zT_1076 rfl (zz_ltn hn rfl) (zz_ro qS362 (fun h => absurd h.2 (by decide)) (zz_rc fS356 rfl rfl (by omega) (zz_ro qS199 (fun h => absurd h.2 (by decide)) (zz_rc F_S rfl rfl (fun h => h) rfl)))) ?_
              refine zz_iadd zd_3_4_246 ?_
              refine zz_puti zd_3_4_247 zf_Compiler_112 zT_1076 rfl (zz_ltn hn rfl) (fun S363 qS363 => ?_)
              have G_S363 := zz_G.put G_S362 qS363 (-2147483648) 2147483647 rfl (by omega)
              have F_S363 := zz_fr.puts F_S362 qS363 rfl
              refine zz_goto zd_3_4_250 ?_
              have e364 : S363 1076 13 = S 1076 13 := (zz_ro qS363 (fun h => absurd h.2 (by decide)) (zz_ro qS362 (fun h => absurd h.2 (by decide)) (zz_rc fS356 rfl rfl (by omega) (zz_ro qS199 (fun h => absurd h.2 (by decide)) rfl))))
              have e365 : S363 1076 14 = S 1076 14 := (zz_ro qS363 (fun h => absurd h.2 (by decide)) (zz_ro qS362 (fun h => absurd h.2 (by decide)) (zz_rc fS356 rfl rfl (by omega) (zz_ro qS199 (fun h => absurd h.2 (by decide)) rfl))))
              have e366 : S363 1076 15 = (S 1076 15) + (S0 1076 2) := (zz_rs qS363)
              have g367 := zz_G.r G_S356 1076 1 0 1000000 rfl rfl
              have e368 : S363 1076 1 = S356 1076 1 := (zz_ro qS363 (fun h => absurd h.2 (by decide)) (zz_ro qS362 (fun h => absurd h.2 (by decide)) rfl))
              refine zz_less (ls1 := [some (.ref 1076), some (zi x1), none, some (zi x3), some (zi x4), some (zi x5), some (zi (S0 1076 12))]) ⟨rfl, ⟨rfl, ⟨rfl, ⟨rfl, ⟨rfl, ⟨rfl, trivial⟩⟩⟩⟩⟩⟩ ?_
              exact k122 x1 x3 x4 x5 S363 G_S363 F_S363 (by omega) (by omega) (by omega) (by omega) (by omega) (by omega) (by omega) (by omega) (by omega) (by omega) (by omega) (by omega) (by omega)
            · refine zz_iconst zd_3_4_217 ?_
              refine zz_goto zd_3_4_218 ?_
              refine zz_iload (x := 1) rfl zd_3_4_222 ?_
              have g369 := zz_G.r G_S 1076 1 0 1000000 rfl rfl
              have e370 : S199 1076 1 = S 1076 1 := (zz_ro qS199 (fun h => absurd h.2 (by decide)) rfl)
              have g371 := zz_G.r G_S0 1076 3 (-1) 23 rfl rfl
              have e372 : S199 1076 3 = S0 1076 3 := (zz_ro qS199 (fun h => absurd h.2 (by decide)) (zz_rc F_S rfl rfl (fun h => h) rfl))
              have g373 := zz_G.r G_S0 1076 4 (-1) 23 rfl rfl
              have e374 : S199 1076 4 = S0 1076 4 := (zz_ro qS199 (fun h => absurd h.2 (by decide)) (zz_rc F_S rfl rfl (fun h => h) rfl))
              have g375 := zz_G.r G_S0 1076 5 (-1) 23 rfl rfl
              have e376 : S199 1076 5 = S0 1076 5 := (zz_ro qS199 (fun h => absurd h.2 (by decide)) (zz_rc F_S rfl rfl (fun h => h) rfl))
              refine zz_callVV [zi 1, zi 1] zd_3_4_224 zk_Compiler_118 zT_1076 (zz_ltn hn rfl) rfl rfl ⟨Nat.le_of_ble_eq_true rfl, Nat.le_of_ble_eq_true rfl⟩ ⟨rfl, rfl⟩ (Nat.zero_le _) (Nat.zero_le _) (zc_makeGroup_3_5 1 1 S199 n hn G_S199 (by omega) (by omega) (by omega) (by omega)) (fun S377 hP => ?_)
              obtain ⟨G_S377, fS377, o379⟩ := hP
              have g380 := zz_G.r G_S199 1076 0 0 1 rfl rfl
              have F_S377 := zz_fr.trans F_S199 fS377 rfl (fun a i h => Or.inr (Or.inl (h ▸ zM_k4 (z := (S199 1076 0)) (by omega) rfl)))
              have b381 := zz_rf4 (z := (S199 1076 0)) (by omega)
              refine zz_aload_n (x := 1076) rfl zd_3_4_227 ?_
              refine zz_dup rfl zd_3_4_228 ?_
              refine zz_geti (z := S 1076 12) zd_3_4_229 zf_Compiler_73 zT_1076 rfl (zz_ltn hn rfl) (zz_rc fS377 rfl rfl (by omega) (zz_ro qS199 (fun h => absurd h.2 (by decide)) rfl)) ?_
              refine zz_iconst zd_3_4_232 ?_
              refine zz_iadd zd_3_4_233 ?_
              refine zz_nrm (fun v382 hv382 ev382 => ?_)
              refine zz_puti zd_3_4_234 zf_Compiler_73 zT_1076 rfl (zz_ltn hn rfl) (fun S383 qS383 => ?_)
              have G_S383 := zz_G.put G_S377 qS383 (-2147483648) 2147483647 rfl (by omega)
              have F_S383 := zz_fr.puts F_S377 qS383 rfl
              refine zz_aload_n (x := 1076) rfl zd_3_4_237 ?_
              refine zz_dup rfl zd_3_4_238 ?_
              refine zz_geti (z := S 1076 15) zd_3_4_239 zf_Compiler_112 zT_1076 rfl (zz_ltn hn rfl) (zz_ro qS383 (fun h => absurd h.2 (by decide)) (zz_rc fS377 rfl rfl (by omega) (zz_ro qS199 (fun h => absurd h.2 (by decide)) rfl))) ?_
              refine zz_aload_n (x := 1076) rfl zd_3_4_242 ?_
              refine zz_geti (z := S0 1076 2) zd_3_4_243 zf_Compiler_21 zT_1076 rfl (zz_ltn hn rfl) (zz_ro qS383 (fun h => absurd h.2 (by decide)) (zz_rc fS377 rfl rfl (by omega) (zz_ro qS199 (fun h => absurd h.2 (by decide)) (zz_rc F_S rfl rfl (fun h => h) rfl)))) ?_
              refine zz_iadd zd_3_4_246 ?_
              refine zz_puti zd_3_4_247 zf_Compiler_112 zT_1076 rfl (zz_ltn hn rfl) (fun S384 qS384 => ?_)
              have G_S384 := zz_G.put G_S383 qS384 (-2147483648) 2147483647 rfl (by omega)
              have F_S384 := zz_fr.puts F_S383 qS384 rfl
              refine zz_goto zd_3_4_250 ?_
              have e385 : S384 1076 13 = S 1076 13 := (zz_ro qS384 (fun h => absurd h.2 (by decide)) (zz_ro qS383 (fun h => absurd h.2 (by decide)) (zz_rc fS377 rfl rfl (by omega) (zz_ro qS199 (fun h => absurd h.2 (by decide)) rfl))))
              have e386 : S384 1076 14 = S 1076 14 := (zz_ro qS384 (fun h => absurd h.2 (by decide)) (zz_ro qS383 (fun h => absurd h.2 (by decide)) (zz_rc fS377 rfl rfl (by omega) (zz_ro qS199 (fun h => absurd h.2 (by decide)) rfl))))
              have e387 : S384 1076 15 = (S 1076 15) + (S0 1076 2) := (zz_rs qS384)
              have g388 := zz_G.r G_S377 1076 1 0 1000000 rfl rfl
              have e389 : S384 1076 1 = S377 1076 1 := (zz_ro qS384 (fun h => absurd h.2 (by decide)) (zz_ro qS383 (fun h => absurd h.2 (by decide)) rfl))
              refine zz_less (ls1 := [some (.ref 1076), some (zi x1), none, some (zi x3), some (zi x4), some (zi x5), some (zi (S0 1076 12))]) ⟨rfl, ⟨rfl, ⟨rfl, ⟨rfl, ⟨rfl, ⟨rfl, trivial⟩⟩⟩⟩⟩⟩ ?_
              exact k122 x1 x3 x4 x5 S384 G_S384 F_S384 (by omega) (by omega) (by omega) (by omega) (by omega) (by omega) (by omega) (by omega) (by omega) (by omega) (by omega) (by omega) (by omega)
    · exfalso; omega
theorem zi_makeTile_3_4 {g : mm_G} {l : Launch}  (S0 : zz_S) (n : Nat) (hn : zz_end ≤ n) (G_S0 : zz_G S0) (hq : S0 1076 1 ≤ 600) (hl : 0 ≤ S0 1076 3 ∧ 0 ≤ S0 1076 4 ∧ 0 ≤ S0 1076 5) (hk : zz_ly S0 (S0 1076 3) ∧ S0 (zz_rf 6 (S0 1076 4)) 12 ≤ 63) : ∀ N : Nat, (∀ (x1 : Int) (x3 : Int) (x4 : Int) (x5 : Int) (S : zz_S), zz_G S → zz_fr [(1076, 1), (1076, 6), (1076, 12), (1076, 13), (1076, 14), (1076, 15), (1076, 16)] [1029, 1030] (fun _ _ => False) S0 S → (0 ≤ x1 ∧ x1 ≤ 0) → ((-2147483648) ≤ x3 ∧ x3 ≤ 3) → ((-2147483648) ≤ x4 ∧ x4 ≤ 3) → ((-2147483648) ≤ x5 ∧ x5 ≤ 63) → (0 ≤ S 1076 13 ∧ S 1076 13 ≤ 3) → (S0 1076 1 ≤ S 1076 1 ∧ S 1076 1 ≤ S0 1076 1 + 840 * S 1076 13) → (51539607552 + (3 - S 1076 13).toNat) * 1208925819614629174706176 + 1208925819614629174706175 < N → zz_E g l zy_makeTile_3_4 zr_makeTile_3_4 (zz_QV n (zp_makeTile_3_4  S0)) S n 95 [some (.ref 1076), some (zi x1), none, some (zi x3), some (zi x4), some (zi x5), some (zi (S0 1076 12))] [] 0 0) ∧ (∀ (x1 : Int) (x3 : Int) (x4 : Int) (x5 : Int) (S : zz_S), zz_G S → zz_fr [(1076, 1), (1076, 6), (1076, 12), (1076, 13), (1076, 14), (1076, 15), (1076, 16)] [1029, 1030] (fun _ _ => False) S0 S → (0 ≤ x1 ∧ x1 ≤ 0) → ((-2147483648) ≤ x3 ∧ x3 ≤ 3) → ((-2147483648) ≤ x4 ∧ x4 ≤ 3) → ((-2147483648) ≤ x5 ∧ x5 ≤ 63) → (S0 (zz_rf 6 (S0 1076 3)) 0 ≠ 1) → (S0 (zz_rf 6 (S0 1076 3)) 0 ≠ 3) → (0 ≤ S 1076 13 ∧ S 1076 13 ≤ 2) → (0 ≤ S 1076 14 ∧ S 1076 14 ≤ 3) → (S 1076 13 < x3) → (S0 1076 1 ≤ S 1076 1 ∧ S 1076 1 ≤ S0 1076 1 + 840 * S 1076 13 + 280 * S 1076 14) → (51539607552 + (3 - S 1076 13).toNat) * 1208925819614629174706176 + (34359738368 + (3 - S 1076 14).toNat) * 1099511627776 + 1099511627775 < N → zz_E g l zy_makeTile_3_4 zr_makeTile_3_4 (zz_QV n (zp_makeTile_3_4  S0)) S n 108 [some (.ref 1076), some (zi x1), none, some (zi x3), some (zi x4), some (zi x5), some (zi (S0 1076 12))] [] 0 0) ∧ (∀ (x1 : Int) (x3 : Int) (x4 : Int) (x5 : Int) (S : zz_S), zz_G S → zz_fr [(1076, 1), (1076, 6), (1076, 12), (1076, 13), (1076, 14), (1076, 15), (1076, 16)] [1029, 1030] (fun _ _ => False) S0 S → (0 ≤ x1 ∧ x1 ≤ 0) → ((-2147483648) ≤ x3 ∧ x3 ≤ 3) → ((-2147483648) ≤ x4 ∧ x4 ≤ 3) → ((-2147483648) ≤ x5 ∧ x5 ≤ 63) → (S0 (zz_rf 6 (S0 1076 3)) 0 ≠ 1) → (S0 (zz_rf 6 (S0 1076 3)) 0 ≠ 3) → (0 ≤ S 1076 13 ∧ S 1076 13 ≤ 2) → (0 ≤ S 1076 14 ∧ S 1076 14 ≤ 2) → (S 1076 13 < x3) → (S 1076 14 < x4) → (0 ≤ S 1076 15 ∧ S 1076 15 ≤ 70) → (S0 1076 1 ≤ S 1076 1 ∧ S 1076 1 ≤ S0 1076 1 + 840 * S 1076 13 + 280 * S 1076 14 + 4 * S 1076 15) → (51539607552 + (3 - S 1076 13).toNat) * 1208925819614629174706176 + (34359738368 + (3 - S 1076 14).toNat) * 1099511627776 + (17179869184 + (80 - S 1076 15).toNat) < N → zz_E g l zy_makeTile_3_4 zr_makeTile_3_4 (zz_QV n (zp_makeTile_3_4  S0)) S n 122 [some (.ref 1076), some (zi x1), none, some (zi x3), some (zi x4), some (zi x5), some (zi (S0 1076 12))] [] 0 0) := by
  intro N
  induction N with
  | zero => exact ⟨fun x1 x3 x4 x5 S _ _ _ _ _ _ _ _ h => absurd h (Nat.not_lt_zero _), fun x1 x3 x4 x5 S _ _ _ _ _ _ _ _ _ _ _ _ h => absurd h (Nat.not_lt_zero _), fun x1 x3 x4 x5 S _ _ _ _ _ _ _ _ _ _ _ _ _ _ h => absurd h (Nat.not_lt_zero _)⟩
  | succ N ih =>
    exact ⟨fun x1 x3 x4 x5 S a b j0 j1 j2 j3 j4 j5 hR => zb_makeTile_3_4_95  S0 n hn G_S0 hq hl hk x1 x3 x4 x5 S a b j0 j1 j2 j3 j4 j5 _ rfl (fun x1 x3 x4 x5 S a b j0 j1 j2 j3 j4 j5 j6 j7 j8 j9 h => ih.2.1 x1 x3 x4 x5 S a b j0 j1 j2 j3 j4 j5 j6 j7 j8 j9 (Nat.lt_of_lt_of_le h (Nat.le_of_lt_succ hR))),
      fun x1 x3 x4 x5 S a b j0 j1 j2 j3 j4 j5 j6 j7 j8 j9 hR => zb_makeTile_3_4_108  S0 n hn G_S0 hq hl hk x1 x3 x4 x5 S a b j0 j1 j2 j3 j4 j5 j6 j7 j8 j9 _ rfl (fun x1 x3 x4 x5 S a b j0 j1 j2 j3 j4 j5 h => ih.1 x1 x3 x4 x5 S a b j0 j1 j2 j3 j4 j5 (Nat.lt_of_lt_of_le h (Nat.le_of_lt_succ hR))) (fun x1 x3 x4 x5 S a b j0 j1 j2 j3 j4 j5 j6 j7 j8 j9 j10 j11 h => ih.2.2 x1 x3 x4 x5 S a b j0 j1 j2 j3 j4 j5 j6 j7 j8 j9 j10 j11 (Nat.lt_of_lt_of_le h (Nat.le_of_lt_succ hR))),
      fun x1 x3 x4 x5 S a b j0 j1 j2 j3 j4 j5 j6 j7 j8 j9 j10 j11 hR => zb_makeTile_3_4_122  S0 n hn G_S0 hq hl hk x1 x3 x4 x5 S a b j0 j1 j2 j3 j4 j5 j6 j7 j8 j9 j10 j11 _ rfl (fun x1 x3 x4 x5 S a b j0 j1 j2 j3 j4 j5 j6 j7 j8 j9 h => ih.2.1 x1 x3 x4 x5 S a b j0 j1 j2 j3 j4 j5 j6 j7 j8 j9 (Nat.lt_of_lt_of_le h (Nat.le_of_lt_succ hR))) (fun x1 x3 x4 x5 S a b j0 j1 j2 j3 j4 j5 j6 j7 j8 j9 j10 j11 h => ih.2.2 x1 x3 x4 x5 S a b j0 j1 j2 j3 j4 j5 j6 j7 j8 j9 j10 j11 (Nat.lt_of_lt_of_le h (Nat.le_of_lt_succ hR)))⟩
theorem zc_makeTile_3_4 {g : mm_G} {l : Launch}  (S0 : zz_S) (n : Nat) (hn : zz_end ≤ n) (G_S0 : zz_G S0) (hq : S0 1076 1 ≤ 600) (hl : 0 ≤ S0 1076 3 ∧ 0 ≤ S0 1076 4 ∧ 0 ≤ S0 1076 5) (hk : zz_ly S0 (S0 1076 3) ∧ S0 (zz_rf 6 (S0 1076 4)) 12 ≤ 63) : mm_Met g l zy_makeTile_3_4 zr_makeTile_3_4 [.ref 1076] (zz_M S0 n) n (zz_QV n (zp_makeTile_3_4  S0)) := by
  refine zz_enter (by decide) (Nat.le_of_ble_eq_true rfl) (zz_less (ls1 := [some (.ref 1076)]) ⟨rfl, trivial⟩ ?_)
  have F_S0 : zz_fr [(1076, 1), (1076, 6), (1076, 12), (1076, 13), (1076, 14), (1076, 15), (1076, 16)] [1029, 1030] (fun _ _ => False) S0 S0 := zz_fr.refl
  have k95 : ∀ (x1 : Int) (x3 : Int) (x4 : Int) (x5 : Int) (S : zz_S), zz_G S → zz_fr [(1076, 1), (1076, 6), (1076, 12), (1076, 13), (1076, 14), (1076, 15), (1076, 16)] [1029, 1030] (fun _ _ => False) S0 S → (0 ≤ x1 ∧ x1 ≤ 0) → ((-2147483648) ≤ x3 ∧ x3 ≤ 3) → ((-2147483648) ≤ x4 ∧ x4 ≤ 3) → ((-2147483648) ≤ x5 ∧ x5 ≤ 63) → (0 ≤ S 1076 13 ∧ S 1076 13 ≤ 3) → (S0 1076 1 ≤ S 1076 1 ∧ S 1076 1 ≤ S0 1076 1 + 840 * S 1076 13) → zz_E g l zy_makeTile_3_4 zr_makeTile_3_4 (zz_QV n (zp_makeTile_3_4  S0)) S n 95 [some (.ref 1076), some (zi x1), none, some (zi x3), some (zi x4), some (zi x5), some (zi (S0 1076 12))] [] 0 0 := fun x1 x3 x4 x5 S a b j0 j1 j2 j3 j4 j5 => (zi_makeTile_3_4 (g := g) (l := l)  S0 n hn G_S0 hq hl hk _).1 x1 x3 x4 x5 S a b j0 j1 j2 j3 j4 j5 (Nat.lt_succ_self _)
  have hk1 := hk.1
  unfold zz_ly at hk1
  refine zz_aload_n (x := 1076) rfl zd_3_4_0 ?_
  have g1 := zz_G.r G_S0 1076 3 (-1) 23 rfl rfl
  refine zz_getr (kd := 4) (z := S0 1076 3) zd_3_4_1 zf_Compiler_51 zT_1076 rfl (zz_ltn hn rfl) rfl (by omega) (zz_rf 6 (S0 1076 3)) rfl ?_
  have g2 := zz_G.r G_S0 (zz_rf 6 (S0 1076 3)) 0 (-2147483648) 2147483647 (zR_k6_0 (by omega)) (zB_k6 (by omega))
  refine zz_geti (z := S0 (zz_rf 6 (S0 1076 3)) 0) zd_3_4_4 zf_Compiler_61 (zT_k6 (by omega)) rfl (zN_k6 hn (by omega)) rfl ?_
  refine zz_iconst zd_3_4_7 ?_
  refine zz_icmp_ne (by omega) (by omega) zd_3_4_8 (fun c3 => ?_) (fun c3 => ?_)
  · refine zz_iconst zd_3_4_15 ?_
    refine zz_istore_n [some (.ref 1076), some (zi 0)] zd_3_4_16 (by decide) rfl ?_
    refine zz_aload_n (x := 1076) rfl zd_3_4_17 ?_
    refine zz_getr (kd := 4) (z := S0 1076 3) zd_3_4_18 zf_Compiler_51 zT_1076 rfl (zz_ltn hn rfl) rfl (by omega) (zz_rf 6 (S0 1076 3)) rfl ?_
    refine zz_geti (z := S0 (zz_rf 6 (S0 1076 3)) 0) zd_3_4_21 zf_Compiler_61 (zT_k6 (by omega)) rfl (zN_k6 hn (by omega)) rfl ?_
    refine zz_iconst zd_3_4_24 ?_
    refine zz_icmp_ne (by omega) (by omega) zd_3_4_25 (fun c4 => ?_) (fun c4 => ?_)
    · refine zz_iconst zd_3_4_32 ?_
      refine zz_istore_n [some (.ref 1076), some (zi 0), some (zi 0)] zd_3_4_33 (by decide) rfl ?_
      refine zz_iload_n (x := 0) rfl zd_3_4_34 ?_
      refine zz_if_eq (by omega) zd_3_4_35 (fun c5 => ?_) (fun c5 => ?_)
      · refine zz_aload_n (x := 1076) rfl zd_3_4_42 ?_
        refine zz_getr (kd := 4) (z := S0 1076 3) zd_3_4_43 zf_Compiler_51 zT_1076 rfl (zz_ltn hn rfl) rfl (by omega) (zz_rf 6 (S0 1076 3)) rfl ?_
        have g6 := zz_G.r G_S0 (zz_rf 6 (S0 1076 3)) 3 (-2147483648) 2147483647 (zR_k6_3 (by omega)) (zB_k6 (by omega))
        refine zz_geti (z := S0 (zz_rf 6 (S0 1076 3)) 3) zd_3_4_46 zf_Compiler_100 (zT_k6 (by omega)) rfl (zN_k6 hn (by omega)) rfl ?_
        refine zz_istore_n [some (.ref 1076), some (zi 0), some (zi 0), some (zi (S0 (zz_rf 6 (S0 1076 3)) 3))] zd_3_4_49 (by decide) rfl ?_
        refine zz_iload_n (x := 0) rfl zd_3_4_50 ?_
        refine zz_if_eq (by omega) zd_3_4_51 (fun c7 => ?_) (fun c7 => ?_)
        · refine zz_aload_n (x := 1076) rfl zd_3_4_58 ?_
          refine zz_getr (kd := 4) (z := S0 1076 3) zd_3_4_59 zf_Compiler_51 zT_1076 rfl (zz_ltn hn rfl) rfl (by omega) (zz_rf 6 (S0 1076 3)) rfl ?_
          have g8 := zz_G.r G_S0 (zz_rf 6 (S0 1076 3)) 4 (-2147483648) 2147483647 (zR_k6_4 (by omega)) (zB_k6 (by omega))
          refine zz_geti (z := S0 (zz_rf 6 (S0 1076 3)) 4) zd_3_4_62 zf_Compiler_103 (zT_k6 (by omega)) rfl (zN_k6 hn (by omega)) rfl ?_
          refine zz_istore [some (.ref 1076), some (zi 0), some (zi 0), some (zi (S0 (zz_rf 6 (S0 1076 3)) 3)), some (zi (S0 (zz_rf 6 (S0 1076 3)) 4))] zd_3_4_65 (by decide) rfl ?_
          refine zz_iload_n (x := 0) rfl zd_3_4_67 ?_
          refine zz_if_eq (by omega) zd_3_4_68 (fun c9 => ?_) (fun c9 => ?_)
          · refine zz_iconst zd_3_4_81 ?_
            refine zz_istore [some (.ref 1076), some (zi 0), some (zi 0), some (zi (S0 (zz_rf 6 (S0 1076 3)) 3)), some (zi (S0 (zz_rf 6 (S0 1076 3)) 4)), some (zi 1)] zd_3_4_82 (by decide) rfl ?_
            refine zz_aload_n (x := 1076) rfl zd_3_4_84 ?_
            have g10 := zz_G.r G_S0 1076 12 (-2147483648) 2147483647 rfl rfl
            refine zz_geti (z := S0 1076 12) zd_3_4_85 zf_Compiler_73 zT_1076 rfl (zz_ltn hn rfl) rfl ?_
            refine zz_istore [some (.ref 1076), some (zi 0), some (zi 0), some (zi (S0 (zz_rf 6 (S0 1076 3)) 3)), some (zi (S0 (zz_rf 6 (S0 1076 3)) 4)), some (zi 1), some (zi (S0 1076 12))] zd_3_4_88 (by decide) rfl ?_
            refine zz_aload_n (x := 1076) rfl zd_3_4_90 ?_
            refine zz_iconst zd_3_4_91 ?_
            refine zz_puti zd_3_4_92 zf_Compiler_106 zT_1076 rfl (zz_ltn hn rfl) (fun S11 qS11 => ?_)
            have G_S11 := zz_G.put G_S0 qS11 (-2147483648) 2147483647 rfl (by omega)
            have F_S11 := zz_fr.puts F_S0 qS11 rfl
            have e12 : S11 1076 13 = 0 := (zz_rs qS11)
            have g13 := zz_G.r G_S0 1076 1 0 1000000 rfl rfl
            have e14 : S11 1076 1 = S0 1076 1 := (zz_ro qS11 (fun h => absurd h.2 (by decide)) rfl)
            refine zz_less (ls1 := [some (.ref 1076), some (zi 0), none, some (zi (S0 (zz_rf 6 (S0 1076 3)) 3)), some (zi (S0 (zz_rf 6 (S0 1076 3)) 4)), some (zi 1), some (zi (S0 1076 12))]) ⟨rfl, ⟨rfl, ⟨rfl, ⟨rfl, ⟨rfl, ⟨rfl, trivial⟩⟩⟩⟩⟩⟩ ?_
            exact k95 0 (S0 (zz_rf 6 (S0 1076 3)) 3) (S0 (zz_rf 6 (S0 1076 3)) 4) 1 S11 G_S11 F_S11 (by omega) (by omega) (by omega) (by omega) (by omega) (by omega)
          · exfalso; omega
        · exfalso; omega
      · exfalso; omega
    · refine zz_iconst zd_3_4_28 ?_
      refine zz_goto zd_3_4_29 ?_
      refine zz_istore_n [some (.ref 1076), some (zi 0), some (zi 1)] zd_3_4_33 (by decide) rfl ?_
      refine zz_iload_n (x := 1) rfl zd_3_4_34 ?_
      refine zz_if_eq (by omega) zd_3_4_35 (fun c15 => ?_) (fun c15 => ?_)
      · exfalso; omega
      · refine zz_iconst zd_3_4_38 ?_
        refine zz_goto zd_3_4_39 ?_
        refine zz_istore_n [some (.ref 1076), some (zi 0), some (zi 1), some (zi 1)] zd_3_4_49 (by decide) rfl ?_
        refine zz_iload_n (x := 1) rfl zd_3_4_50 ?_
        refine zz_if_eq (by omega) zd_3_4_51 (fun c16 => ?_) (fun c16 => ?_)
        · exfalso; omega
        · refine zz_iconst zd_3_4_54 ?_
          refine zz_goto zd_3_4_55 ?_
          refine zz_istore [some (.ref 1076), some (zi 0), some (zi 1), some (zi 1), some (zi 2)] zd_3_4_65 (by decide) rfl ?_
          refine zz_iload_n (x := 0) rfl zd_3_4_67 ?_
          refine zz_if_eq (by omega) zd_3_4_68 (fun c17 => ?_) (fun c17 => ?_)
          · refine zz_iconst zd_3_4_81 ?_
            refine zz_istore [some (.ref 1076), some (zi 0), some (zi 1), some (zi 1), some (zi 2), some (zi 1)] zd_3_4_82 (by decide) rfl ?_
            refine zz_aload_n (x := 1076) rfl zd_3_4_84 ?_
            have g18 := zz_G.r G_S0 1076 12 (-2147483648) 2147483647 rfl rfl
            refine zz_geti (z := S0 1076 12) zd_3_4_85 zf_Compiler_73 zT_1076 rfl (zz_ltn hn rfl) rfl ?_
            refine zz_istore [some (.ref 1076), some (zi 0), some (zi 1), some (zi 1), some (zi 2), some (zi 1), some (zi (S0 1076 12))] zd_3_4_88 (by decide) rfl ?_
            refine zz_aload_n (x := 1076) rfl zd_3_4_90 ?_
            refine zz_iconst zd_3_4_91 ?_
            refine zz_puti zd_3_4_92 zf_Compiler_106 zT_1076 rfl (zz_ltn hn rfl) (fun S19 qS19 => ?_)
            have G_S19 := zz_G.put G_S0 qS19 (-2147483648) 2147483647 rfl (by omega)
            have F_S19 := zz_fr.puts F_S0 qS19 rfl
            have e20 : S19 1076 13 = 0 := (zz_rs qS19)
            have g21 := zz_G.r G_S0 1076 1 0 1000000 rfl rfl
            have e22 : S19 1076 1 = S0 1076 1 := (zz_ro qS19 (fun h => absurd h.2 (by decide)) rfl)
            refine zz_less (ls1 := [some (.ref 1076), some (zi 0), none, some (zi 1), some (zi 2), some (zi 1), some (zi (S0 1076 12))]) ⟨rfl, ⟨rfl, ⟨rfl, ⟨rfl, ⟨rfl, ⟨rfl, trivial⟩⟩⟩⟩⟩⟩ ?_
            exact k95 0 1 2 1 S19 G_S19 F_S19 (by omega) (by omega) (by omega) (by omega) (by omega) (by omega)
          · exfalso; omega
  · refine zz_iconst zd_3_4_11 ?_
    refine zz_goto zd_3_4_12 ?_
    refine zz_istore_n [some (.ref 1076), some (zi 1)] zd_3_4_16 (by decide) rfl ?_
    refine zz_aload_n (x := 1076) rfl zd_3_4_17 ?_
    refine zz_getr (kd := 4) (z := S0 1076 3) zd_3_4_18 zf_Compiler_51 zT_1076 rfl (zz_ltn hn rfl) rfl (by omega) (zz_rf 6 (S0 1076 3)) rfl ?_
    refine zz_geti (z := S0 (zz_rf 6 (S0 1076 3)) 0) zd_3_4_21 zf_Compiler_61 (zT_k6 (by omega)) rfl (zN_k6 hn (by omega)) rfl ?_
    refine zz_iconst zd_3_4_24 ?_
    refine zz_icmp_ne (by omega) (by omega) zd_3_4_25 (fun c23 => ?_) (fun c23 => ?_)
    · refine zz_iconst zd_3_4_32 ?_
      refine zz_istore_n [some (.ref 1076), some (zi 1), some (zi 0)] zd_3_4_33 (by decide) rfl ?_
      refine zz_iload_n (x := 0) rfl zd_3_4_34 ?_
      refine zz_if_eq (by omega) zd_3_4_35 (fun c24 => ?_) (fun c24 => ?_)
      · refine zz_aload_n (x := 1076) rfl zd_3_4_42 ?_
        refine zz_getr (kd := 4) (z := S0 1076 3) zd_3_4_43 zf_Compiler_51 zT_1076 rfl (zz_ltn hn rfl) rfl (by omega) (zz_rf 6 (S0 1076 3)) rfl ?_
        have g25 := zz_G.r G_S0 (zz_rf 6 (S0 1076 3)) 3 (-2147483648) 2147483647 (zR_k6_3 (by omega)) (zB_k6 (by omega))
        refine zz_geti (z := S0 (zz_rf 6 (S0 1076 3)) 3) zd_3_4_46 zf_Compiler_100 (zT_k6 (by omega)) rfl (zN_k6 hn (by omega)) rfl ?_
        refine zz_istore_n [some (.ref 1076), some (zi 1), some (zi 0), some (zi (S0 (zz_rf 6 (S0 1076 3)) 3))] zd_3_4_49 (by decide) rfl ?_
        refine zz_iload_n (x := 0) rfl zd_3_4_50 ?_
        refine zz_if_eq (by omega) zd_3_4_51 (fun c26 => ?_) (fun c26 => ?_)
        · refine zz_aload_n (x := 1076) rfl zd_3_4_58 ?_
          refine zz_getr (kd := 4) (z := S0 1076 3) zd_3_4_59 zf_Compiler_51 zT_1076 rfl (zz_ltn hn rfl) rfl (by omega) (zz_rf 6 (S0 1076 3)) rfl ?_
          have g27 := zz_G.r G_S0 (zz_rf 6 (S0 1076 3)) 4 (-2147483648) 2147483647 (zR_k6_4 (by omega)) (zB_k6 (by omega))
          refine zz_geti (z := S0 (zz_rf 6 (S0 1076 3)) 4) zd_3_4_62 zf_Compiler_103 (zT_k6 (by omega)) rfl (zN_k6 hn (by omega)) rfl ?_
          refine zz_istore [some (.ref 1076), some (zi 1), some (zi 0), some (zi (S0 (zz_rf 6 (S0 1076 3)) 3)), some (zi (S0 (zz_rf 6 (S0 1076 3)) 4))] zd_3_4_65 (by decide) rfl ?_
          refine zz_iload_n (x := 1) rfl zd_3_4_67 ?_
          refine zz_if_eq (by omega) zd_3_4_68 (fun c28 => ?_) (fun c28 => ?_)
          · exfalso; omega
          · refine zz_aload_n (x := 1076) rfl zd_3_4_71 ?_
            have g29 := zz_G.r G_S0 1076 4 (-1) 23 rfl rfl
            refine zz_getr (kd := 4) (z := S0 1076 4) zd_3_4_72 zf_Compiler_55 zT_1076 rfl (zz_ltn hn rfl) rfl (by omega) (zz_rf 6 (S0 1076 4)) rfl ?_
            have g30 := zz_G.r G_S0 (zz_rf 6 (S0 1076 4)) 12 (-2147483648) 2147483647 (zR_k6_12 (by omega)) (zB_k6 (by omega))
            refine zz_geti (z := S0 (zz_rf 6 (S0 1076 4)) 12) zd_3_4_75 zf_Compiler_79 (zT_k6 (by omega)) rfl (zN_k6 hn (by omega)) rfl ?_
            refine zz_goto zd_3_4_78 ?_
            refine zz_istore [some (.ref 1076), some (zi 1), some (zi 0), some (zi (S0 (zz_rf 6 (S0 1076 3)) 3)), some (zi (S0 (zz_rf 6 (S0 1076 3)) 4)), some (zi (S0 (zz_rf 6 (S0 1076 4)) 12))] zd_3_4_82 (by decide) rfl ?_
            refine zz_aload_n (x := 1076) rfl zd_3_4_84 ?_
            have g31 := zz_G.r G_S0 1076 12 (-2147483648) 2147483647 rfl rfl
            refine zz_geti (z := S0 1076 12) zd_3_4_85 zf_Compiler_73 zT_1076 rfl (zz_ltn hn rfl) rfl ?_
            refine zz_istore [some (.ref 1076), some (zi 1), some (zi 0), some (zi (S0 (zz_rf 6 (S0 1076 3)) 3)), some (zi (S0 (zz_rf 6 (S0 1076 3)) 4)), some (zi (S0 (zz_rf 6 (S0 1076 4)) 12)), some (zi (S0 1076 12))] zd_3_4_88 (by decide) rfl ?_
            refine zz_aload_n (x := 1076) rfl zd_3_4_90 ?_
            refine zz_iconst zd_3_4_91 ?_
            refine zz_puti zd_3_4_92 zf_Compiler_106 zT_1076 rfl (zz_ltn hn rfl) (fun S32 qS32 => ?_)
            have G_S32 := zz_G.put G_S0 qS32 (-2147483648) 2147483647 rfl (by omega)
            have F_S32 := zz_fr.puts F_S0 qS32 rfl
            have e33 : S32 1076 13 = 0 := (zz_rs qS32)
            have g34 := zz_G.r G_S0 1076 1 0 1000000 rfl rfl
            have e35 : S32 1076 1 = S0 1076 1 := (zz_ro qS32 (fun h => absurd h.2 (by decide)) rfl)
            refine zz_less (ls1 := [some (.ref 1076), some (zi 1), none, some (zi (S0 (zz_rf 6 (S0 1076 3)) 3)), some (zi (S0 (zz_rf 6 (S0 1076 3)) 4)), some (zi (S0 (zz_rf 6 (S0 1076 4)) 12)), some (zi (S0 1076 12))]) ⟨rfl, ⟨rfl, ⟨rfl, ⟨rfl, ⟨rfl, ⟨rfl, trivial⟩⟩⟩⟩⟩⟩ ?_
            exact k95 1 (S0 (zz_rf 6 (S0 1076 3)) 3) (S0 (zz_rf 6 (S0 1076 3)) 4) (S0 (zz_rf 6 (S0 1076 4)) 12) S32 G_S32 F_S32 (by omega) (by omega) (by omega) (by omega) (by omega) (by omega)
        · exfalso; omega
      · exfalso; omega
    · exfalso; omega
theorem zk_Compiler_94 : mm_Vl "TensorForge$Compiler" 94 9 0 zy_makeTile_3_4 := ⟨zyw_makeTile_3_4, (R_Compiler, F_Compiler, 17), rfl, mm_tb_1 1416 (by decide +kernel) rfl, mm_tb_1 1418 (by decide +kernel) rfl, mm_tb_s 63 (by decide +kernel) rfl⟩
theorem zd_3_3_274 : zz_D zy_makeLayer_3_3 274 (.aload_n 0) 1 275 := ⟨by decide +kernel, rfl⟩
theorem zd_3_3_275 : zz_D zy_makeLayer_3_3 275 (.dup) 1 276 := ⟨by decide +kernel, rfl⟩
theorem zd_3_3_276 : zz_D zy_makeLayer_3_3 276 (.getfield 88) 3 279 := ⟨by decide +kernel, rfl⟩
theorem zd_3_3_279 : zz_D zy_makeLayer_3_3 279 (.iload 6) 2 281 := ⟨by decide +kernel, rfl⟩
theorem zd_3_3_281 : zz_D zy_makeLayer_3_3 281 (.iadd) 1 282 := ⟨by decide +kernel, rfl⟩
theorem zd_3_3_282 : zz_D zy_makeLayer_3_3 282 (.putfield 88) 3 285 := ⟨by decide +kernel, rfl⟩
theorem zd_3_3_285 : zz_B zy_makeLayer_3_3 285 Instr.goto 234 288 := ⟨(-51), by decide +kernel, rfl, rfl⟩
theorem zd_3_3_253 : zz_D zy_makeLayer_3_3 253 (.return_) 1 254 := ⟨by decide +kernel, rfl⟩

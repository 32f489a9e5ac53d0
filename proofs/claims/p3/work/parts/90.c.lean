-- TensorForge$Compiler clearPlaces (II)V
abbrev zr_clearPlaces_3_9 : Room := { frames := 1, cells := 0, slots := 0, locals := 16 }
def zp_clearPlaces_3_9 (p0 : Int) (p1 : Int) (S0 : zz_S) : zz_S → Prop := fun S => zz_G S ∧ zz_fr [(1076, 1)] [] (fun a i => a = zz_rf 4 (S0 1076 0)) S0 S ∧ (S0 1076 1 ≤ S 1076 1 ∧ S 1076 1 ≤ S0 1076 1 + 1)
theorem zc_clearPlaces_3_9 {g : mm_G} {l : Launch} (p0 : Int) (p1 : Int) (S0 : zz_S) (n : Nat) (hn : zz_end ≤ n) (G_S0 : zz_G S0) (hp0 : (-2147483648) ≤ p0 ∧ p0 ≤ 2147483647) (hp1 : (-2147483648) ≤ p1 ∧ p1 ≤ 2147483647) (hq : S0 1076 1 ≤ 900000) (hl : 0 ≤ S0 1076 3 ∧ 0 ≤ S0 1076 4 ∧ 0 ≤ S0 1076 5) : mm_Met g l zy_clearPlaces_3_9 zr_clearPlaces_3_9 [.ref 1076, zi p0, zi p1] (zz_M S0 n) n (zz_QV n (zp_clearPlaces_3_9 p0 p1 S0)) := by
  refine zz_enter (by decide) (Nat.le_of_ble_eq_true rfl) (zz_less (ls1 := [some (.ref 1076), some (zi p0), some (zi p1)]) ⟨rfl, ⟨rfl, ⟨rfl, trivial⟩⟩⟩ ?_)
  have F_S0 : zz_fr [(1076, 1)] [] (fun a i => a = zz_rf 4 (S0 1076 0)) S0 S0 := zz_fr.refl
  refine zz_iload_n (x := p1) rfl zd_3_9_0 ?_
  refine zz_iload_n (x := p0) rfl zd_3_9_1 ?_
  refine zz_icmp_le (by omega) (by omega) zd_3_9_2 (fun c1 => ?_) (fun c1 => ?_)
  · have g2 := zz_G.r G_S0 1076 1 0 1000000 rfl rfl
    exact zz_vret zd_3_9_37 rfl (Nat.zero_le _) (Nat.zero_le _) ⟨_, rfl, G_S0, F_S0, by omega⟩
  · refine zz_aload_n (x := 1076) rfl zd_3_9_5 ?_
    refine zz_iconst zd_3_9_6 ?_
    refine zz_iload_n (x := p1) rfl zd_3_9_7 ?_
    refine zz_iload_n (x := p0) rfl zd_3_9_8 ?_
    refine zz_isub zd_3_9_9 ?_
    refine zz_nrm (fun v3 hv3 ev3 => ?_)
    refine zz_aload_n (x := 1076) rfl zd_3_9_10 ?_
    have g4 := zz_G.r G_S0 1076 16 (-2147483648) 2147483647 rfl rfl
    refine zz_geti (z := S0 1076 16) zd_3_9_11 zf_Compiler_115 zT_1076 rfl (zz_ltn hn rfl) rfl ?_
    refine zz_callSJ [zi 3, zi v3, zi (S0 1076 16)] zd_3_9_14 zk_Compiler_128 rfl rfl ⟨Nat.le_of_ble_eq_true rfl, Nat.le_of_ble_eq_true rfl⟩ ⟨rfl, rfl⟩ (Nat.zero_le _) (Nat.zero_le _) (zc_shaped_12_6 3 v3 (S0 1076 16) S0 n hn G_S0 (by omega) (by omega) (by omega)) (fun v6 S5 hP => ?_)
    obtain ⟨rfl, o7⟩ := hP
    refine zz_bipush (by decide) zd_3_9_17 ?_
    refine zz_aload_n (x := 1076) rfl zd_3_9_19 ?_
    refine zz_callVI [] zd_3_9_20 zk_Compiler_175 zT_1076 (zz_ltn hn rfl) rfl rfl ⟨Nat.le_of_ble_eq_true rfl, Nat.le_of_ble_eq_true rfl⟩ ⟨rfl, rfl⟩ (Nat.zero_le _) (Nat.zero_le _) (zc_groupHalf_3_14  S0 n hn G_S0 ) (fun v9 S8 hP => ?_)
    obtain ⟨rfl, o10⟩ := hP
    refine zz_iload_n (x := p0) rfl zd_3_9_23 ?_
    refine zz_aload_n (x := 1076) rfl zd_3_9_24 ?_
    have g11 := zz_G.r G_S0 1076 2 2 8 rfl rfl
    refine zz_geti (z := S0 1076 2) zd_3_9_25 zf_Compiler_21 zT_1076 rfl (zz_ltn hn rfl) rfl ?_
    refine zz_imul zd_3_9_28 ?_
    refine zz_nrm (fun v12 hv12 ev12 => ?_)
    refine zz_iadd zd_3_9_29 ?_
    refine zz_nrm (fun v13 hv13 ev13 => ?_)
    refine zz_callSJ [zi 8, zi v13] zd_3_9_30 zk_Compiler_132 rfl rfl ⟨Nat.le_of_ble_eq_true rfl, Nat.le_of_ble_eq_true rfl⟩ ⟨rfl, rfl⟩ (Nat.zero_le _) (Nat.zero_le _) (zc_bits_12_4 8 v13 S0 n hn G_S0 (by omega) (by omega)) (fun v15 S14 hP => ?_)
    obtain ⟨rfl, o16⟩ := hP
    refine zz_lor zd_3_9_33 (fun v17 hv17 ev17 => ?_)
    have g18 := zz_G.r G_S0 1076 1 0 1000000 rfl rfl
    refine zz_callVV [zl v17] zd_3_9_34 zk_Compiler_143 zT_1076 (zz_ltn hn rfl) rfl rfl ⟨Nat.le_of_ble_eq_true rfl, Nat.le_of_ble_eq_true rfl⟩ ⟨rfl, rfl⟩ (Nat.zero_le _) (Nat.zero_le _) (zc_emit_3_15 v17 S0 n hn G_S0 (by omega) (by omega)) (fun S19 hP => ?_)
    obtain ⟨G_S19, fS19, o21⟩ := hP
    have F_S19 := zz_fr.trans F_S0 fS19 rfl (fun a i h => Or.inr (Or.inr (h)))
    have b22 := zz_rf4 (z := (S0 1076 0)) (by omega)
    have g23 := zz_G.r G_S19 1076 1 0 1000000 rfl rfl
    exact zz_vret zd_3_9_37 rfl (Nat.zero_le _) (Nat.zero_le _) ⟨_, rfl, G_S19, F_S19, by omega⟩
theorem zk_Compiler_188 : mm_Vl "TensorForge$Compiler" 188 9 2 zy_clearPlaces_3_9 := ⟨zyw_clearPlaces_3_9, (R_Compiler, F_Compiler, 17), rfl, mm_tb_1 1450 (by decide +kernel) rfl, mm_tb_1 1452 (by decide +kernel) rfl, mm_tb_s 70 (by decide +kernel) rfl⟩
theorem zd_3_7_50 : zz_D zy_loadMet_3_7 50 (.return_) 1 51 := ⟨by decide +kernel, rfl⟩
theorem zd_3_7_30 : zz_D zy_loadMet_3_7 30 (.iload_n 2) 1 31 := ⟨by decide +kernel, rfl⟩
theorem zd_3_7_31 : zz_D zy_loadMet_3_7 31 (.aload_n 0) 1 32 := ⟨by decide +kernel, rfl⟩
theorem zd_3_7_32 : zz_D zy_loadMet_3_7 32 (.getfield 55) 3 35 := ⟨by decide +kernel, rfl⟩
theorem zd_3_7_35 : zz_D zy_loadMet_3_7 35 (.getfield 64) 3 38 := ⟨by decide +kernel, rfl⟩
theorem zd_3_7_38 : zz_B zy_loadMet_3_7 38 (Instr.if_icmp .lt) 51 41 := ⟨13, by decide +kernel, rfl, rfl⟩
theorem zd_3_7_51 : zz_D zy_loadMet_3_7 51 (.iconst 0) 1 52 := ⟨by decide +kernel, rfl⟩
theorem zd_3_7_52 : zz_D zy_loadMet_3_7 52 (.istore_n 3) 1 53 := ⟨by decide +kernel, rfl⟩
theorem zd_3_7_53 : zz_D zy_loadMet_3_7 53 (.iload_n 3) 1 54 := ⟨by decide +kernel, rfl⟩
theorem zd_3_7_54 : zz_D zy_loadMet_3_7 54 (.aload_n 0) 1 55 := ⟨by decide +kernel, rfl⟩
theorem zd_3_7_55 : zz_D zy_loadMet_3_7 55 (.getfield 91) 3 58 := ⟨by decide +kernel, rfl⟩
theorem zd_3_7_58 : zz_B zy_loadMet_3_7 58 (Instr.if_icmp .ge) 75 61 := ⟨17, by decide +kernel, rfl, rfl⟩
theorem zd_3_7_75 : zz_D zy_loadMet_3_7 75 (.iload_n 3) 1 76 := ⟨by decide +kernel, rfl⟩
theorem zd_3_7_76 : zz_D zy_loadMet_3_7 76 (.istore 4) 2 78 := ⟨by decide +kernel, rfl⟩
theorem zd_3_7_61 : zz_D zy_loadMet_3_7 61 (.aload_n 0) 1 62 := ⟨by decide +kernel, rfl⟩
theorem zd_3_7_62 : zz_D zy_loadMet_3_7 62 (.iload_n 3) 1 63 := ⟨by decide +kernel, rfl⟩
theorem zd_3_7_63 : zz_D zy_loadMet_3_7 63 (.invokevirtual 191) 3 66 := ⟨by decide +kernel, rfl⟩
abbrev zy_metColumn_3_8 : mm_Y := (⟨"TensorForge$Compiler", "metColumn", "(I)I"⟩, prog_3_method_8_code, 2, (some .int))
theorem zyw_metColumn_3_8 : mm_Yw zy_metColumn_3_8 1 := ⟨mm_tb_1 1457 (by decide +kernel) rfl, mm_tb_1 10 (by decide +kernel) rfl, ⟨by decide, by decide⟩, by decide +kernel⟩
theorem zd_3_8_0 : zz_D zy_metColumn_3_8 0 (.aload_n 0) 1 1 := ⟨by decide +kernel, rfl⟩
theorem zd_3_8_1 : zz_D zy_metColumn_3_8 1 (.getfield 51) 3 4 := ⟨by decide +kernel, rfl⟩
theorem zd_3_8_4 : zz_D zy_metColumn_3_8 4 (.getfield 182) 3 7 := ⟨by decide +kernel, rfl⟩
theorem zd_3_8_7 : zz_D zy_metColumn_3_8 7 (.aload_n 0) 1 8 := ⟨by decide +kernel, rfl⟩
theorem zd_3_8_8 : zz_D zy_metColumn_3_8 8 (.getfield 88) 3 11 := ⟨by decide +kernel, rfl⟩
theorem zd_3_8_11 : zz_D zy_metColumn_3_8 11 (.iload_n 1) 1 12 := ⟨by decide +kernel, rfl⟩
theorem zd_3_8_12 : zz_D zy_metColumn_3_8 12 (.iadd) 1 13 := ⟨by decide +kernel, rfl⟩
theorem zd_3_8_13 : zz_D zy_metColumn_3_8 13 (.imul) 1 14 := ⟨by decide +kernel, rfl⟩
theorem zd_3_8_14 : zz_D zy_metColumn_3_8 14 (.aload_n 0) 1 15 := ⟨by decide +kernel, rfl⟩
theorem zd_3_8_15 : zz_D zy_metColumn_3_8 15 (.getfield 109) 3 18 := ⟨by decide +kernel, rfl⟩
theorem zd_3_8_18 : zz_D zy_metColumn_3_8 18 (.iadd) 1 19 := ⟨by decide +kernel, rfl⟩
theorem zd_3_8_19 : zz_D zy_metColumn_3_8 19 (.aload_n 0) 1 20 := ⟨by decide +kernel, rfl⟩
theorem zd_3_8_20 : zz_D zy_metColumn_3_8 20 (.getfield 51) 3 23 := ⟨by decide +kernel, rfl⟩
theorem zd_3_8_23 : zz_D zy_metColumn_3_8 23 (.getfield 185) 3 26 := ⟨by decide +kernel, rfl⟩
theorem zd_3_8_26 : zz_D zy_metColumn_3_8 26 (.isub) 1 27 := ⟨by decide +kernel, rfl⟩
theorem zd_3_8_27 : zz_D zy_metColumn_3_8 27 (.ireturn) 1 28 := ⟨by decide +kernel, rfl⟩
-- TensorForge$Compiler metColumn (I)I
abbrev zr_metColumn_3_8 : Room := { frames := 0, cells := 0, slots := 0, locals := 0 }
def zp_metColumn_3_8 (p0 : Int) (S0 : zz_S) : Int → zz_S → Prop := fun r S => S0 = S ∧ ((-2147483648) ≤ r ∧ r ≤ 2147483647)
theorem zc_metColumn_3_8 {g : mm_G} {l : Launch} (p0 : Int) (S0 : zz_S) (n : Nat) (hn : zz_end ≤ n) (G_S0 : zz_G S0) (hp0 : (-2147483648) ≤ p0 ∧ p0 ≤ 2147483647) (hl : 0 ≤ S0 1076 3 ∧ 0 ≤ S0 1076 4 ∧ 0 ≤ S0 1076 5) : mm_Met g l zy_metColumn_3_8 zr_metColumn_3_8 [.ref 1076, zi p0] (zz_M S0 n) n (zz_QI n (zp_metColumn_3_8 p0 S0)) := by
  refine zz_enter (by decide) (Nat.le_of_ble_eq_true rfl) (zz_less (ls1 := [some (.ref 1076), some (zi p0)]) ⟨rfl, ⟨rfl, trivial⟩⟩ ?_)
  refine zz_aload_n (x := 1076) rfl zd_3_8_0 ?_
  have g1 := zz_G.r G_S0 1076 3 (-1) 23 rfl rfl
  refine zz_getr (kd := 4) (z := S0 1076 3) zd_3_8_1 zf_Compiler_51 zT_1076 rfl (zz_ltn hn rfl) rfl (by omega) (zz_rf 6 (S0 1076 3)) rfl ?_
  have g2 := zz_G.r G_S0 (zz_rf 6 (S0 1076 3)) 5 (-2147483648) 2147483647 (zR_k6_5 (by omega)) (zB_k6 (by omega))
  refine zz_geti (z := S0 (zz_rf 6 (S0 1076 3)) 5) zd_3_8_4 zf_Compiler_182 (zT_k6 (by omega)) rfl (zN_k6 hn (by omega)) rfl ?_
  refine zz_aload_n (x := 1076) rfl zd_3_8_7 ?_
  have g3 := zz_G.r G_S0 1076 10 (-2147483648) 2147483647 rfl rfl
  refine zz_geti (z := S0 1076 10) zd_3_8_8 zf_Compiler_88 zT_1076 rfl (zz_ltn hn rfl) rfl ?_
  refine zz_iload_n (x := p0) rfl zd_3_8_11 ?_
  refine zz_iadd zd_3_8_12 ?_
  refine zz_nrm (fun v4 hv4 ev4 => ?_)
  refine zz_imul zd_3_8_13 ?_
  refine zz_nrm (fun v5 hv5 ev5 => ?_)
  refine zz_aload_n (x := 1076) rfl zd_3_8_14 ?_
  have g6 := zz_G.r G_S0 1076 14 (-2147483648) 2147483647 rfl rfl
  refine zz_geti (z := S0 1076 14) zd_3_8_15 zf_Compiler_109 zT_1076 rfl (zz_ltn hn rfl) rfl ?_
  refine zz_iadd zd_3_8_18 ?_
  refine zz_nrm (fun v7 hv7 ev7 => ?_)
  refine zz_aload_n (x := 1076) rfl zd_3_8_19 ?_
  refine zz_getr (kd := 4) (z := S0 1076 3) zd_3_8_20 zf_Compiler_51 zT_1076 rfl (zz_ltn hn rfl) rfl (by omega) (zz_rf 6 (S0 1076 3)) rfl ?_
  have g8 := zz_G.r G_S0 (zz_rf 6 (S0 1076 3)) 6 (-2147483648) 2147483647 (zR_k6_6 (by omega)) (zB_k6 (by omega))
  refine zz_geti (z := S0 (zz_rf 6 (S0 1076 3)) 6) zd_3_8_23 zf_Compiler_185 (zT_k6 (by omega)) rfl (zN_k6 hn (by omega)) rfl ?_
  refine zz_isub zd_3_8_26 ?_
  refine zz_nrm (fun v9 hv9 ev9 => ?_)
  exact zz_iret zd_3_8_27 rfl (Nat.zero_le _) (Nat.zero_le _) ⟨_, _, rfl, rfl, by omega⟩
theorem zk_Compiler_191 : mm_Vl "TensorForge$Compiler" 191 9 1 zy_metColumn_3_8 := ⟨zyw_metColumn_3_8, (R_Compiler, F_Compiler, 17), rfl, mm_tb_1 1454 (by decide +kernel) rfl, mm_tb_1 1456 (by decide +kernel) rfl, mm_tb_s 71 (by decide +kernel) rfl⟩
theorem zd_3_7_66 : zz_B zy_loadMet_3_7 66 (Instr.ifCond .ge) 75 69 := ⟨9, by decide +kernel, rfl, rfl⟩
theorem zd_3_7_69 : zz_D zy_loadMet_3_7 69 (.iinc 3 1) 3 72 := ⟨by decide +kernel, rfl⟩
theorem zd_3_7_72 : zz_B zy_loadMet_3_7 72 Instr.goto 53 75 := ⟨(-19), by decide +kernel, rfl, rfl⟩
theorem zd_3_7_78 : zz_D zy_loadMet_3_7 78 (.iload 4) 2 80 := ⟨by decide +kernel, rfl⟩
theorem zd_3_7_80 : zz_D zy_loadMet_3_7 80 (.aload_n 0) 1 81 := ⟨by decide +kernel, rfl⟩
theorem zd_3_7_81 : zz_D zy_loadMet_3_7 81 (.getfield 91) 3 84 := ⟨by decide +kernel, rfl⟩
theorem zd_3_7_84 : zz_B zy_loadMet_3_7 84 (Instr.if_icmp .ge) 109 87 := ⟨25, by decide +kernel, rfl, rfl⟩
theorem zd_3_7_109 : zz_D zy_loadMet_3_7 109 (.aload_n 0) 1 110 := ⟨by decide +kernel, rfl⟩
theorem zd_3_7_110 : zz_D zy_loadMet_3_7 110 (.iconst 0) 1 111 := ⟨by decide +kernel, rfl⟩
theorem zd_3_7_111 : zz_D zy_loadMet_3_7 111 (.iload_n 3) 1 112 := ⟨by decide +kernel, rfl⟩
theorem zd_3_7_112 : zz_D zy_loadMet_3_7 112 (.invokevirtual 188) 3 115 := ⟨by decide +kernel, rfl⟩
theorem zd_3_7_115 : zz_D zy_loadMet_3_7 115 (.aload_n 0) 1 116 := ⟨by decide +kernel, rfl⟩
theorem zd_3_7_116 : zz_D zy_loadMet_3_7 116 (.iload_n 3) 1 117 := ⟨by decide +kernel, rfl⟩
theorem zd_3_7_117 : zz_D zy_loadMet_3_7 117 (.iload 4) 2 119 := ⟨by decide +kernel, rfl⟩
theorem zd_3_7_119 : zz_D zy_loadMet_3_7 119 (.aload_n 0) 1 120 := ⟨by decide +kernel, rfl⟩
theorem zd_3_7_120 : zz_D zy_loadMet_3_7 120 (.getfield 55) 3 123 := ⟨by decide +kernel, rfl⟩
theorem zd_3_7_123 : zz_D zy_loadMet_3_7 123 (.iload_n 2) 1 124 := ⟨by decide +kernel, rfl⟩
theorem zd_3_7_124 : zz_D zy_loadMet_3_7 124 (.aload_n 0) 1 125 := ⟨by decide +kernel, rfl⟩
theorem zd_3_7_125 : zz_D zy_loadMet_3_7 125 (.iload_n 3) 1 126 := ⟨by decide +kernel, rfl⟩
theorem zd_3_7_126 : zz_D zy_loadMet_3_7 126 (.invokevirtual 191) 3 129 := ⟨by decide +kernel, rfl⟩
theorem zd_3_7_129 : zz_D zy_loadMet_3_7 129 (.iload_n 1) 1 130 := ⟨by decide +kernel, rfl⟩
theorem zd_3_7_130 : zz_D zy_loadMet_3_7 130 (.invokevirtual 147) 3 133 := ⟨by decide +kernel, rfl⟩
theorem zd_3_7_133 : zz_D zy_loadMet_3_7 133 (.aload_n 0) 1 134 := ⟨by decide +kernel, rfl⟩
theorem zd_3_7_134 : zz_D zy_loadMet_3_7 134 (.getfield 51) 3 137 := ⟨by decide +kernel, rfl⟩
theorem zd_3_7_137 : zz_D zy_loadMet_3_7 137 (.getfield 182) 3 140 := ⟨by decide +kernel, rfl⟩
theorem zd_3_7_140 : zz_D zy_loadMet_3_7 140 (.aload_n 0) 1 141 := ⟨by decide +kernel, rfl⟩
theorem zd_3_7_141 : zz_D zy_loadMet_3_7 141 (.getfield 55) 3 144 := ⟨by decide +kernel, rfl⟩
theorem zd_3_7_144 : zz_D zy_loadMet_3_7 144 (.getfield 79) 3 147 := ⟨by decide +kernel, rfl⟩
theorem zd_3_7_147 : zz_D zy_loadMet_3_7 147 (.imul) 1 148 := ⟨by decide +kernel, rfl⟩
theorem zd_3_7_148 : zz_D zy_loadMet_3_7 148 (.invokevirtual 159) 3 151 := ⟨by decide +kernel, rfl⟩
theorem zd_3_7_151 : zz_D zy_loadMet_3_7 151 (.aload_n 0) 1 152 := ⟨by decide +kernel, rfl⟩
theorem zd_3_7_152 : zz_D zy_loadMet_3_7 152 (.iload 4) 2 154 := ⟨by decide +kernel, rfl⟩
theorem zd_3_7_154 : zz_D zy_loadMet_3_7 154 (.aload_n 0) 1 155 := ⟨by decide +kernel, rfl⟩
theorem zd_3_7_155 : zz_D zy_loadMet_3_7 155 (.getfield 91) 3 158 := ⟨by decide +kernel, rfl⟩
theorem zd_3_7_158 : zz_D zy_loadMet_3_7 158 (.invokevirtual 188) 3 161 := ⟨by decide +kernel, rfl⟩
theorem zd_3_7_161 : zz_D zy_loadMet_3_7 161 (.return_) 1 162 := ⟨by decide +kernel, rfl⟩
theorem zd_3_7_87 : zz_D zy_loadMet_3_7 87 (.aload_n 0) 1 88 := ⟨by decide +kernel, rfl⟩
theorem zd_3_7_88 : zz_D zy_loadMet_3_7 88 (.iload 4) 2 90 := ⟨by decide +kernel, rfl⟩
theorem zd_3_7_90 : zz_D zy_loadMet_3_7 90 (.invokevirtual 191) 3 93 := ⟨by decide +kernel, rfl⟩
theorem zd_3_7_93 : zz_D zy_loadMet_3_7 93 (.aload_n 0) 1 94 := ⟨by decide +kernel, rfl⟩
theorem zd_3_7_94 : zz_D zy_loadMet_3_7 94 (.getfield 55) 3 97 := ⟨by decide +kernel, rfl⟩
theorem zd_3_7_97 : zz_D zy_loadMet_3_7 97 (.getfield 67) 3 100 := ⟨by decide +kernel, rfl⟩
theorem zd_3_7_100 : zz_B zy_loadMet_3_7 100 (Instr.if_icmp .ge) 109 103 := ⟨9, by decide +kernel, rfl, rfl⟩
theorem zd_3_7_103 : zz_D zy_loadMet_3_7 103 (.iinc 4 1) 3 106 := ⟨by decide +kernel, rfl⟩
theorem zd_3_7_106 : zz_B zy_loadMet_3_7 106 Instr.goto 78 109 := ⟨(-28), by decide +kernel, rfl, rfl⟩
-- TensorForge$Compiler loadMet (I)V
abbrev zr_loadMet_3_7 : Room := { frames := 2, cells := 0, slots := 0, locals := 32 }
def zp_loadMet_3_7 (p0 : Int) (S0 : zz_S) : zz_S → Prop := fun S => zz_G S ∧ zz_fr [(1076, 1)] [1029, 1030] (fun a i => a = zz_rf 4 (S0 1076 0)) S0 S ∧ (S0 1076 1 ≤ S 1076 1 ∧ S 1076 1 ≤ S0 1076 1 + 3)
theorem zb_loadMet_3_7_53 {g : mm_G} {l : Launch} (p0 : Int) (S0 : zz_S) (n : Nat) (hn : zz_end ≤ n) (G_S0 : zz_G S0) (hp0 : (-2147483648) ≤ p0 ∧ p0 ≤ 2147483647) (hq : S0 1076 1 ≤ 900000) (hl : 0 ≤ S0 1076 3 ∧ 0 ≤ S0 1076 4 ∧ 0 ≤ S0 1076 5) (x2 : Int) (x3 : Int) (S : zz_S) (G_S : zz_G S) (F_S : zz_fr [(1076, 1)] [1029, 1030] (fun a i => a = zz_rf 4 (S0 1076 0)) S0 S) (i53_0 : 0 ≤ x2 ∧ x2 ≤ 2147483646) (i53_1 : 0 ≤ x3 ∧ x3 ≤ 2147483647) (R : Nat) (hR : (34359738368 + (S0 1076 11 - x3).toNat) = R) (k53 : ∀ (x2 : Int) (x3 : Int) (S : zz_S), zz_G S → zz_fr [(1076, 1)] [1029, 1030] (fun a i => a = zz_rf 4 (S0 1076 0)) S0 S → (0 ≤ x2 ∧ x2 ≤ 2147483646) → (0 ≤ x3 ∧ x3 ≤ 2147483647) → (34359738368 + (S0 1076 11 - x3).toNat) < R → zz_E g l zy_loadMet_3_7 zr_loadMet_3_7 (zz_QV n (zp_loadMet_3_7 p0 S0)) S n 53 [some (.ref 1076), some (zi p0), some (zi x2), some (zi x3)] [] 0 0) (k78 : ∀ (x2 : Int) (x3 : Int) (x4 : Int) (S : zz_S), zz_G S → zz_fr [(1076, 1)] [1029, 1030] (fun a i => a = zz_rf 4 (S0 1076 0)) S0 S → (0 ≤ x2 ∧ x2 ≤ 2147483646) → (0 ≤ x3 ∧ x3 ≤ 2147483647) → (0 ≤ x4 ∧ x4 ≤ 2147483647) → (17179869184 + (S0 1076 11 - x4).toNat) < R → zz_E g l zy_loadMet_3_7 zr_loadMet_3_7 (zz_QV n (zp_loadMet_3_7 p0 S0)) S n 78 [some (.ref 1076), some (zi p0), some (zi x2), some (zi x3), some (zi x4)] [] 0 0) : zz_E g l zy_loadMet_3_7 zr_loadMet_3_7 (zz_QV n (zp_loadMet_3_7 p0 S0)) S n 53 [some (.ref 1076), some (zi p0), some (zi x2), some (zi x3)] [] 0 0 := by
  refine zz_iload_n (x := x3) rfl zd_3_7_53 ?_
  refine zz_aload_n (x := 1076) rfl zd_3_7_54 ?_
  have g31 := zz_G.r G_S0 1076 11 (-2147483648) 2147483647 rfl rfl
  refine zz_geti (z := S0 1076 11) zd_3_7_55 zf_Compiler_91 zT_1076 rfl (zz_ltn hn rfl) (zz_rc F_S rfl rfl (by omega) rfl) ?_
  refine zz_icmp_ge (by omega) (by omega) zd_3_7_58 (fun c32 => ?_) (fun c32 => ?_)
  · refine zz_iload_n (x := x3) rfl zd_3_7_75 ?_
    refine zz_istore [some (.ref 1076), some (zi p0), some (zi x2), some (zi x3), some (zi x3)] zd_3_7_76 (by decide) rfl ?_
    refine zz_less (ls1 := [some (.ref 1076), some (zi p0), some (zi x2), some (zi x3), some (zi x3)]) ⟨rfl, ⟨rfl, ⟨rfl, ⟨rfl, ⟨rfl, trivial⟩⟩⟩⟩⟩ ?_
    exact k78 x2 x3 x3 S G_S F_S (by omega) (by omega) (by omega) (by omega)
  · refine zz_aload_n (x := 1076) rfl zd_3_7_61 ?_
    refine zz_iload_n (x := x3) rfl zd_3_7_62 ?_
    have g33 := zz_G.r G_S0 1076 3 (-1) 23 rfl rfl
    have e34 : S 1076 3 = S0 1076 3 := (zz_rc F_S rfl rfl (by omega) rfl)
    have g35 := zz_G.r G_S0 1076 4 (-1) 23 rfl rfl
    have e36 : S 1076 4 = S0 1076 4 := (zz_rc F_S rfl rfl (by omega) rfl)
    have g37 := zz_G.r G_S0 1076 5 (-1) 23 rfl rfl
    have e38 : S 1076 5 = S0 1076 5 := (zz_rc F_S rfl rfl (by omega) rfl)
    refine zz_callVI [zi x3] zd_3_7_63 zk_Compiler_191 zT_1076 (zz_ltn hn rfl) rfl rfl ⟨Nat.le_of_ble_eq_true rfl, Nat.le_of_ble_eq_true rfl⟩ ⟨rfl, rfl⟩ (Nat.zero_le _) (Nat.zero_le _) (zc_metColumn_3_8 x3 S n hn G_S (by omega) (by omega)) (fun v40 S39 hP => ?_)
    obtain ⟨rfl, o41⟩ := hP
    refine zz_if_ge (by omega) zd_3_7_66 (fun c42 => ?_) (fun c42 => ?_)
    · refine zz_iload_n (x := x3) rfl zd_3_7_75 ?_
      refine zz_istore [some (.ref 1076), some (zi p0), some (zi x2), some (zi x3), some (zi x3)] zd_3_7_76 (by decide) rfl ?_
      refine zz_less (ls1 := [some (.ref 1076), some (zi p0), some (zi x2), some (zi x3), some (zi x3)]) ⟨rfl, ⟨rfl, ⟨rfl, ⟨rfl, ⟨rfl, trivial⟩⟩⟩⟩⟩ ?_
      exact k78 x2 x3 x3 S G_S F_S (by omega) (by omega) (by omega) (by omega)
    · refine zz_iinc [some (.ref 1076), some (zi p0), some (zi x2), some (zi (x3 + 1))] zd_3_7_69 rfl rfl ?_
      refine zz_goto zd_3_7_72 ?_
      refine zz_less (ls1 := [some (.ref 1076), some (zi p0), some (zi x2), some (zi (x3 + 1))]) ⟨rfl, ⟨rfl, ⟨rfl, ⟨rfl, trivial⟩⟩⟩⟩ ?_
      exact k53 x2 (x3 + 1) S G_S F_S (by omega) (by omega) (by omega)
theorem zb_loadMet_3_7_78 {g : mm_G} {l : Launch} (p0 : Int) (S0 : zz_S) (n : Nat) (hn : zz_end ≤ n) (G_S0 : zz_G S0) (hp0 : (-2147483648) ≤ p0 ∧ p0 ≤ 2147483647) (hq : S0 1076 1 ≤ 900000) (hl : 0 ≤ S0 1076 3 ∧ 0 ≤ S0 1076 4 ∧ 0 ≤ S0 1076 5) (x2 : Int) (x3 : Int) (x4 : Int) (S : zz_S) (G_S : zz_G S) (F_S : zz_fr [(1076, 1)] [1029, 1030] (fun a i => a = zz_rf 4 (S0 1076 0)) S0 S) (i78_0 : 0 ≤ x2 ∧ x2 ≤ 2147483646) (i78_1 : 0 ≤ x3 ∧ x3 ≤ 2147483647) (i78_2 : 0 ≤ x4 ∧ x4 ≤ 2147483647) (R : Nat) (hR : (17179869184 + (S0 1076 11 - x4).toNat) = R) (k78 : ∀ (x2 : Int) (x3 : Int) (x4 : Int) (S : zz_S), zz_G S → zz_fr [(1076, 1)] [1029, 1030] (fun a i => a = zz_rf 4 (S0 1076 0)) S0 S → (0 ≤ x2 ∧ x2 ≤ 2147483646) → (0 ≤ x3 ∧ x3 ≤ 2147483647) → (0 ≤ x4 ∧ x4 ≤ 2147483647) → (17179869184 + (S0 1076 11 - x4).toNat) < R → zz_E g l zy_loadMet_3_7 zr_loadMet_3_7 (zz_QV n (zp_loadMet_3_7 p0 S0)) S n 78 [some (.ref 1076), some (zi p0), some (zi x2), some (zi x3), some (zi x4)] [] 0 0) : zz_E g l zy_loadMet_3_7 zr_loadMet_3_7 (zz_QV n (zp_loadMet_3_7 p0 S0)) S n 78 [some (.ref 1076), some (zi p0), some (zi x2), some (zi x3), some (zi x4)] [] 0 0 := by
  refine zz_iload (x := x4) rfl zd_3_7_78 ?_
  refine zz_aload_n (x := 1076) rfl zd_3_7_80 ?_
  have g43 := zz_G.r G_S0 1076 11 (-2147483648) 2147483647 rfl rfl
  refine zz_geti (z := S0 1076 11) zd_3_7_81 zf_Compiler_91 zT_1076 rfl (zz_ltn hn rfl) (zz_rc F_S rfl rfl (by omega) rfl) ?_
  refine zz_icmp_ge (by omega) (by omega) zd_3_7_84 (fun c44 => ?_) (fun c44 => ?_)
  · refine zz_aload_n (x := 1076) rfl zd_3_7_109 ?_
    refine zz_iconst zd_3_7_110 ?_
    refine zz_iload_n (x := x3) rfl zd_3_7_111 ?_
    have g45 := zz_G.r G_S 1076 1 0 1000000 rfl rfl
    have g46 := zz_G.r G_S0 1076 3 (-1) 23 rfl rfl
    have e47 : S 1076 3 = S0 1076 3 := (zz_rc F_S rfl rfl (by omega) rfl)
    have g48 := zz_G.r G_S0 1076 4 (-1) 23 rfl rfl
    have e49 : S 1076 4 = S0 1076 4 := (zz_rc F_S rfl rfl (by omega) rfl)
    have g50 := zz_G.r G_S0 1076 5 (-1) 23 rfl rfl
    have e51 : S 1076 5 = S0 1076 5 := (zz_rc F_S rfl rfl (by omega) rfl)
    refine zz_callVV [zi 0, zi x3] zd_3_7_112 zk_Compiler_188 zT_1076 (zz_ltn hn rfl) rfl rfl ⟨Nat.le_of_ble_eq_true rfl, Nat.le_of_ble_eq_true rfl⟩ ⟨rfl, rfl⟩ (Nat.zero_le _) (Nat.zero_le _) (zc_clearPlaces_3_9 0 x3 S n hn G_S (by omega) (by omega) (by omega) (by omega)) (fun S52 hP => ?_)
    obtain ⟨G_S52, fS52, o54⟩ := hP
    have F_S52 := zz_fr.trans F_S fS52 rfl (fun a i h => Or.inr (Or.inl (h ▸ zM_k4 (z := (S 1076 0)) (by omega) rfl)))
    have b55 := zz_rf4 (z := (S 1076 0)) (by omega)
    refine zz_aload_n (x := 1076) rfl zd_3_7_115 ?_
    refine zz_iload_n (x := x3) rfl zd_3_7_116 ?_
    refine zz_iload (x := x4) rfl zd_3_7_117 ?_
    refine zz_aload_n (x := 1076) rfl zd_3_7_119 ?_
    refine zz_getr (kd := 4) (z := S0 1076 4) zd_3_7_120 zf_Compiler_55 zT_1076 rfl (zz_ltn hn rfl) (zz_rc fS52 rfl rfl (by omega) (zz_rc F_S rfl rfl (by omega) rfl)) (by omega) (zz_rf 6 (S0 1076 4)) rfl ?_
    refine zz_iload_n (x := x2) rfl zd_3_7_123 ?_
    refine zz_aload_n (x := 1076) rfl zd_3_7_124 ?_
    refine zz_iload_n (x := x3) rfl zd_3_7_125 ?_
    have e56 : S52 1076 3 = S0 1076 3 := (zz_rc fS52 rfl rfl (by omega) (zz_rc F_S rfl rfl (by omega) rfl))
    have e57 : S52 1076 4 = S0 1076 4 := (zz_rc fS52 rfl rfl (by omega) (zz_rc F_S rfl rfl (by omega) rfl))
    have e58 : S52 1076 5 = S0 1076 5 := (zz_rc fS52 rfl rfl (by omega) (zz_rc F_S rfl rfl (by omega) rfl))
    refine zz_callVI [zi x3] zd_3_7_126 zk_Compiler_191 zT_1076 (zz_ltn hn rfl) rfl rfl ⟨Nat.le_of_ble_eq_true rfl, Nat.le_of_ble_eq_true rfl⟩ ⟨rfl, rfl⟩ (Nat.zero_le _) (Nat.zero_le _) (zc_metColumn_3_8 x3 S52 n hn G_S52 (by omega) (by omega)) (fun v60 S59 hP => ?_)
    obtain ⟨rfl, o61⟩ := hP
    refine zz_iload_n (x := p0) rfl zd_3_7_129 ?_
    refine zz_callVI [zi x2, zi v60, zi p0] zd_3_7_130 zk_Compiler_147 (zT_k6 (by omega)) (zN_k6 hn (by omega)) rfl rfl ⟨Nat.le_of_ble_eq_true rfl, Nat.le_of_ble_eq_true rfl⟩ ⟨rfl, rfl⟩ (Nat.zero_le _) (Nat.zero_le _) (zc_cellAt_4_15 (S0 1076 4) x2 v60 p0 S52 n hn G_S52 (by omega) (by omega) (by omega) (by omega)) (fun v63 S62 hP => ?_)
    obtain ⟨rfl, o64⟩ := hP
    refine zz_aload_n (x := 1076) rfl zd_3_7_133 ?_
    refine zz_getr (kd := 4) (z := S0 1076 3) zd_3_7_134 zf_Compiler_51 zT_1076 rfl (zz_ltn hn rfl) (zz_rc fS52 rfl rfl (by omega) (zz_rc F_S rfl rfl (by omega) rfl)) (by omega) (zz_rf 6 (S0 1076 3)) rfl ?_
    have g65 := zz_G.r G_S0 (zz_rf 6 (S0 1076 3)) 5 (-2147483648) 2147483647 (zR_k6_5 (by omega)) (zB_k6 (by omega))
    refine zz_geti (z := S0 (zz_rf 6 (S0 1076 3)) 5) zd_3_7_137 zf_Compiler_182 (zT_k6 (by omega)) rfl (zN_k6 hn (by omega)) (zz_rc fS52 (zP_k6 (by omega) rfl) (zQ_k6 (by omega) rfl) (by omega) (zz_rc F_S (zP_k6 (by omega) rfl) (zQ_k6 (by omega) rfl) (by omega) rfl)) ?_
    refine zz_aload_n (x := 1076) rfl zd_3_7_140 ?_
    refine zz_getr (kd := 4) (z := S0 1076 4) zd_3_7_141 zf_Compiler_55 zT_1076 rfl (zz_ltn hn rfl) (zz_rc fS52 rfl rfl (by omega) (zz_rc F_S rfl rfl (by omega) rfl)) (by omega) (zz_rf 6 (S0 1076 4)) rfl ?_
    have g66 := zz_G.r G_S0 (zz_rf 6 (S0 1076 4)) 12 (-2147483648) 2147483647 (zR_k6_12 (by omega)) (zB_k6 (by omega))
    refine zz_geti (z := S0 (zz_rf 6 (S0 1076 4)) 12) zd_3_7_144 zf_Compiler_79 (zT_k6 (by omega)) rfl (zN_k6 hn (by omega)) (zz_rc fS52 (zP_k6 (by omega) rfl) (zQ_k6 (by omega) rfl) (by omega) (zz_rc F_S (zP_k6 (by omega) rfl) (zQ_k6 (by omega) rfl) (by omega) rfl)) ?_
    refine zz_imul zd_3_7_147 ?_
    refine zz_nrm (fun v67 hv67 ev67 => ?_)
    have g68 := zz_G.r G_S52 1076 1 0 1000000 rfl rfl
    refine zz_callVV [zi x3, zi x4, zi v63, zi v67] zd_3_7_148 zk_Compiler_159 zT_1076 (zz_ltn hn rfl) rfl rfl ⟨Nat.le_of_ble_eq_true rfl, Nat.le_of_ble_eq_true rfl⟩ ⟨rfl, rfl⟩ (Nat.zero_le _) (Nat.zero_le _) (zc_loadPlaces_3_10 x3 x4 v63 v67 S52 n hn G_S52 (by omega) (by omega) (by omega) (by omega) (by omega) (by omega)) (fun S69 hP => ?_)
    obtain ⟨G_S69, fS69, o71⟩ := hP
    have F_S69 := zz_fr.trans F_S52 fS69 rfl (fun a i h => Or.inr (Or.inl (h ▸ zM_k4 (z := (S52 1076 0)) (by omega) rfl)))
    have b72 := zz_rf4 (z := (S52 1076 0)) (by omega)
    refine zz_aload_n (x := 1076) rfl zd_3_7_151 ?_
    refine zz_iload (x := x4) rfl zd_3_7_152 ?_
    refine zz_aload_n (x := 1076) rfl zd_3_7_154 ?_
    refine zz_geti (z := S0 1076 11) zd_3_7_155 zf_Compiler_91 zT_1076 rfl (zz_ltn hn rfl) (zz_rc fS69 rfl rfl (by omega) (zz_rc fS52 rfl rfl (by omega) (zz_rc F_S rfl rfl (by omega) rfl))) ?_
    have g73 := zz_G.r G_S69 1076 1 0 1000000 rfl rfl
    have e74 : S69 1076 3 = S0 1076 3 := (zz_rc fS69 rfl rfl (by omega) (zz_rc fS52 rfl rfl (by omega) (zz_rc F_S rfl rfl (by omega) rfl)))
    have e75 : S69 1076 4 = S0 1076 4 := (zz_rc fS69 rfl rfl (by omega) (zz_rc fS52 rfl rfl (by omega) (zz_rc F_S rfl rfl (by omega) rfl)))
    have e76 : S69 1076 5 = S0 1076 5 := (zz_rc fS69 rfl rfl (by omega) (zz_rc fS52 rfl rfl (by omega) (zz_rc F_S rfl rfl (by omega) rfl)))
    refine zz_callVV [zi x4, zi (S0 1076 11)] zd_3_7_158 zk_Compiler_188 zT_1076 (zz_ltn hn rfl) rfl rfl ⟨Nat.le_of_ble_eq_true rfl, Nat.le_of_ble_eq_true rfl⟩ ⟨rfl, rfl⟩ (Nat.zero_le _) (Nat.zero_le _) (zc_clearPlaces_3_9 x4 (S0 1076 11) S69 n hn G_S69 (by omega) (by omega) (by omega) (by omega)) (fun S77 hP => ?_)
    obtain ⟨G_S77, fS77, o79⟩ := hP
    have F_S77 := zz_fr.trans F_S69 fS77 rfl (fun a i h => Or.inr (Or.inl (h ▸ zM_k4 (z := (S69 1076 0)) (by omega) rfl)))
    have b80 := zz_rf4 (z := (S69 1076 0)) (by omega)
    have g81 := zz_G.r G_S77 1076 1 0 1000000 rfl rfl
    exact zz_vret zd_3_7_161 rfl (Nat.zero_le _) (Nat.zero_le _) ⟨_, rfl, G_S77, F_S77, by omega⟩
  · refine zz_aload_n (x := 1076) rfl zd_3_7_87 ?_
    refine zz_iload (x := x4) rfl zd_3_7_88 ?_
    have g82 := zz_G.r G_S0 1076 3 (-1) 23 rfl rfl
    have e83 : S 1076 3 = S0 1076 3 := (zz_rc F_S rfl rfl (by omega) rfl)
    have g84 := zz_G.r G_S0 1076 4 (-1) 23 rfl rfl
    have e85 : S 1076 4 = S0 1076 4 := (zz_rc F_S rfl rfl (by omega) rfl)
    have g86 := zz_G.r G_S0 1076 5 (-1) 23 rfl rfl
    have e87 : S 1076 5 = S0 1076 5 := (zz_rc F_S rfl rfl (by omega) rfl)
    refine zz_callVI [zi x4] zd_3_7_90 zk_Compiler_191 zT_1076 (zz_ltn hn rfl) rfl rfl ⟨Nat.le_of_ble_eq_true rfl, Nat.le_of_ble_eq_true rfl⟩ ⟨rfl, rfl⟩ (Nat.zero_le _) (Nat.zero_le _) (zc_metColumn_3_8 x4 S n hn G_S (by omega) (by omega)) (fun v89 S88 hP => ?_)
    obtain ⟨rfl, o90⟩ := hP
    refine zz_aload_n (x := 1076) rfl zd_3_7_93 ?_
    refine zz_getr (kd := 4) (z := S0 1076 4) zd_3_7_94 zf_Compiler_55 zT_1076 rfl (zz_ltn hn rfl) (zz_rc F_S rfl rfl (by omega) rfl) (by omega) (zz_rf 6 (S0 1076 4)) rfl ?_
    have g91 := zz_G.r G_S0 (zz_rf 6 (S0 1076 4)) 11 (-2147483648) 2147483647 (zR_k6_11 (by omega)) (zB_k6 (by omega))
    refine zz_geti (z := S0 (zz_rf 6 (S0 1076 4)) 11) zd_3_7_97 zf_Compiler_67 (zT_k6 (by omega)) rfl (zN_k6 hn (by omega)) (zz_rc F_S (zP_k6 (by omega) rfl) (zQ_k6 (by omega) rfl) (by omega) rfl) ?_
    refine zz_icmp_ge (by omega) (by omega) zd_3_7_100 (fun c92 => ?_) (fun c92 => ?_)
    · refine zz_aload_n (x := 1076) rfl zd_3_7_109 ?_
      refine zz_iconst zd_3_7_110 ?_
      refine zz_iload_n (x := x3) rfl zd_3_7_111 ?_
      have g93 := zz_G.r G_S 1076 1 0 1000000 rfl rfl
      refine zz_callVV [zi 0, zi x3] zd_3_7_112 zk_Compiler_188 zT_1076 (zz_ltn hn rfl) rfl rfl ⟨Nat.le_of_ble_eq_true rfl, Nat.le_of_ble_eq_true rfl⟩ ⟨rfl, rfl⟩ (Nat.zero_le _) (Nat.zero_le _) (zc_clearPlaces_3_9 0 x3 S n hn G_S (by omega) (by omega) (by omega) (by omega)) (fun S94 hP => ?_)
      obtain ⟨G_S94, fS94, o96⟩ := hP
      have F_S94 := zz_fr.trans F_S fS94 rfl (fun a i h => Or.inr (Or.inl (h ▸ zM_k4 (z := (S 1076 0)) (by omega) rfl)))
      have b97 := zz_rf4 (z := (S 1076 0)) (by omega)
      refine zz_aload_n (x := 1076) rfl zd_3_7_115 ?_
      refine zz_iload_n (x := x3) rfl zd_3_7_116 ?_
      refine zz_iload (x := x4) rfl zd_3_7_117 ?_
      refine zz_aload_n (x := 1076) rfl zd_3_7_119 ?_
      refine zz_getr (kd := 4) (z := S0 1076 4) zd_3_7_120 zf_Compiler_55 zT_1076 rfl (zz_ltn hn rfl) (zz_rc fS94 rfl rfl (by omega) (zz_rc F_S rfl rfl (by omega) rfl)) (by omega) (zz_rf 6 (S0 1076 4)) rfl ?_
      refine zz_iload_n (x := x2) rfl zd_3_7_123 ?_
      refine zz_aload_n (x := 1076) rfl zd_3_7_124 ?_
      refine zz_iload_n (x := x3) rfl zd_3_7_125 ?_
      have e98 : S94 1076 3 = S0 1076 3 := (zz_rc fS94 rfl rfl (by omega) (zz_rc F_S rfl rfl (by omega) rfl))
      have e99 : S94 1076 4 = S0 1076 4 := (zz_rc fS94 rfl rfl (by omega) (zz_rc F_S rfl rfl (by omega) rfl))
      have e100 : S94 1076 5 = S0 1076 5 := (zz_rc fS94 rfl rfl (by omega) (zz_rc F_S rfl rfl (by omega) rfl))
      refine zz_callVI [zi x3] zd_3_7_126 zk_Compiler_191 zT_1076 (zz_ltn hn rfl) rfl rfl ⟨Nat.le_of_ble_eq_true rfl, Nat.le_of_ble_eq_true rfl⟩ ⟨rfl, rfl⟩ (Nat.zero_le _) (Nat.zero_le _) (zc_metColumn_3_8 x3 S94 n hn G_S94 (by omega) (by omega)) (fun v102 S101 hP => ?_)
      obtain ⟨rfl, o103⟩ := hP
      refine zz_iload_n (x := p0) rfl zd_3_7_129 ?_
      refine zz_callVI [zi x2, zi v102, zi p0] zd_3_7_130 zk_Compiler_147 (zT_k6 (by omega)) (zN_k6 hn (by omega)) rfl rfl ⟨Nat.le_of_ble_eq_true rfl, Nat.le_of_ble_eq_true rfl⟩ ⟨rfl, rfl⟩ (Nat.zero_le _) (Nat.zero_le _) (zc_cellAt_4_15 (S0 1076 4) x2 v102 p0 S94 n hn G_S94 (by omega) (by omega) (by omega) (by omega)) (fun v105 S104 hP => ?_)
      obtain ⟨rfl, o106⟩ := hP
      refine zz_aload_n (x := 1076) rfl zd_3_7_133 ?_
      refine zz_getr (kd := 4) (z := S0 1076 3) zd_3_7_134 zf_Compiler_51 zT_1076 rfl (zz_ltn hn rfl) (zz_rc fS94 rfl rfl (by omega) (zz_rc F_S rfl rfl (by omega) rfl)) (by omega) (zz_rf 6 (S0 1076 3)) rfl ?_
      have g107 := zz_G.r G_S0 (zz_rf 6 (S0 1076 3)) 5 (-2147483648) 2147483647 (zR_k6_5 (by omega)) (zB_k6 (by omega))
      refine zz_geti (z := S0 (zz_rf 6 (S0 1076 3)) 5) zd_3_7_137 zf_Compiler_182 (zT_k6 (by omega)) rfl (zN_k6 hn (by omega)) (zz_rc fS94 (zP_k6 (by omega) rfl) (zQ_k6 (by omega) rfl) (by omega) (zz_rc F_S (zP_k6 (by omega) rfl) (zQ_k6 (by omega) rfl) (by omega) rfl)) ?_
      refine zz_aload_n (x := 1076) rfl zd_3_7_140 ?_
      refine zz_getr (kd := 4) (z := S0 1076 4) zd_3_7_141 zf_Compiler_55 zT_1076 rfl (zz_ltn hn rfl) (zz_rc fS94 rfl rfl (by omega) (zz_rc F_S rfl rfl (by omega) rfl)) (by omega) (zz_rf 6 (S0 1076 4)) rfl ?_
      have g108 := zz_G.r G_S0 (zz_rf 6 (S0 1076 4)) 12 (-2147483648) 2147483647 (zR_k6_12 (by omega)) (zB_k6 (by omega))
      refine zz_geti (z := S0 (zz_rf 6 (S0 1076 4)) 12) zd_3_7_144 zf_Compiler_79 (zT_k6 (by omega)) rfl (zN_k6 hn (by omega)) (zz_rc fS94 (zP_k6 (by omega) rfl) (zQ_k6 (by omega) rfl) (by omega) (zz_rc F_S (zP_k6 (by omega) rfl) (zQ_k6 (by omega) rfl) (by omega) rfl)) ?_
      refine zz_imul zd_3_7_147 ?_
      refine zz_nrm (fun v109 hv109 ev109 => ?_)
      have g110 := zz_G.r G_S94 1076 1 0 1000000 rfl rfl
      refine zz_callVV [zi x3, zi x4, zi v105, zi v109] zd_3_7_148 zk_Compiler_159 zT_1076 (zz_ltn hn rfl) rfl rfl ⟨Nat.le_of_ble_eq_true rfl, Nat.le_of_ble_eq_true rfl⟩ ⟨rfl, rfl⟩ (Nat.zero_le _) (Nat.zero_le _) (zc_loadPlaces_3_10 x3 x4 v105 v109 S94 n hn G_S94 (by omega) (by omega) (by omega) (by omega) (by omega) (by omega)) (fun S111 hP => ?_)
      obtain ⟨G_S111, fS111, o113⟩ := hP
      have F_S111 := zz_fr.trans F_S94 fS111 rfl (fun a i h => Or.inr (Or.inl (h ▸ zM_k4 (z := (S94 1076 0)) (by omega) rfl)))
      have b114 := zz_rf4 (z := (S94 1076 0)) (by omega)
      refine zz_aload_n (x := 1076) rfl zd_3_7_151 ?_
      refine zz_iload (x := x4) rfl zd_3_7_152 ?_
      refine zz_aload_n (x := 1076) rfl zd_3_7_154 ?_
      refine zz_geti (z := S0 1076 11) zd_3_7_155 zf_Compiler_91 zT_1076 rfl (zz_ltn hn rfl) (zz_rc fS111 rfl rfl (by omega) (zz_rc fS94 rfl rfl (by omega) (zz_rc F_S rfl rfl (by omega) rfl))) ?_
      have g115 := zz_G.r G_S111 1076 1 0 1000000 rfl rfl
      have e116 : S111 1076 3 = S0 1076 3 := (zz_rc fS111 rfl rfl (by omega) (zz_rc fS94 rfl rfl (by omega) (zz_rc F_S rfl rfl (by omega) rfl)))
      have e117 : S111 1076 4 = S0 1076 4 := (zz_rc fS111 rfl rfl (by omega) (zz_rc fS94 rfl rfl (by omega) (zz_rc F_S rfl rfl (by omega) rfl)))
      have e118 : S111 1076 5 = S0 1076 5 := (zz_rc fS111 rfl rfl (by omega) (zz_rc fS94 rfl rfl (by omega) (zz_rc F_S rfl rfl (by omega) rfl)))
      refine zz_callVV [zi x4, zi (S0 1076 11)] zd_3_7_158 zk_Compiler_188 zT_1076 (zz_ltn hn rfl) rfl rfl ⟨Nat.le_of_ble_eq_true rfl, Nat.le_of_ble_eq_true rfl⟩ ⟨rfl, rfl⟩ (Nat.zero_le _) (Nat.zero_le _) (zc_clearPlaces_3_9 x4 (S0 1076 11) S111 n hn G_S111 (by omega) (by omega) (by omega) (by omega)) (fun S119 hP => ?_)
      obtain ⟨G_S119, fS119, o121⟩ := hP
      have F_S119 := zz_fr.trans F_S111 fS119 rfl (fun a i h => Or.inr (Or.inl (h ▸ zM_k4 (z := (S111 1076 0)) (by omega) rfl)))
      have b122 := zz_rf4 (z := (S111 1076 0)) (by omega)
      have g123 := zz_G.r G_S119 1076 1 0 1000000 rfl rfl
      exact zz_vret zd_3_7_161 rfl (Nat.zero_le _) (Nat.zero_le _) ⟨_, rfl, G_S119, F_S119, by omega⟩
    · refine zz_iinc [some (.ref 1076), some (zi p0), some (zi x2), some (zi x3), some (zi (x4 + 1))] zd_3_7_103 rfl rfl ?_
      refine zz_goto zd_3_7_106 ?_
      refine zz_less (ls1 := [some (.ref 1076), some (zi p0), some (zi x2), some (zi x3), some (zi (x4 + 1))]) ⟨rfl, ⟨rfl, ⟨rfl, ⟨rfl, ⟨rfl, trivial⟩⟩⟩⟩⟩ ?_
      exact k78 x2 x3 (x4 + 1) S G_S F_S (by omega) (by omega) (by omega) (by omega)
theorem zi_loadMet_3_7 {g : mm_G} {l : Launch} (p0 : Int) (S0 : zz_S) (n : Nat) (hn : zz_end ≤ n) (G_S0 : zz_G S0) (hp0 : (-2147483648) ≤ p0 ∧ p0 ≤ 2147483647) (hq : S0 1076 1 ≤ 900000) (hl : 0 ≤ S0 1076 3 ∧ 0 ≤ S0 1076 4 ∧ 0 ≤ S0 1076 5) : ∀ N : Nat, (∀ (x2 : Int) (x3 : Int) (S : zz_S), zz_G S → zz_fr [(1076, 1)] [1029, 1030] (fun a i => a = zz_rf 4 (S0 1076 0)) S0 S → (0 ≤ x2 ∧ x2 ≤ 2147483646) → (0 ≤ x3 ∧ x3 ≤ 2147483647) → (34359738368 + (S0 1076 11 - x3).toNat) < N → zz_E g l zy_loadMet_3_7 zr_loadMet_3_7 (zz_QV n (zp_loadMet_3_7 p0 S0)) S n 53 [some (.ref 1076), some (zi p0), some (zi x2), some (zi x3)] [] 0 0) ∧ (∀ (x2 : Int) (x3 : Int) (x4 : Int) (S : zz_S), zz_G S → zz_fr [(1076, 1)] [1029, 1030] (fun a i => a = zz_rf 4 (S0 1076 0)) S0 S → (0 ≤ x2 ∧ x2 ≤ 2147483646) → (0 ≤ x3 ∧ x3 ≤ 2147483647) → (0 ≤ x4 ∧ x4 ≤ 2147483647) → (17179869184 + (S0 1076 11 - x4).toNat) < N → zz_E g l zy_loadMet_3_7 zr_loadMet_3_7 (zz_QV n (zp_loadMet_3_7 p0 S0)) S n 78 [some (.ref 1076), some (zi p0), some (zi x2), some (zi x3), some (zi x4)] [] 0 0) := by
  intro N
  induction N with
  | zero => exact ⟨fun x2 x3 S _ _ _ _ h => absurd h (Nat.not_lt_zero _), fun x2 x3 x4 S _ _ _ _ _ h => absurd h (Nat.not_lt_zero _)⟩
  | succ N ih =>
    exact ⟨fun x2 x3 S a b j0 j1 hR => zb_loadMet_3_7_53 p0 S0 n hn G_S0 hp0 hq hl x2 x3 S a b j0 j1 _ rfl (fun x2 x3 S a b j0 j1 h => ih.1 x2 x3 S a b j0 j1 (Nat.lt_of_lt_of_le h (Nat.le_of_lt_succ hR))) (fun x2 x3 x4 S a b j0 j1 j2 h => ih.2 x2 x3 x4 S a b j0 j1 j2 (Nat.lt_of_lt_of_le h (Nat.le_of_lt_succ hR))),
      fun x2 x3 x4 S a b j0 j1 j2 hR => zb_loadMet_3_7_78 p0 S0 n hn G_S0 hp0 hq hl x2 x3 x4 S a b j0 j1 j2 _ rfl (fun x2 x3 x4 S a b j0 j1 j2 h => ih.2 x2 x3 x4 S a b j0 j1 j2 (Nat.lt_of_lt_of_le h (Nat.le_of_lt_succ hR)))⟩
theorem zc_loadMet_3_7 {g : mm_G} {l : Launch} (p0 : Int) (S0 : zz_S) (n : Nat) (hn : zz_end ≤ n) (G_S0 : zz_G S0) (hp0 : (-2147483648) ≤ p0 ∧ p0 ≤ 2147483647) (hq : S0 1076 1 ≤ 900000) (hl : 0 ≤ S0 1076 3 ∧ 0 ≤ S0 1076 4 ∧ 0 ≤ S0 1076 5) : mm_Met g l zy_loadMet_3_7 zr_loadMet_3_7 [.ref 1076, zi p0] (zz_M S0 n) n (zz_QV n (zp_loadMet_3_7 p0 S0)) := by
  refine zz_enter (by decide) (Nat.le_of_ble_eq_true rfl) (zz_less (ls1 := [some (.ref 1076), some (zi p0)]) ⟨rfl, ⟨rfl, trivial⟩⟩ ?_)
  have F_S0 : zz_fr [(1076, 1)] [1029, 1030] (fun a i => a = zz_rf 4 (S0 1076 0)) S0 S0 := zz_fr.refl
  have k53 : ∀ (x2 : Int) (x3 : Int) (S : zz_S), zz_G S → zz_fr [(1076, 1)] [1029, 1030] (fun a i => a = zz_rf 4 (S0 1076 0)) S0 S → (0 ≤ x2 ∧ x2 ≤ 2147483646) → (0 ≤ x3 ∧ x3 ≤ 2147483647) → zz_E g l zy_loadMet_3_7 zr_loadMet_3_7 (zz_QV n (zp_loadMet_3_7 p0 S0)) S n 53 [some (.ref 1076), some (zi p0), some (zi x2), some (zi x3)] [] 0 0 := fun x2 x3 S a b j0 j1 => (zi_loadMet_3_7 (g := g) (l := l) p0 S0 n hn G_S0 hp0 hq hl _).1 x2 x3 S a b j0 j1 (Nat.lt_succ_self _)
  refine zz_aload_n (x := 1076) rfl zd_3_7_0 ?_
  have g1 := zz_G.r G_S0 1076 3 (-1) 23 rfl rfl
  refine zz_getr (kd := 4) (z := S0 1076 3) zd_3_7_1 zf_Compiler_51 zT_1076 rfl (zz_ltn hn rfl) rfl (by omega) (zz_rf 6 (S0 1076 3)) rfl ?_
  have g2 := zz_G.r G_S0 (zz_rf 6 (S0 1076 3)) 5 (-2147483648) 2147483647 (zR_k6_5 (by omega)) (zB_k6 (by omega))
  refine zz_geti (z := S0 (zz_rf 6 (S0 1076 3)) 5) zd_3_7_4 zf_Compiler_182 (zT_k6 (by omega)) rfl (zN_k6 hn (by omega)) rfl ?_
  refine zz_aload_n (x := 1076) rfl zd_3_7_7 ?_
  have g3 := zz_G.r G_S0 1076 9 (-2147483648) 2147483647 rfl rfl
  refine zz_geti (z := S0 1076 9) zd_3_7_8 zf_Compiler_85 zT_1076 rfl (zz_ltn hn rfl) rfl ?_
  refine zz_imul zd_3_7_11 ?_
  refine zz_nrm (fun v4 hv4 ev4 => ?_)
  refine zz_aload_n (x := 1076) rfl zd_3_7_12 ?_
  have g5 := zz_G.r G_S0 1076 13 (-2147483648) 2147483647 rfl rfl
  refine zz_geti (z := S0 1076 13) zd_3_7_13 zf_Compiler_106 zT_1076 rfl (zz_ltn hn rfl) rfl ?_
  refine zz_iadd zd_3_7_16 ?_
  refine zz_nrm (fun v6 hv6 ev6 => ?_)
  refine zz_aload_n (x := 1076) rfl zd_3_7_17 ?_
  refine zz_getr (kd := 4) (z := S0 1076 3) zd_3_7_18 zf_Compiler_51 zT_1076 rfl (zz_ltn hn rfl) rfl (by omega) (zz_rf 6 (S0 1076 3)) rfl ?_
  have g7 := zz_G.r G_S0 (zz_rf 6 (S0 1076 3)) 6 (-2147483648) 2147483647 (zR_k6_6 (by omega)) (zB_k6 (by omega))
  refine zz_geti (z := S0 (zz_rf 6 (S0 1076 3)) 6) zd_3_7_21 zf_Compiler_185 (zT_k6 (by omega)) rfl (zN_k6 hn (by omega)) rfl ?_
  refine zz_isub zd_3_7_24 ?_
  refine zz_nrm (fun v8 hv8 ev8 => ?_)
  refine zz_istore_n [some (.ref 1076), some (zi p0), some (zi v8)] zd_3_7_25 (by decide) rfl ?_
  refine zz_iload_n (x := v8) rfl zd_3_7_26 ?_
  refine zz_if_lt (by omega) zd_3_7_27 (fun c9 => ?_) (fun c9 => ?_)
  · refine zz_aload_n (x := 1076) rfl zd_3_7_41 ?_
    refine zz_iconst zd_3_7_42 ?_
    refine zz_aload_n (x := 1076) rfl zd_3_7_43 ?_
    have g10 := zz_G.r G_S0 1076 11 (-2147483648) 2147483647 rfl rfl
    refine zz_geti (z := S0 1076 11) zd_3_7_44 zf_Compiler_91 zT_1076 rfl (zz_ltn hn rfl) rfl ?_
    have g11 := zz_G.r G_S0 1076 1 0 1000000 rfl rfl
    have g12 := zz_G.r G_S0 1076 4 (-1) 23 rfl rfl
    have g13 := zz_G.r G_S0 1076 5 (-1) 23 rfl rfl
    refine zz_callVV [zi 0, zi (S0 1076 11)] zd_3_7_47 zk_Compiler_188 zT_1076 (zz_ltn hn rfl) rfl rfl ⟨Nat.le_of_ble_eq_true rfl, Nat.le_of_ble_eq_true rfl⟩ ⟨rfl, rfl⟩ (Nat.zero_le _) (Nat.zero_le _) (zc_clearPlaces_3_9 0 (S0 1076 11) S0 n hn G_S0 (by omega) (by omega) (by omega) (by omega)) (fun S14 hP => ?_)
    obtain ⟨G_S14, fS14, o16⟩ := hP
    have F_S14 := zz_fr.trans F_S0 fS14 rfl (fun a i h => Or.inr (Or.inr (h)))
    have b17 := zz_rf4 (z := (S0 1076 0)) (by omega)
    have g18 := zz_G.r G_S14 1076 1 0 1000000 rfl rfl
    exact zz_vret zd_3_7_50 rfl (Nat.zero_le _) (Nat.zero_le _) ⟨_, rfl, G_S14, F_S14, by omega⟩
  · refine zz_iload_n (x := v8) rfl zd_3_7_30 ?_
    refine zz_aload_n (x := 1076) rfl zd_3_7_31 ?_
    have g19 := zz_G.r G_S0 1076 4 (-1) 23 rfl rfl
    refine zz_getr (kd := 4) (z := S0 1076 4) zd_3_7_32 zf_Compiler_55 zT_1076 rfl (zz_ltn hn rfl) rfl (by omega) (zz_rf 6 (S0 1076 4)) rfl ?_
    have g20 := zz_G.r G_S0 (zz_rf 6 (S0 1076 4)) 10 (-2147483648) 2147483647 (zR_k6_10 (by omega)) (zB_k6 (by omega))
    refine zz_geti (z := S0 (zz_rf 6 (S0 1076 4)) 10) zd_3_7_35 zf_Compiler_64 (zT_k6 (by omega)) rfl (zN_k6 hn (by omega)) rfl ?_
    refine zz_icmp_lt (by omega) (by omega) zd_3_7_38 (fun c21 => ?_) (fun c21 => ?_)
    · refine zz_iconst zd_3_7_51 ?_
      refine zz_istore_n [some (.ref 1076), some (zi p0), some (zi v8), some (zi 0)] zd_3_7_52 (by decide) rfl ?_
      have g22 := zz_G.r G_S0 1076 11 (-2147483648) 2147483647 rfl rfl
      refine zz_less (ls1 := [some (.ref 1076), some (zi p0), some (zi v8), some (zi 0)]) ⟨rfl, ⟨rfl, ⟨rfl, ⟨rfl, trivial⟩⟩⟩⟩ ?_
      exact k53 v8 0 S0 G_S0 F_S0 (by omega) (by omega)
    · refine zz_aload_n (x := 1076) rfl zd_3_7_41 ?_
      refine zz_iconst zd_3_7_42 ?_
      refine zz_aload_n (x := 1076) rfl zd_3_7_43 ?_
      have g23 := zz_G.r G_S0 1076 11 (-2147483648) 2147483647 rfl rfl
      refine zz_geti (z := S0 1076 11) zd_3_7_44 zf_Compiler_91 zT_1076 rfl (zz_ltn hn rfl) rfl ?_
      have g24 := zz_G.r G_S0 1076 1 0 1000000 rfl rfl
      have g25 := zz_G.r G_S0 1076 5 (-1) 23 rfl rfl
      refine zz_callVV [zi 0, zi (S0 1076 11)] zd_3_7_47 zk_Compiler_188 zT_1076 (zz_ltn hn rfl) rfl rfl ⟨Nat.le_of_ble_eq_true rfl, Nat.le_of_ble_eq_true rfl⟩ ⟨rfl, rfl⟩ (Nat.zero_le _) (Nat.zero_le _) (zc_clearPlaces_3_9 0 (S0 1076 11) S0 n hn G_S0 (by omega) (by omega) (by omega) (by omega)) (fun S26 hP => ?_)
      obtain ⟨G_S26, fS26, o28⟩ := hP
      have F_S26 := zz_fr.trans F_S0 fS26 rfl (fun a i h => Or.inr (Or.inr (h)))
      have b29 := zz_rf4 (z := (S0 1076 0)) (by omega)
      have g30 := zz_G.r G_S26 1076 1 0 1000000 rfl rfl
      exact zz_vret zd_3_7_50 rfl (Nat.zero_le _) (Nat.zero_le _) ⟨_, rfl, G_S26, F_S26, by omega⟩
theorem zk_Compiler_155 : mm_Vl "TensorForge$Compiler" 155 9 1 zy_loadMet_3_7 := ⟨zyw_loadMet_3_7, (R_Compiler, F_Compiler, 17), rfl, mm_tb_1 1446 (by decide +kernel) rfl, mm_tb_1 1448 (by decide +kernel) rfl, mm_tb_s 69 (by decide +kernel) rfl⟩
theorem zd_3_5_51 : zz_B zy_makeGroup_3_5 51 Instr.goto 102 54 := ⟨51, by decide +kernel, rfl, rfl⟩
theorem zd_3_5_16 : zz_D zy_makeGroup_3_5 16 (.aload_n 0) 1 17 := ⟨by decide +kernel, rfl⟩
theorem zd_3_5_17 : zz_D zy_makeGroup_3_5 17 (.iload_n 1) 1 18 := ⟨by decide +kernel, rfl⟩
theorem zd_3_5_18 : zz_D zy_makeGroup_3_5 18 (.invokevirtual 151) 3 21 := ⟨by decide +kernel, rfl⟩
abbrev zy_loadParameters_3_6 : mm_Y := (⟨"TensorForge$Compiler", "loadParameters", "(Z)V"⟩, prog_3_method_6_code, 2, none)
theorem zyw_loadParameters_3_6 : mm_Yw zy_loadParameters_3_6 1 := ⟨mm_tb_1 1427 (by decide +kernel) rfl, mm_tb_1 10 (by decide +kernel) rfl, ⟨by decide, by decide⟩, by decide +kernel⟩
theorem zd_3_6_0 : zz_D zy_loadParameters_3_6 0 (.iload_n 1) 1 1 := ⟨by decide +kernel, rfl⟩
theorem zd_3_6_1 : zz_B zy_loadParameters_3_6 1 (Instr.ifCond .eq) 46 4 := ⟨45, by decide +kernel, rfl, rfl⟩
theorem zd_3_6_46 : zz_D zy_loadParameters_3_6 46 (.aload_n 0) 1 47 := ⟨by decide +kernel, rfl⟩
theorem zd_3_6_47 : zz_D zy_loadParameters_3_6 47 (.iconst 2) 1 48 := ⟨by decide +kernel, rfl⟩
theorem zd_3_6_48 : zz_D zy_loadParameters_3_6 48 (.aload_n 0) 1 49 := ⟨by decide +kernel, rfl⟩
theorem zd_3_6_49 : zz_D zy_loadParameters_3_6 49 (.getfield 115) 3 52 := ⟨by decide +kernel, rfl⟩
theorem zd_3_6_52 : zz_D zy_loadParameters_3_6 52 (.aload_n 0) 1 53 := ⟨by decide +kernel, rfl⟩
theorem zd_3_6_53 : zz_D zy_loadParameters_3_6 53 (.getfield 82) 3 56 := ⟨by decide +kernel, rfl⟩
theorem zd_3_6_56 : zz_D zy_loadParameters_3_6 56 (.invokestatic 128) 3 59 := ⟨by decide +kernel, rfl⟩
theorem zd_3_6_59 : zz_D zy_loadParameters_3_6 59 (.bipush 8) 2 61 := ⟨by decide +kernel, rfl⟩
theorem zd_3_6_61 : zz_D zy_loadParameters_3_6 61 (.aload_n 0) 1 62 := ⟨by decide +kernel, rfl⟩
theorem zd_3_6_62 : zz_D zy_loadParameters_3_6 62 (.invokevirtual 175) 3 65 := ⟨by decide +kernel, rfl⟩
theorem zd_3_6_65 : zz_D zy_loadParameters_3_6 65 (.invokestatic 132) 3 68 := ⟨by decide +kernel, rfl⟩
theorem zd_3_6_68 : zz_D zy_loadParameters_3_6 68 (.lor) 1 69 := ⟨by decide +kernel, rfl⟩
theorem zd_3_6_69 : zz_D zy_loadParameters_3_6 69 (.iconst 5) 1 70 := ⟨by decide +kernel, rfl⟩
theorem zd_3_6_70 : zz_D zy_loadParameters_3_6 70 (.aload_n 0) 1 71 := ⟨by decide +kernel, rfl⟩
theorem zd_3_6_71 : zz_D zy_loadParameters_3_6 71 (.getfield 51) 3 74 := ⟨by decide +kernel, rfl⟩
theorem zd_3_6_74 : zz_D zy_loadParameters_3_6 74 (.aload_n 0) 1 75 := ⟨by decide +kernel, rfl⟩
theorem zd_3_6_75 : zz_D zy_loadParameters_3_6 75 (.getfield 55) 3 78 := ⟨by decide +kernel, rfl⟩
theorem zd_3_6_78 : zz_D zy_loadParameters_3_6 78 (.aload_n 0) 1 79 := ⟨by decide +kernel, rfl⟩
theorem zd_3_6_79 : zz_D zy_loadParameters_3_6 79 (.getfield 106) 3 82 := ⟨by decide +kernel, rfl⟩
theorem zd_3_6_82 : zz_D zy_loadParameters_3_6 82 (.aload_n 0) 1 83 := ⟨by decide +kernel, rfl⟩
theorem zd_3_6_83 : zz_D zy_loadParameters_3_6 83 (.getfield 109) 3 86 := ⟨by decide +kernel, rfl⟩
theorem zd_3_6_86 : zz_D zy_loadParameters_3_6 86 (.aload_n 0) 1 87 := ⟨by decide +kernel, rfl⟩
theorem zd_3_6_87 : zz_D zy_loadParameters_3_6 87 (.getfield 112) 3 90 := ⟨by decide +kernel, rfl⟩
theorem zd_3_6_90 : zz_D zy_loadParameters_3_6 90 (.aload_n 0) 1 91 := ⟨by decide +kernel, rfl⟩
theorem zd_3_6_91 : zz_D zy_loadParameters_3_6 91 (.getfield 76) 3 94 := ⟨by decide +kernel, rfl⟩
theorem zd_3_6_94 : zz_D zy_loadParameters_3_6 94 (.invokevirtual 178) 3 97 := ⟨by decide +kernel, rfl⟩
abbrev zy_weightAt_4_14 : mm_Y := (⟨"TensorForge$Layer", "weightAt", "(LTensorForge$Layer;IIII)I"⟩, prog_4_method_14_code, 7, (some .int))
theorem zyw_weightAt_4_14 : mm_Yw zy_weightAt_4_14 5 := ⟨mm_tb_1 890 (by decide +kernel) rfl, mm_tb_1 3 (by decide +kernel) rfl, ⟨by decide, by decide⟩, by decide +kernel⟩
theorem zd_4_14_0 : zz_D zy_weightAt_4_14 0 (.iload_n 2) 1 1 := ⟨by decide +kernel, rfl⟩
theorem zd_4_14_1 : zz_D zy_weightAt_4_14 1 (.aload_n 0) 1 2 := ⟨by decide +kernel, rfl⟩
theorem zd_4_14_2 : zz_D zy_weightAt_4_14 2 (.getfield 26) 3 5 := ⟨by decide +kernel, rfl⟩
theorem zd_4_14_5 : zz_D zy_weightAt_4_14 5 (.imul) 1 6 := ⟨by decide +kernel, rfl⟩
theorem zd_4_14_6 : zz_D zy_weightAt_4_14 6 (.iload_n 3) 1 7 := ⟨by decide +kernel, rfl⟩
theorem zd_4_14_7 : zz_D zy_weightAt_4_14 7 (.iadd) 1 8 := ⟨by decide +kernel, rfl⟩
theorem zd_4_14_8 : zz_D zy_weightAt_4_14 8 (.aload_n 1) 1 9 := ⟨by decide +kernel, rfl⟩
theorem zd_4_14_9 : zz_D zy_weightAt_4_14 9 (.getfield 60) 3 12 := ⟨by decide +kernel, rfl⟩
theorem zd_4_14_12 : zz_D zy_weightAt_4_14 12 (.imul) 1 13 := ⟨by decide +kernel, rfl⟩
theorem zd_4_14_13 : zz_D zy_weightAt_4_14 13 (.iload 4) 2 15 := ⟨by decide +kernel, rfl⟩
theorem zd_4_14_15 : zz_D zy_weightAt_4_14 15 (.iadd) 1 16 := ⟨by decide +kernel, rfl⟩
theorem zd_4_14_16 : zz_D zy_weightAt_4_14 16 (.istore 6) 2 18 := ⟨by decide +kernel, rfl⟩
theorem zd_4_14_18 : zz_D zy_weightAt_4_14 18 (.aload_n 0) 1 19 := ⟨by decide +kernel, rfl⟩
theorem zd_4_14_19 : zz_D zy_weightAt_4_14 19 (.getfield 42) 3 22 := ⟨by decide +kernel, rfl⟩
theorem zd_4_14_22 : zz_D zy_weightAt_4_14 22 (.iconst 4) 1 23 := ⟨by decide +kernel, rfl⟩
theorem zd_4_14_23 : zz_D zy_weightAt_4_14 23 (.aload_n 0) 1 24 := ⟨by decide +kernel, rfl⟩
theorem zd_4_14_24 : zz_D zy_weightAt_4_14 24 (.getfield 60) 3 27 := ⟨by decide +kernel, rfl⟩
theorem zd_4_14_27 : zz_D zy_weightAt_4_14 27 (.imul) 1 28 := ⟨by decide +kernel, rfl⟩
theorem zd_4_14_28 : zz_D zy_weightAt_4_14 28 (.iadd) 1 29 := ⟨by decide +kernel, rfl⟩
theorem zd_4_14_29 : zz_D zy_weightAt_4_14 29 (.iload 6) 2 31 := ⟨by decide +kernel, rfl⟩
theorem zd_4_14_31 : zz_D zy_weightAt_4_14 31 (.aload_n 0) 1 32 := ⟨by decide +kernel, rfl⟩
theorem zd_4_14_32 : zz_D zy_weightAt_4_14 32 (.getfield 60) 3 35 := ⟨by decide +kernel, rfl⟩
theorem zd_4_14_35 : zz_D zy_weightAt_4_14 35 (.imul) 1 36 := ⟨by decide +kernel, rfl⟩
theorem zd_4_14_36 : zz_D zy_weightAt_4_14 36 (.iadd) 1 37 := ⟨by decide +kernel, rfl⟩
theorem zd_4_14_37 : zz_D zy_weightAt_4_14 37 (.iload 5) 2 39 := ⟨by decide +kernel, rfl⟩
theorem zd_4_14_39 : zz_D zy_weightAt_4_14 39 (.iadd) 1 40 := ⟨by decide +kernel, rfl⟩
theorem zd_4_14_40 : zz_D zy_weightAt_4_14 40 (.ireturn) 1 41 := ⟨by decide +kernel, rfl⟩
-- TensorForge$Layer weightAt (LTensorForge$Layer;IIII)I
abbrev zr_weightAt_4_14 : Room := { frames := 0, cells := 0, slots := 0, locals := 0 }
def zp_weightAt_4_14 (t : Int) (p0 : Int) (p1 : Int) (p2 : Int) (p3 : Int) (p4 : Int) (S0 : zz_S) : Int → zz_S → Prop := fun r S => S0 = S ∧ ((-2147483648) ≤ r ∧ r ≤ 2147483647)
theorem zc_weightAt_4_14 {g : mm_G} {l : Launch} (t : Int) (p0 : Int) (p1 : Int) (p2 : Int) (p3 : Int) (p4 : Int) (S0 : zz_S) (n : Nat) (hn : zz_end ≤ n) (G_S0 : zz_G S0) (ht : 0 ≤ t ∧ t ≤ 23) (hp0 : 0 ≤ p0 ∧ p0 ≤ 23) (hp1 : (-2147483648) ≤ p1 ∧ p1 ≤ 2147483647) (hp2 : (-2147483648) ≤ p2 ∧ p2 ≤ 2147483647) (hp3 : (-2147483648) ≤ p3 ∧ p3 ≤ 2147483647) (hp4 : (-2147483648) ≤ p4 ∧ p4 ≤ 2147483647) : mm_Met g l zy_weightAt_4_14 zr_weightAt_4_14 [.ref (zz_rf 6 t), .ref (zz_rf 6 p0), zi p1, zi p2, zi p3, zi p4] (zz_M S0 n) n (zz_QI n (zp_weightAt_4_14 t p0 p1 p2 p3 p4 S0)) := by
  refine zz_enter (by decide) (Nat.le_of_ble_eq_true rfl) (zz_less (ls1 := [some (.ref (zz_rf 6 t)), some (.ref (zz_rf 6 p0)), some (zi p1), some (zi p2), some (zi p3), some (zi p4)]) ⟨rfl, ⟨rfl, ⟨rfl, ⟨rfl, ⟨rfl, ⟨rfl, trivial⟩⟩⟩⟩⟩⟩ ?_)
  have b_p0 := zz_rf6 (z := p0) (by omega)
  have b_t := zz_rf6 (z := t) (by omega)
  refine zz_iload_n (x := p1) rfl zd_4_14_0 ?_
  refine zz_aload_n (x := zz_rf 6 t) rfl zd_4_14_1 ?_
  have g1 := zz_G.r G_S0 (zz_rf 6 t) 4 (-2147483648) 2147483647 (zR_k6_4 (by omega)) (zB_k6 (by omega))
  refine zz_geti (z := S0 (zz_rf 6 t) 4) zd_4_14_2 zf_Layer_26 (zT_k6 (by omega)) rfl (zN_k6 hn (by omega)) rfl ?_
  refine zz_imul zd_4_14_5 ?_
  refine zz_nrm (fun v2 hv2 ev2 => ?_)
  refine zz_iload_n (x := p2) rfl zd_4_14_6 ?_
  refine zz_iadd zd_4_14_7 ?_
  refine zz_nrm (fun v3 hv3 ev3 => ?_)
  refine zz_aload_n (x := zz_rf 6 p0) rfl zd_4_14_8 ?_
  have g4 := zz_G.r G_S0 (zz_rf 6 p0) 12 (-2147483648) 2147483647 (zR_k6_12 (by omega)) (zB_k6 (by omega))
  refine zz_geti (z := S0 (zz_rf 6 p0) 12) zd_4_14_9 zf_Layer_60 (zT_k6 (by omega)) rfl (zN_k6 hn (by omega)) rfl ?_
  refine zz_imul zd_4_14_12 ?_
  refine zz_nrm (fun v5 hv5 ev5 => ?_)
  refine zz_iload (x := p3) rfl zd_4_14_13 ?_
  refine zz_iadd zd_4_14_15 ?_
  refine zz_nrm (fun v6 hv6 ev6 => ?_)
  refine zz_istore [some (.ref (zz_rf 6 t)), some (.ref (zz_rf 6 p0)), some (zi p1), some (zi p2), some (zi p3), some (zi p4), some (zi v6)] zd_4_14_16 (by decide) rfl ?_
  refine zz_aload_n (x := zz_rf 6 t) rfl zd_4_14_18 ?_
  have g7 := zz_G.r G_S0 (zz_rf 6 t) 9 (-2147483648) 2147483647 (zR_k6_9 (by omega)) (zB_k6 (by omega))
  refine zz_geti (z := S0 (zz_rf 6 t) 9) zd_4_14_19 zf_Layer_42 (zT_k6 (by omega)) rfl (zN_k6 hn (by omega)) rfl ?_
  refine zz_iconst zd_4_14_22 ?_
  refine zz_aload_n (x := zz_rf 6 t) rfl zd_4_14_23 ?_
  have g8 := zz_G.r G_S0 (zz_rf 6 t) 12 (-2147483648) 2147483647 (zR_k6_12 (by omega)) (zB_k6 (by omega))
  refine zz_geti (z := S0 (zz_rf 6 t) 12) zd_4_14_24 zf_Layer_60 (zT_k6 (by omega)) rfl (zN_k6 hn (by omega)) rfl ?_
  refine zz_imul zd_4_14_27 ?_
  refine zz_nrm (fun v9 hv9 ev9 => ?_)
  refine zz_iadd zd_4_14_28 ?_
  refine zz_nrm (fun v10 hv10 ev10 => ?_)
  refine zz_iload (x := v6) rfl zd_4_14_29 ?_
  refine zz_aload_n (x := zz_rf 6 t) rfl zd_4_14_31 ?_
  refine zz_geti (z := S0 (zz_rf 6 t) 12) zd_4_14_32 zf_Layer_60 (zT_k6 (by omega)) rfl (zN_k6 hn (by omega)) rfl ?_
  refine zz_imul zd_4_14_35 ?_
  refine zz_nrm (fun v11 hv11 ev11 => ?_)
  refine zz_iadd zd_4_14_36 ?_
  refine zz_nrm (fun v12 hv12 ev12 => ?_)
  refine zz_iload (x := p4) rfl zd_4_14_37 ?_
  refine zz_iadd zd_4_14_39 ?_
  refine zz_nrm (fun v13 hv13 ev13 => ?_)
  exact zz_iret zd_4_14_40 rfl (Nat.zero_le _) (Nat.zero_le _) ⟨_, _, rfl, rfl, by omega⟩
theorem zk_Compiler_178 : mm_Vl "TensorForge$Compiler" 178 2 5 zy_weightAt_4_14 := ⟨zyw_weightAt_4_14, (R_Layer, F_Layer, 15), rfl, mm_tb_1 1445 (by decide +kernel) rfl, mm_tb_1 888 (by decide +kernel) rfl, mm_tb_1 889 (by decide +kernel) rfl⟩
theorem zd_3_6_97 : zz_D zy_loadParameters_3_6 97 (.invokestatic 132) 3 100 := ⟨by decide +kernel, rfl⟩
theorem zd_3_6_100 : zz_D zy_loadParameters_3_6 100 (.lor) 1 101 := ⟨by decide +kernel, rfl⟩
theorem zd_3_6_101 : zz_D zy_loadParameters_3_6 101 (.bipush 10) 2 103 := ⟨by decide +kernel, rfl⟩
theorem zd_3_6_103 : zz_D zy_loadParameters_3_6 103 (.aload_n 0) 1 104 := ⟨by decide +kernel, rfl⟩
theorem zd_3_6_104 : zz_D zy_loadParameters_3_6 104 (.getfield 51) 3 107 := ⟨by decide +kernel, rfl⟩
theorem zd_3_6_107 : zz_D zy_loadParameters_3_6 107 (.getfield 79) 3 110 := ⟨by decide +kernel, rfl⟩
theorem zd_3_6_110 : zz_D zy_loadParameters_3_6 110 (.invokestatic 132) 3 113 := ⟨by decide +kernel, rfl⟩
theorem zd_3_6_113 : zz_D zy_loadParameters_3_6 113 (.lor) 1 114 := ⟨by decide +kernel, rfl⟩
theorem zd_3_6_114 : zz_D zy_loadParameters_3_6 114 (.invokevirtual 143) 3 117 := ⟨by decide +kernel, rfl⟩
theorem zd_3_6_117 : zz_D zy_loadParameters_3_6 117 (.return_) 1 118 := ⟨by decide +kernel, rfl⟩
theorem zd_3_6_4 : zz_D zy_loadParameters_3_6 4 (.aload_n 0) 1 5 := ⟨by decide +kernel, rfl⟩
theorem zd_3_6_5 : zz_D zy_loadParameters_3_6 5 (.iconst 4) 1 6 := ⟨by decide +kernel, rfl⟩
theorem zd_3_6_6 : zz_D zy_loadParameters_3_6 6 (.aload_n 0) 1 7 := ⟨by decide +kernel, rfl⟩
theorem zd_3_6_7 : zz_D zy_loadParameters_3_6 7 (.getfield 91) 3 10 := ⟨by decide +kernel, rfl⟩
theorem zd_3_6_10 : zz_D zy_loadParameters_3_6 10 (.aload_n 0) 1 11 := ⟨by decide +kernel, rfl⟩
theorem zd_3_6_11 : zz_D zy_loadParameters_3_6 11 (.getfield 82) 3 14 := ⟨by decide +kernel, rfl⟩
theorem zd_3_6_14 : zz_D zy_loadParameters_3_6 14 (.invokestatic 128) 3 17 := ⟨by decide +kernel, rfl⟩
theorem zd_3_6_17 : zz_D zy_loadParameters_3_6 17 (.bipush 8) 2 19 := ⟨by decide +kernel, rfl⟩
theorem zd_3_6_19 : zz_D zy_loadParameters_3_6 19 (.aload_n 0) 1 20 := ⟨by decide +kernel, rfl⟩
theorem zd_3_6_20 : zz_D zy_loadParameters_3_6 20 (.invokevirtual 122) 3 23 := ⟨by decide +kernel, rfl⟩
theorem zd_3_6_23 : zz_D zy_loadParameters_3_6 23 (.invokestatic 132) 3 26 := ⟨by decide +kernel, rfl⟩
theorem zd_3_6_26 : zz_D zy_loadParameters_3_6 26 (.lor) 1 27 := ⟨by decide +kernel, rfl⟩
theorem zd_3_6_27 : zz_D zy_loadParameters_3_6 27 (.iconst 5) 1 28 := ⟨by decide +kernel, rfl⟩
theorem zd_3_6_28 : zz_D zy_loadParameters_3_6 28 (.aload_n 0) 1 29 := ⟨by decide +kernel, rfl⟩
theorem zd_3_6_29 : zz_D zy_loadParameters_3_6 29 (.getfield 51) 3 32 := ⟨by decide +kernel, rfl⟩
theorem zd_3_6_32 : zz_D zy_loadParameters_3_6 32 (.aload_n 0) 1 33 := ⟨by decide +kernel, rfl⟩
theorem zd_3_6_33 : zz_D zy_loadParameters_3_6 33 (.getfield 76) 3 36 := ⟨by decide +kernel, rfl⟩
theorem zd_3_6_36 : zz_D zy_loadParameters_3_6 36 (.invokevirtual 171) 3 39 := ⟨by decide +kernel, rfl⟩
abbrev zy_biasAt_4_13 : mm_Y := (⟨"TensorForge$Layer", "biasAt", "(I)I"⟩, prog_4_method_13_code, 2, (some .int))
theorem zyw_biasAt_4_13 : mm_Yw zy_biasAt_4_13 1 := ⟨mm_tb_1 881 (by decide +kernel) rfl, mm_tb_1 3 (by decide +kernel) rfl, ⟨by decide, by decide⟩, by decide +kernel⟩
theorem zd_4_13_0 : zz_D zy_biasAt_4_13 0 (.aload_n 0) 1 1 := ⟨by decide +kernel, rfl⟩
theorem zd_4_13_1 : zz_D zy_biasAt_4_13 1 (.getfield 42) 3 4 := ⟨by decide +kernel, rfl⟩
theorem zd_4_13_4 : zz_D zy_biasAt_4_13 4 (.iconst 4) 1 5 := ⟨by decide +kernel, rfl⟩
theorem zd_4_13_5 : zz_D zy_biasAt_4_13 5 (.iload_n 1) 1 6 := ⟨by decide +kernel, rfl⟩
theorem zd_4_13_6 : zz_D zy_biasAt_4_13 6 (.imul) 1 7 := ⟨by decide +kernel, rfl⟩
theorem zd_4_13_7 : zz_D zy_biasAt_4_13 7 (.iadd) 1 8 := ⟨by decide +kernel, rfl⟩
theorem zd_4_13_8 : zz_D zy_biasAt_4_13 8 (.ireturn) 1 9 := ⟨by decide +kernel, rfl⟩
-- TensorForge$Layer biasAt (I)I
abbrev zr_biasAt_4_13 : Room := { frames := 0, cells := 0, slots := 0, locals := 0 }
def zp_biasAt_4_13 (t : Int) (p0 : Int) (S0 : zz_S) : Int → zz_S → Prop := fun r S => S0 = S ∧ ((-2147483648) ≤ r ∧ r ≤ 2147483647)
theorem zc_biasAt_4_13 {g : mm_G} {l : Launch} (t : Int) (p0 : Int) (S0 : zz_S) (n : Nat) (hn : zz_end ≤ n) (G_S0 : zz_G S0) (ht : 0 ≤ t ∧ t ≤ 23) (hp0 : (-2147483648) ≤ p0 ∧ p0 ≤ 2147483647) : mm_Met g l zy_biasAt_4_13 zr_biasAt_4_13 [.ref (zz_rf 6 t), zi p0] (zz_M S0 n) n (zz_QI n (zp_biasAt_4_13 t p0 S0)) := by
  refine zz_enter (by decide) (Nat.le_of_ble_eq_true rfl) (zz_less (ls1 := [some (.ref (zz_rf 6 t)), some (zi p0)]) ⟨rfl, ⟨rfl, trivial⟩⟩ ?_)
  have b_t := zz_rf6 (z := t) (by omega)
  refine zz_aload_n (x := zz_rf 6 t) rfl zd_4_13_0 ?_
  have g1 := zz_G.r G_S0 (zz_rf 6 t) 9 (-2147483648) 2147483647 (zR_k6_9 (by omega)) (zB_k6 (by omega))
  refine zz_geti (z := S0 (zz_rf 6 t) 9) zd_4_13_1 zf_Layer_42 (zT_k6 (by omega)) rfl (zN_k6 hn (by omega)) rfl ?_
  refine zz_iconst zd_4_13_4 ?_
  refine zz_iload_n (x := p0) rfl zd_4_13_5 ?_
  refine zz_imul zd_4_13_6 ?_
  refine zz_nrm (fun v2 hv2 ev2 => ?_)
  refine zz_iadd zd_4_13_7 ?_
  refine zz_nrm (fun v3 hv3 ev3 => ?_)
  exact zz_iret zd_4_13_8 rfl (Nat.zero_le _) (Nat.zero_le _) ⟨_, _, rfl, rfl, by omega⟩
theorem zk_Compiler_171 : mm_Vl "TensorForge$Compiler" 171 2 1 zy_biasAt_4_13 := ⟨zyw_biasAt_4_13, (R_Layer, F_Layer, 15), rfl, mm_tb_1 1436 (by decide +kernel) rfl, mm_tb_1 879 (by decide +kernel) rfl, mm_tb_1 880 (by decide +kernel) rfl⟩
theorem zd_3_6_39 : zz_D zy_loadParameters_3_6 39 (.invokestatic 132) 3 42 := ⟨by decide +kernel, rfl⟩
theorem zd_3_6_42 : zz_D zy_loadParameters_3_6 42 (.lor) 1 43 := ⟨by decide +kernel, rfl⟩
theorem zd_3_6_43 : zz_D zy_loadParameters_3_6 43 (.invokevirtual 143) 3 46 := ⟨by decide +kernel, rfl⟩
-- TensorForge$Compiler loadParameters (Z)V
abbrev zr_loadParameters_3_6 : Room := { frames := 1, cells := 0, slots := 0, locals := 22 }
def zp_loadParameters_3_6 (p0 : Int) (S0 : zz_S) : zz_S → Prop := fun S => zz_G S ∧ zz_fr [(1076, 1)] [1029, 1030] (fun a i => a = zz_rf 4 (S0 1076 0)) S0 S ∧ (S0 1076 1 ≤ S 1076 1 ∧ S 1076 1 ≤ S0 1076 1 + 2)
theorem zc_loadParameters_3_6 {g : mm_G} {l : Launch} (p0 : Int) (S0 : zz_S) (n : Nat) (hn : zz_end ≤ n) (G_S0 : zz_G S0) (hp0 : 0 ≤ p0 ∧ p0 ≤ 1) (hq : S0 1076 1 ≤ 900000) (hl : 0 ≤ S0 1076 3 ∧ 0 ≤ S0 1076 4 ∧ 0 ≤ S0 1076 5) : mm_Met g l zy_loadParameters_3_6 zr_loadParameters_3_6 [.ref 1076, zi p0] (zz_M S0 n) n (zz_QV n (zp_loadParameters_3_6 p0 S0)) := by
  refine zz_enter (by decide) (Nat.le_of_ble_eq_true rfl) (zz_less (ls1 := [some (.ref 1076), some (zi p0)]) ⟨rfl, ⟨rfl, trivial⟩⟩ ?_)
  have F_S0 : zz_fr [(1076, 1)] [1029, 1030] (fun a i => a = zz_rf 4 (S0 1076 0)) S0 S0 := zz_fr.refl
  refine zz_iload_n (x := p0) rfl zd_3_6_0 ?_
  refine zz_if_eq (by omega) zd_3_6_1 (fun c1 => ?_) (fun c1 => ?_)
  · refine zz_aload_n (x := 1076) rfl zd_3_6_46 ?_
    refine zz_iconst zd_3_6_47 ?_
    refine zz_aload_n (x := 1076) rfl zd_3_6_48 ?_
    have g2 := zz_G.r G_S0 1076 16 (-2147483648) 2147483647 rfl rfl
    refine zz_geti (z := S0 1076 16) zd_3_6_49 zf_Compiler_115 zT_1076 rfl (zz_ltn hn rfl) rfl ?_
    refine zz_aload_n (x := 1076) rfl zd_3_6_52 ?_
    have g3 := zz_G.r G_S0 1076 8 (-2147483648) 2147483647 rfl rfl
    refine zz_geti (z := S0 1076 8) zd_3_6_53 zf_Compiler_82 zT_1076 rfl (zz_ltn hn rfl) rfl ?_
    refine zz_callSJ [zi 2, zi (S0 1076 16), zi (S0 1076 8)] zd_3_6_56 zk_Compiler_128 rfl rfl ⟨Nat.le_of_ble_eq_true rfl, Nat.le_of_ble_eq_true rfl⟩ ⟨rfl, rfl⟩ (Nat.zero_le _) (Nat.zero_le _) (zc_shaped_12_6 2 (S0 1076 16) (S0 1076 8) S0 n hn G_S0 (by omega) (by omega) (by omega)) (fun v5 S4 hP => ?_)
    obtain ⟨rfl, o6⟩ := hP
    refine zz_bipush (by decide) zd_3_6_59 ?_
    refine zz_aload_n (x := 1076) rfl zd_3_6_61 ?_
    refine zz_callVI [] zd_3_6_62 zk_Compiler_175 zT_1076 (zz_ltn hn rfl) rfl rfl ⟨Nat.le_of_ble_eq_true rfl, Nat.le_of_ble_eq_true rfl⟩ ⟨rfl, rfl⟩ (Nat.zero_le _) (Nat.zero_le _) (zc_groupHalf_3_14  S0 n hn G_S0 ) (fun v8 S7 hP => ?_)
    obtain ⟨rfl, o9⟩ := hP
    refine zz_callSJ [zi 8, zi v8] zd_3_6_65 zk_Compiler_132 rfl rfl ⟨Nat.le_of_ble_eq_true rfl, Nat.le_of_ble_eq_true rfl⟩ ⟨rfl, rfl⟩ (Nat.zero_le _) (Nat.zero_le _) (zc_bits_12_4 8 v8 S0 n hn G_S0 (by omega) (by omega)) (fun v11 S10 hP => ?_)
    obtain ⟨rfl, o12⟩ := hP
    refine zz_lor zd_3_6_68 (fun v13 hv13 ev13 => ?_)
    refine zz_iconst zd_3_6_69 ?_
    refine zz_aload_n (x := 1076) rfl zd_3_6_70 ?_
    have g14 := zz_G.r G_S0 1076 3 (-1) 23 rfl rfl
    refine zz_getr (kd := 4) (z := S0 1076 3) zd_3_6_71 zf_Compiler_51 zT_1076 rfl (zz_ltn hn rfl) rfl (by omega) (zz_rf 6 (S0 1076 3)) rfl ?_
    refine zz_aload_n (x := 1076) rfl zd_3_6_74 ?_
    have g15 := zz_G.r G_S0 1076 4 (-1) 23 rfl rfl
    refine zz_getr (kd := 4) (z := S0 1076 4) zd_3_6_75 zf_Compiler_55 zT_1076 rfl (zz_ltn hn rfl) rfl (by omega) (zz_rf 6 (S0 1076 4)) rfl ?_
    refine zz_aload_n (x := 1076) rfl zd_3_6_78 ?_
    have g16 := zz_G.r G_S0 1076 13 (-2147483648) 2147483647 rfl rfl
    refine zz_geti (z := S0 1076 13) zd_3_6_79 zf_Compiler_106 zT_1076 rfl (zz_ltn hn rfl) rfl ?_
    refine zz_aload_n (x := 1076) rfl zd_3_6_82 ?_
    have g17 := zz_G.r G_S0 1076 14 (-2147483648) 2147483647 rfl rfl
    refine zz_geti (z := S0 1076 14) zd_3_6_83 zf_Compiler_109 zT_1076 rfl (zz_ltn hn rfl) rfl ?_
    refine zz_aload_n (x := 1076) rfl zd_3_6_86 ?_
    have g18 := zz_G.r G_S0 1076 15 (-2147483648) 2147483647 rfl rfl
    refine zz_geti (z := S0 1076 15) zd_3_6_87 zf_Compiler_112 zT_1076 rfl (zz_ltn hn rfl) rfl ?_
    refine zz_aload_n (x := 1076) rfl zd_3_6_90 ?_
    have g19 := zz_G.r G_S0 1076 7 (-2147483648) 2147483647 rfl rfl
    refine zz_geti (z := S0 1076 7) zd_3_6_91 zf_Compiler_76 zT_1076 rfl (zz_ltn hn rfl) rfl ?_
    refine zz_callVI [.ref (zz_rf 6 (S0 1076 4)), zi (S0 1076 13), zi (S0 1076 14), zi (S0 1076 15), zi (S0 1076 7)] zd_3_6_94 zk_Compiler_178 (zT_k6 (by omega)) (zN_k6 hn (by omega)) rfl rfl ⟨Nat.le_of_ble_eq_true rfl, Nat.le_of_ble_eq_true rfl⟩ ⟨rfl, rfl⟩ (Nat.zero_le _) (Nat.zero_le _) (zc_weightAt_4_14 (S0 1076 3) (S0 1076 4) (S0 1076 13) (S0 1076 14) (S0 1076 15) (S0 1076 7) S0 n hn G_S0 (by omega) (by omega) (by omega) (by omega) (by omega) (by omega)) (fun v21 S20 hP => ?_)
    obtain ⟨rfl, o22⟩ := hP
    refine zz_callSJ [zi 5, zi v21] zd_3_6_97 zk_Compiler_132 rfl rfl ⟨Nat.le_of_ble_eq_true rfl, Nat.le_of_ble_eq_true rfl⟩ ⟨rfl, rfl⟩ (Nat.zero_le _) (Nat.zero_le _) (zc_bits_12_4 5 v21 S0 n hn G_S0 (by omega) (by omega)) (fun v24 S23 hP => ?_)
    obtain ⟨rfl, o25⟩ := hP
    refine zz_lor zd_3_6_100 (fun v26 hv26 ev26 => ?_)
    refine zz_bipush (by decide) zd_3_6_101 ?_
    refine zz_aload_n (x := 1076) rfl zd_3_6_103 ?_
    refine zz_getr (kd := 4) (z := S0 1076 3) zd_3_6_104 zf_Compiler_51 zT_1076 rfl (zz_ltn hn rfl) rfl (by omega) (zz_rf 6 (S0 1076 3)) rfl ?_
    have g27 := zz_G.r G_S0 (zz_rf 6 (S0 1076 3)) 12 (-2147483648) 2147483647 (zR_k6_12 (by omega)) (zB_k6 (by omega))
    refine zz_geti (z := S0 (zz_rf 6 (S0 1076 3)) 12) zd_3_6_107 zf_Compiler_79 (zT_k6 (by omega)) rfl (zN_k6 hn (by omega)) rfl ?_
    refine zz_callSJ [zi 10, zi (S0 (zz_rf 6 (S0 1076 3)) 12)] zd_3_6_110 zk_Compiler_132 rfl rfl ⟨Nat.le_of_ble_eq_true rfl, Nat.le_of_ble_eq_true rfl⟩ ⟨rfl, rfl⟩ (Nat.zero_le _) (Nat.zero_le _) (zc_bits_12_4 10 (S0 (zz_rf 6 (S0 1076 3)) 12) S0 n hn G_S0 (by omega) (by omega)) (fun v29 S28 hP => ?_)
    obtain ⟨rfl, o30⟩ := hP
    refine zz_lor zd_3_6_113 (fun v31 hv31 ev31 => ?_)
    have g32 := zz_G.r G_S0 1076 1 0 1000000 rfl rfl
    refine zz_callVV [zl v31] zd_3_6_114 zk_Compiler_143 zT_1076 (zz_ltn hn rfl) rfl rfl ⟨Nat.le_of_ble_eq_true rfl, Nat.le_of_ble_eq_true rfl⟩ ⟨rfl, rfl⟩ (Nat.zero_le _) (Nat.zero_le _) (zc_emit_3_15 v31 S0 n hn G_S0 (by omega) (by omega)) (fun S33 hP => ?_)
    obtain ⟨G_S33, fS33, o35⟩ := hP
    have F_S33 := zz_fr.trans F_S0 fS33 rfl (fun a i h => Or.inr (Or.inr (h)))
    have b36 := zz_rf4 (z := (S0 1076 0)) (by omega)
    have g37 := zz_G.r G_S33 1076 1 0 1000000 rfl rfl
    exact zz_vret zd_3_6_117 rfl (Nat.zero_le _) (Nat.zero_le _) ⟨_, rfl, G_S33, F_S33, by omega⟩
  · refine zz_aload_n (x := 1076) rfl zd_3_6_4 ?_
    refine zz_iconst zd_3_6_5 ?_
    refine zz_aload_n (x := 1076) rfl zd_3_6_6 ?_
    have g38 := zz_G.r G_S0 1076 11 (-2147483648) 2147483647 rfl rfl
    refine zz_geti (z := S0 1076 11) zd_3_6_7 zf_Compiler_91 zT_1076 rfl (zz_ltn hn rfl) rfl ?_
    refine zz_aload_n (x := 1076) rfl zd_3_6_10 ?_
    have g39 := zz_G.r G_S0 1076 8 (-2147483648) 2147483647 rfl rfl
    refine zz_geti (z := S0 1076 8) zd_3_6_11 zf_Compiler_82 zT_1076 rfl (zz_ltn hn rfl) rfl ?_
    refine zz_callSJ [zi 4, zi (S0 1076 11), zi (S0 1076 8)] zd_3_6_14 zk_Compiler_128 rfl rfl ⟨Nat.le_of_ble_eq_true rfl, Nat.le_of_ble_eq_true rfl⟩ ⟨rfl, rfl⟩ (Nat.zero_le _) (Nat.zero_le _) (zc_shaped_12_6 4 (S0 1076 11) (S0 1076 8) S0 n hn G_S0 (by omega) (by omega) (by omega)) (fun v41 S40 hP => ?_)
    obtain ⟨rfl, o42⟩ := hP
    refine zz_bipush (by decide) zd_3_6_17 ?_
    refine zz_aload_n (x := 1076) rfl zd_3_6_19 ?_
    refine zz_callVI [] zd_3_6_20 zk_Compiler_122 zT_1076 (zz_ltn hn rfl) rfl rfl ⟨Nat.le_of_ble_eq_true rfl, Nat.le_of_ble_eq_true rfl⟩ ⟨rfl, rfl⟩ (Nat.zero_le _) (Nat.zero_le _) (zc_tileHalf_3_13  S0 n hn G_S0 ) (fun v44 S43 hP => ?_)
    obtain ⟨rfl, o45⟩ := hP
    refine zz_callSJ [zi 8, zi v44] zd_3_6_23 zk_Compiler_132 rfl rfl ⟨Nat.le_of_ble_eq_true rfl, Nat.le_of_ble_eq_true rfl⟩ ⟨rfl, rfl⟩ (Nat.zero_le _) (Nat.zero_le _) (zc_bits_12_4 8 v44 S0 n hn G_S0 (by omega) (by omega)) (fun v47 S46 hP => ?_)
    obtain ⟨rfl, o48⟩ := hP
    refine zz_lor zd_3_6_26 (fun v49 hv49 ev49 => ?_)
    refine zz_iconst zd_3_6_27 ?_
    refine zz_aload_n (x := 1076) rfl zd_3_6_28 ?_
    have g50 := zz_G.r G_S0 1076 3 (-1) 23 rfl rfl
    refine zz_getr (kd := 4) (z := S0 1076 3) zd_3_6_29 zf_Compiler_51 zT_1076 rfl (zz_ltn hn rfl) rfl (by omega) (zz_rf 6 (S0 1076 3)) rfl ?_
    refine zz_aload_n (x := 1076) rfl zd_3_6_32 ?_
    have g51 := zz_G.r G_S0 1076 7 (-2147483648) 2147483647 rfl rfl
    refine zz_geti (z := S0 1076 7) zd_3_6_33 zf_Compiler_76 zT_1076 rfl (zz_ltn hn rfl) rfl ?_
    refine zz_callVI [zi (S0 1076 7)] zd_3_6_36 zk_Compiler_171 (zT_k6 (by omega)) (zN_k6 hn (by omega)) rfl rfl ⟨Nat.le_of_ble_eq_true rfl, Nat.le_of_ble_eq_true rfl⟩ ⟨rfl, rfl⟩ (Nat.zero_le _) (Nat.zero_le _) (zc_biasAt_4_13 (S0 1076 3) (S0 1076 7) S0 n hn G_S0 (by omega) (by omega)) (fun v53 S52 hP => ?_)
    obtain ⟨rfl, o54⟩ := hP
    refine zz_callSJ [zi 5, zi v53] zd_3_6_39 zk_Compiler_132 rfl rfl ⟨Nat.le_of_ble_eq_true rfl, Nat.le_of_ble_eq_true rfl⟩ ⟨rfl, rfl⟩ (Nat.zero_le _) (Nat.zero_le _) (zc_bits_12_4 5 v53 S0 n hn G_S0 (by omega) (by omega)) (fun v56 S55 hP => ?_)
    obtain ⟨rfl, o57⟩ := hP
    refine zz_lor zd_3_6_42 (fun v58 hv58 ev58 => ?_)
    have g59 := zz_G.r G_S0 1076 1 0 1000000 rfl rfl
    refine zz_callVV [zl v58] zd_3_6_43 zk_Compiler_143 zT_1076 (zz_ltn hn rfl) rfl rfl ⟨Nat.le_of_ble_eq_true rfl, Nat.le_of_ble_eq_true rfl⟩ ⟨rfl, rfl⟩ (Nat.zero_le _) (Nat.zero_le _) (zc_emit_3_15 v58 S0 n hn G_S0 (by omega) (by omega)) (fun S60 hP => ?_)
    obtain ⟨G_S60, fS60, o62⟩ := hP
    have F_S60 := zz_fr.trans F_S0 fS60 rfl (fun a i h => Or.inr (Or.inr (h)))
    have b63 := zz_rf4 (z := (S0 1076 0)) (by omega)
    refine zz_aload_n (x := 1076) rfl zd_3_6_46 ?_
    refine zz_iconst zd_3_6_47 ?_
    refine zz_aload_n (x := 1076) rfl zd_3_6_48 ?_
    have g64 := zz_G.r G_S0 1076 16 (-2147483648) 2147483647 rfl rfl
    refine zz_geti (z := S0 1076 16) zd_3_6_49 zf_Compiler_115 zT_1076 rfl (zz_ltn hn rfl) (zz_rc fS60 rfl rfl (by omega) rfl) ?_
    refine zz_aload_n (x := 1076) rfl zd_3_6_52 ?_
    refine zz_geti (z := S0 1076 8) zd_3_6_53 zf_Compiler_82 zT_1076 rfl (zz_ltn hn rfl) (zz_rc fS60 rfl rfl (by omega) rfl) ?_
    refine zz_callSJ [zi 2, zi (S0 1076 16), zi (S0 1076 8)] zd_3_6_56 zk_Compiler_128 rfl rfl ⟨Nat.le_of_ble_eq_true rfl, Nat.le_of_ble_eq_true rfl⟩ ⟨rfl, rfl⟩ (Nat.zero_le _) (Nat.zero_le _) (zc_shaped_12_6 2 (S0 1076 16) (S0 1076 8) S60 n hn G_S60 (by omega) (by omega) (by omega)) (fun v66 S65 hP => ?_)
    obtain ⟨rfl, o67⟩ := hP
    refine zz_bipush (by decide) zd_3_6_59 ?_
    refine zz_aload_n (x := 1076) rfl zd_3_6_61 ?_
    refine zz_callVI [] zd_3_6_62 zk_Compiler_175 zT_1076 (zz_ltn hn rfl) rfl rfl ⟨Nat.le_of_ble_eq_true rfl, Nat.le_of_ble_eq_true rfl⟩ ⟨rfl, rfl⟩ (Nat.zero_le _) (Nat.zero_le _) (zc_groupHalf_3_14  S60 n hn G_S60 ) (fun v69 S68 hP => ?_)
    obtain ⟨rfl, o70⟩ := hP
    refine zz_callSJ [zi 8, zi v69] zd_3_6_65 zk_Compiler_132 rfl rfl ⟨Nat.le_of_ble_eq_true rfl, Nat.le_of_ble_eq_true rfl⟩ ⟨rfl, rfl⟩ (Nat.zero_le _) (Nat.zero_le _) (zc_bits_12_4 8 v69 S60 n hn G_S60 (by omega) (by omega)) (fun v72 S71 hP => ?_)
    obtain ⟨rfl, o73⟩ := hP
    refine zz_lor zd_3_6_68 (fun v74 hv74 ev74 => ?_)
    refine zz_iconst zd_3_6_69 ?_
    refine zz_aload_n (x := 1076) rfl zd_3_6_70 ?_
    refine zz_getr (kd := 4) (z := S0 1076 3) zd_3_6_71 zf_Compiler_51 zT_1076 rfl (zz_ltn hn rfl) (zz_rc fS60 rfl rfl (by omega) rfl) (by omega) (zz_rf 6 (S0 1076 3)) rfl ?_
    refine zz_aload_n (x := 1076) rfl zd_3_6_74 ?_
    have g75 := zz_G.r G_S0 1076 4 (-1) 23 rfl rfl
    refine zz_getr (kd := 4) (z := S0 1076 4) zd_3_6_75 zf_Compiler_55 zT_1076 rfl (zz_ltn hn rfl) (zz_rc fS60 rfl rfl (by omega) rfl) (by omega) (zz_rf 6 (S0 1076 4)) rfl ?_
    refine zz_aload_n (x := 1076) rfl zd_3_6_78 ?_
    have g76 := zz_G.r G_S0 1076 13 (-2147483648) 2147483647 rfl rfl
    refine zz_geti (z := S0 1076 13) zd_3_6_79 zf_Compiler_106 zT_1076 rfl (zz_ltn hn rfl) (zz_rc fS60 rfl rfl (by omega) rfl) ?_
    refine zz_aload_n (x := 1076) rfl zd_3_6_82 ?_
    have g77 := zz_G.r G_S0 1076 14 (-2147483648) 2147483647 rfl rfl
    refine zz_geti (z := S0 1076 14) zd_3_6_83 zf_Compiler_109 zT_1076 rfl (zz_ltn hn rfl) (zz_rc fS60 rfl rfl (by omega) rfl) ?_
    refine zz_aload_n (x := 1076) rfl zd_3_6_86 ?_
    have g78 := zz_G.r G_S0 1076 15 (-2147483648) 2147483647 rfl rfl
    refine zz_geti (z := S0 1076 15) zd_3_6_87 zf_Compiler_112 zT_1076 rfl (zz_ltn hn rfl) (zz_rc fS60 rfl rfl (by omega) rfl) ?_
    refine zz_aload_n (x := 1076) rfl zd_3_6_90 ?_
    refine zz_geti (z := S0 1076 7) zd_3_6_91 zf_Compiler_76 zT_1076 rfl (zz_ltn hn rfl) (zz_rc fS60 rfl rfl (by omega) rfl) ?_
    refine zz_callVI [.ref (zz_rf 6 (S0 1076 4)), zi (S0 1076 13), zi (S0 1076 14), zi (S0 1076 15), zi (S0 1076 7)] zd_3_6_94 zk_Compiler_178 (zT_k6 (by omega)) (zN_k6 hn (by omega)) rfl rfl ⟨Nat.le_of_ble_eq_true rfl, Nat.le_of_ble_eq_true rfl⟩ ⟨rfl, rfl⟩ (Nat.zero_le _) (Nat.zero_le _) (zc_weightAt_4_14 (S0 1076 3) (S0 1076 4) (S0 1076 13) (S0 1076 14) (S0 1076 15) (S0 1076 7) S60 n hn G_S60 (by omega) (by omega) (by omega) (by omega) (by omega) (by omega)) (fun v80 S79 hP => ?_)
    obtain ⟨rfl, o81⟩ := hP
    refine zz_callSJ [zi 5, zi v80] zd_3_6_97 zk_Compiler_132 rfl rfl ⟨Nat.le_of_ble_eq_true rfl, Nat.le_of_ble_eq_true rfl⟩ ⟨rfl, rfl⟩ (Nat.zero_le _) (Nat.zero_le _) (zc_bits_12_4 5 v80 S60 n hn G_S60 (by omega) (by omega)) (fun v83 S82 hP => ?_)
    obtain ⟨rfl, o84⟩ := hP
    refine zz_lor zd_3_6_100 (fun v85 hv85 ev85 => ?_)
    refine zz_bipush (by decide) zd_3_6_101 ?_
    refine zz_aload_n (x := 1076) rfl zd_3_6_103 ?_
    refine zz_getr (kd := 4) (z := S0 1076 3) zd_3_6_104 zf_Compiler_51 zT_1076 rfl (zz_ltn hn rfl) (zz_rc fS60 rfl rfl (by omega) rfl) (by omega) (zz_rf 6 (S0 1076 3)) rfl ?_
    have g86 := zz_G.r G_S0 (zz_rf 6 (S0 1076 3)) 12 (-2147483648) 2147483647 (zR_k6_12 (by omega)) (zB_k6 (by omega))
    refine zz_geti (z := S0 (zz_rf 6 (S0 1076 3)) 12) zd_3_6_107 zf_Compiler_79 (zT_k6 (by omega)) rfl (zN_k6 hn (by omega)) (zz_rc fS60 (zP_k6 (by omega) rfl) (zQ_k6 (by omega) rfl) (by omega) rfl) ?_
    refine zz_callSJ [zi 10, zi (S0 (zz_rf 6 (S0 1076 3)) 12)] zd_3_6_110 zk_Compiler_132 rfl rfl ⟨Nat.le_of_ble_eq_true rfl, Nat.le_of_ble_eq_true rfl⟩ ⟨rfl, rfl⟩ (Nat.zero_le _) (Nat.zero_le _) (zc_bits_12_4 10 (S0 (zz_rf 6 (S0 1076 3)) 12) S60 n hn G_S60 (by omega) (by omega)) (fun v88 S87 hP => ?_)
    obtain ⟨rfl, o89⟩ := hP
    refine zz_lor zd_3_6_113 (fun v90 hv90 ev90 => ?_)
    have g91 := zz_G.r G_S60 1076 1 0 1000000 rfl rfl
    refine zz_callVV [zl v90] zd_3_6_114 zk_Compiler_143 zT_1076 (zz_ltn hn rfl) rfl rfl ⟨Nat.le_of_ble_eq_true rfl, Nat.le_of_ble_eq_true rfl⟩ ⟨rfl, rfl⟩ (Nat.zero_le _) (Nat.zero_le _) (zc_emit_3_15 v90 S60 n hn G_S60 (by omega) (by omega)) (fun S92 hP => ?_)
    obtain ⟨G_S92, fS92, o94⟩ := hP
    have F_S92 := zz_fr.trans F_S60 fS92 rfl (fun a i h => Or.inr (Or.inl (h ▸ zM_k4 (z := (S60 1076 0)) (by omega) rfl)))
    have b95 := zz_rf4 (z := (S60 1076 0)) (by omega)
    have g96 := zz_G.r G_S92 1076 1 0 1000000 rfl rfl
    exact zz_vret zd_3_6_117 rfl (Nat.zero_le _) (Nat.zero_le _) ⟨_, rfl, G_S92, F_S92, by omega⟩
theorem zk_Compiler_151 : mm_Vl "TensorForge$Compiler" 151 9 1 zy_loadParameters_3_6 := ⟨zyw_loadParameters_3_6, (R_Compiler, F_Compiler, 17), rfl, mm_tb_1 1424 (by decide +kernel) rfl, mm_tb_1 1426 (by decide +kernel) rfl, mm_tb_s 65 (by decide +kernel) rfl⟩
theorem zd_3_5_21 : zz_D zy_makeGroup_3_5 21 (.aload_n 0) 1 22 := ⟨by decide +kernel, rfl⟩
theorem zd_3_5_22 : zz_D zy_makeGroup_3_5 22 (.aload_n 0) 1 23 := ⟨by decide +kernel, rfl⟩
theorem zd_3_5_23 : zz_D zy_makeGroup_3_5 23 (.getfield 112) 3 26 := ⟨by decide +kernel, rfl⟩
theorem zd_3_5_26 : zz_D zy_makeGroup_3_5 26 (.invokevirtual 155) 3 29 := ⟨by decide +kernel, rfl⟩
theorem zd_3_5_29 : zz_B zy_makeGroup_3_5 29 Instr.goto 102 32 := ⟨73, by decide +kernel, rfl, rfl⟩
-- TensorForge$Compiler makeGroup (ZZ)V
abbrev zr_makeGroup_3_5 : Room := { frames := 3, cells := 0, slots := 0, locals := 48 }
def zp_makeGroup_3_5 (p0 : Int) (p1 : Int) (S0 : zz_S) : zz_S → Prop := fun S => zz_G S ∧ zz_fr [(1076, 1)] [1029, 1030] (fun a i => a = zz_rf 4 (S0 1076 0)) S0 S ∧ (S0 1076 1 ≤ S 1076 1 ∧ S 1076 1 ≤ S0 1076 1 + 7)
theorem zc_makeGroup_3_5 {g : mm_G} {l : Launch} (p0 : Int) (p1 : Int) (S0 : zz_S) (n : Nat) (hn : zz_end ≤ n) (G_S0 : zz_G S0) (hp0 : 0 ≤ p0 ∧ p0 ≤ 1) (hp1 : 0 ≤ p1 ∧ p1 ≤ 1) (hq : S0 1076 1 ≤ 900000) (hl : 0 ≤ S0 1076 3 ∧ 0 ≤ S0 1076 4 ∧ 0 ≤ S0 1076 5) : mm_Met g l zy_makeGroup_3_5 zr_makeGroup_3_5 [.ref 1076, zi p0, zi p1] (zz_M S0 n) n (zz_QV n (zp_makeGroup_3_5 p0 p1 S0)) := by
  refine zz_enter (by decide) (Nat.le_of_ble_eq_true rfl) (zz_less (ls1 := [some (.ref 1076), some (zi p0), some (zi p1)]) ⟨rfl, ⟨rfl, ⟨rfl, trivial⟩⟩⟩ ?_)
  have F_S0 : zz_fr [(1076, 1)] [1029, 1030] (fun a i => a = zz_rf 4 (S0 1076 0)) S0 S0 := zz_fr.refl
  refine zz_aload_n (x := 1076) rfl zd_3_5_0 ?_
  have g1 := zz_G.r G_S0 1076 1 0 1000000 rfl rfl
  refine zz_geti (z := S0 1076 1) zd_3_5_1 zf_Compiler_15 zT_1076 rfl (zz_ltn hn rfl) rfl ?_
  refine zz_istore_n [some (.ref 1076), some (zi p0), some (zi p1), some (zi (S0 1076 1))] zd_3_5_4 (by decide) rfl ?_
  refine zz_aload_n (x := 1076) rfl zd_3_5_5 ?_
  have g2 := zz_G.r G_S0 1076 3 (-1) 23 rfl rfl
  refine zz_getr (kd := 4) (z := S0 1076 3) zd_3_5_6 zf_Compiler_51 zT_1076 rfl (zz_ltn hn rfl) rfl (by omega) (zz_rf 6 (S0 1076 3)) rfl ?_
  have g3 := zz_G.r G_S0 (zz_rf 6 (S0 1076 3)) 0 (-2147483648) 2147483647 (zR_k6_0 (by omega)) (zB_k6 (by omega))
  refine zz_geti (z := S0 (zz_rf 6 (S0 1076 3)) 0) zd_3_5_9 zf_Compiler_61 (zT_k6 (by omega)) rfl (zN_k6 hn (by omega)) rfl ?_
  refine zz_iconst zd_3_5_12 ?_
  refine zz_icmp_ne (by omega) (by omega) zd_3_5_13 (fun c4 => ?_) (fun c4 => ?_)
  · refine zz_aload_n (x := 1076) rfl zd_3_5_32 ?_
    refine zz_getr (kd := 4) (z := S0 1076 3) zd_3_5_33 zf_Compiler_51 zT_1076 rfl (zz_ltn hn rfl) rfl (by omega) (zz_rf 6 (S0 1076 3)) rfl ?_
    refine zz_geti (z := S0 (zz_rf 6 (S0 1076 3)) 0) zd_3_5_36 zf_Compiler_61 (zT_k6 (by omega)) rfl (zN_k6 hn (by omega)) rfl ?_
    refine zz_iconst zd_3_5_39 ?_
    refine zz_icmp_ne (by omega) (by omega) zd_3_5_40 (fun c5 => ?_) (fun c5 => ?_)
    · refine zz_aload_n (x := 1076) rfl zd_3_5_54 ?_
      have g6 := zz_G.r G_S0 1076 14 (-2147483648) 2147483647 rfl rfl
      refine zz_geti (z := S0 1076 14) zd_3_5_55 zf_Compiler_109 zT_1076 rfl (zz_ltn hn rfl) rfl ?_
      refine zz_if_ne (by omega) zd_3_5_58 (fun c7 => ?_) (fun c7 => ?_)
      · refine zz_aload_n (x := 1076) rfl zd_3_5_68 ?_
        have g8 := zz_G.r G_S0 1076 5 (-1) 23 rfl rfl
        refine zz_getr (kd := 4) (z := S0 1076 5) zd_3_5_69 zf_Compiler_58 zT_1076 rfl (zz_ltn hn rfl) rfl (by omega) (zz_rf 6 (S0 1076 5)) rfl ?_
        refine zz_astore [some (.ref 1076), some (zi p0), some (zi p1), some (zi (S0 1076 1)), some (.ref (zz_rf 6 (S0 1076 5)))] zd_3_5_72 (by decide) rfl ?_
        refine zz_aload_n (x := 1076) rfl zd_3_5_74 ?_
        refine zz_iconst zd_3_5_75 ?_
        refine zz_aload_n (x := 1076) rfl zd_3_5_76 ?_
        have g9 := zz_G.r G_S0 1076 11 (-2147483648) 2147483647 rfl rfl
        refine zz_geti (z := S0 1076 11) zd_3_5_77 zf_Compiler_91 zT_1076 rfl (zz_ltn hn rfl) rfl ?_
        refine zz_aload (x := zz_rf 6 (S0 1076 5)) rfl zd_3_5_80 ?_
        refine zz_iconst zd_3_5_82 ?_
        refine zz_aload_n (x := 1076) rfl zd_3_5_83 ?_
        have g10 := zz_G.r G_S0 1076 10 (-2147483648) 2147483647 rfl rfl
        refine zz_geti (z := S0 1076 10) zd_3_5_84 zf_Compiler_88 zT_1076 rfl (zz_ltn hn rfl) rfl ?_
        refine zz_aload_n (x := 1076) rfl zd_3_5_87 ?_
        have g11 := zz_G.r G_S0 1076 7 (-2147483648) 2147483647 rfl rfl
        refine zz_geti (z := S0 1076 7) zd_3_5_88 zf_Compiler_76 zT_1076 rfl (zz_ltn hn rfl) rfl ?_
        refine zz_callVI [zi 0, zi (S0 1076 10), zi (S0 1076 7)] zd_3_5_91 zk_Compiler_147 (zT_k6 (by omega)) (zN_k6 hn (by omega)) rfl rfl ⟨Nat.le_of_ble_eq_true rfl, Nat.le_of_ble_eq_true rfl⟩ ⟨rfl, rfl⟩ (Nat.zero_le _) (Nat.zero_le _) (zc_cellAt_4_15 (S0 1076 5) 0 (S0 1076 10) (S0 1076 7) S0 n hn G_S0 (by omega) (by omega) (by omega) (by omega)) (fun v13 S12 hP => ?_)
        obtain ⟨rfl, o14⟩ := hP
        refine zz_aload (x := zz_rf 6 (S0 1076 5)) rfl zd_3_5_94 ?_
        have g15 := zz_G.r G_S0 (zz_rf 6 (S0 1076 5)) 12 (-2147483648) 2147483647 (zR_k6_12 (by omega)) (zB_k6 (by omega))
        refine zz_geti (z := S0 (zz_rf 6 (S0 1076 5)) 12) zd_3_5_96 zf_Compiler_79 (zT_k6 (by omega)) rfl (zN_k6 hn (by omega)) rfl ?_
        have g16 := zz_G.r G_S0 1076 4 (-1) 23 rfl rfl
        refine zz_callVV [zi 0, zi (S0 1076 11), zi v13, zi (S0 (zz_rf 6 (S0 1076 5)) 12)] zd_3_5_99 zk_Compiler_159 zT_1076 (zz_ltn hn rfl) rfl rfl ⟨Nat.le_of_ble_eq_true rfl, Nat.le_of_ble_eq_true rfl⟩ ⟨rfl, rfl⟩ (Nat.zero_le _) (Nat.zero_le _) (zc_loadPlaces_3_10 0 (S0 1076 11) v13 (S0 (zz_rf 6 (S0 1076 5)) 12) S0 n hn G_S0 (by omega) (by omega) (by omega) (by omega) (by omega) (by omega)) (fun S17 hP => ?_)
        obtain ⟨G_S17, fS17, o19⟩ := hP
        have F_S17 := zz_fr.trans F_S0 fS17 rfl (fun a i h => Or.inr (Or.inr (h)))
        have b20 := zz_rf4 (z := (S0 1076 0)) (by omega)
        refine zz_aload_n (x := 1076) rfl zd_3_5_102 ?_
        have g21 := zz_G.r G_S0 1076 12 (-2147483648) 2147483647 rfl rfl
        refine zz_geti (z := S0 1076 12) zd_3_5_103 zf_Compiler_73 zT_1076 rfl (zz_ltn hn rfl) (zz_rc fS17 rfl rfl (by omega) rfl) ?_
        refine zz_iconst zd_3_5_106 ?_
        refine zz_icmp_le (by omega) (by omega) zd_3_5_107 (fun c22 => ?_) (fun c22 => ?_)
        · refine zz_aload_n (x := 1076) rfl zd_3_5_116 ?_
          refine zz_aload_n (x := 1076) rfl zd_3_5_117 ?_
          have g23 := zz_G.r G_S17 1076 1 0 1000000 rfl rfl
          refine zz_geti (z := S17 1076 1) zd_3_5_118 zf_Compiler_15 zT_1076 rfl (zz_ltn hn rfl) rfl ?_
          refine zz_iconst zd_3_5_121 ?_
          refine zz_isub zd_3_5_122 ?_
          refine zz_iconst zd_3_5_123 ?_
          refine zz_callVV [zi ((S17 1076 1) - 1), zi 4] zd_3_5_124 zk_Compiler_163 zT_1076 (zz_ltn hn rfl) rfl rfl ⟨Nat.le_of_ble_eq_true rfl, Nat.le_of_ble_eq_true rfl⟩ ⟨rfl, rfl⟩ (Nat.zero_le _) (Nat.zero_le _) (zc_mark_3_16 ((S17 1076 1) - 1) 4 S17 n hn G_S17 (by omega) (by omega)) (fun S24 hP => ?_)
          obtain ⟨G_S24, fS24⟩ := hP
          have F_S24 := zz_fr.trans F_S17 fS24 rfl (fun a i h => Or.inr (Or.inl (h ▸ zM_k4 (z := (S17 1076 0)) (by omega) rfl)))
          have b26 := zz_rf4 (z := (S17 1076 0)) (by omega)
          refine zz_aload_n (x := 1076) rfl zd_3_5_127 ?_
          refine zz_iload_n (x := p0) rfl zd_3_5_128 ?_
          have e27 : S24 1076 3 = S0 1076 3 := (zz_rc fS24 rfl rfl (by omega) (zz_rc fS17 rfl rfl (by omega) rfl))
          have e28 : S24 1076 4 = S0 1076 4 := (zz_rc fS24 rfl rfl (by omega) (zz_rc fS17 rfl rfl (by omega) rfl))
          have e29 : S24 1076 5 = S0 1076 5 := (zz_rc fS24 rfl rfl (by omega) (zz_rc fS17 rfl rfl (by omega) rfl))
          refine zz_callVJ [zi p0] zd_3_5_129 zk_Compiler_167 zT_1076 (zz_ltn hn rfl) rfl rfl ⟨Nat.le_of_ble_eq_true rfl, Nat.le_of_ble_eq_true rfl⟩ ⟨rfl, rfl⟩ (Nat.zero_le _) (Nat.zero_le _) (zc_workOf_3_11 p0 S24 n hn G_S24 (by omega) (by omega)) (fun v31 S30 hP => ?_)
          obtain ⟨rfl, o32⟩ := hP
          refine zz_iconst zd_3_5_132 ?_
          refine zz_callSJ [zi 1] zd_3_5_133 zk_Compiler_139 rfl rfl ⟨Nat.le_of_ble_eq_true rfl, Nat.le_of_ble_eq_true rfl⟩ ⟨rfl, rfl⟩ (Nat.zero_le _) (Nat.zero_le _) (zc_flag_12_5 1 S24 n hn G_S24 (by omega)) (fun v34 S33 hP => ?_)
          obtain ⟨rfl, o35⟩ := hP
          refine zz_lor zd_3_5_136 (fun v36 hv36 ev36 => ?_)
          refine zz_lstore [some (.ref 1076), some (zi p0), some (zi p1), some (zi (S0 1076 1)), some (zl v36), none] zd_3_5_137 (by decide) rfl ?_
          refine zz_aload_n (x := 1076) rfl zd_3_5_139 ?_
          refine zz_iload_n (x := p1) rfl zd_3_5_140 ?_
          refine zz_if_eq (by omega) zd_3_5_141 (fun c37 => ?_) (fun c37 => ?_)
          · refine zz_lload (x := v36) rfl zd_3_5_149 ?_
            refine zz_iconst zd_3_5_151 ?_
            refine zz_callSJ [zi 3] zd_3_5_152 zk_Compiler_139 rfl rfl ⟨Nat.le_of_ble_eq_true rfl, Nat.le_of_ble_eq_true rfl⟩ ⟨rfl, rfl⟩ (Nat.zero_le _) (Nat.zero_le _) (zc_flag_12_5 3 S24 n hn G_S24 (by omega)) (fun v39 S38 hP => ?_)
            obtain ⟨rfl, o40⟩ := hP
            refine zz_lor zd_3_5_155 (fun v41 hv41 ev41 => ?_)
            have e42 : S24 1076 1 = S17 1076 1 := (zz_rc fS24 rfl rfl (by omega) rfl)
            refine zz_callVV [zl v41] zd_3_5_156 zk_Compiler_143 zT_1076 (zz_ltn hn rfl) rfl rfl ⟨Nat.le_of_ble_eq_true rfl, Nat.le_of_ble_eq_true rfl⟩ ⟨rfl, rfl⟩ (Nat.zero_le _) (Nat.zero_le _) (zc_emit_3_15 v41 S24 n hn G_S24 (by omega) (by omega)) (fun S43 hP => ?_)
            obtain ⟨G_S43, fS43, o45⟩ := hP
            have F_S43 := zz_fr.trans F_S24 fS43 rfl (fun a i h => Or.inr (Or.inl (h ▸ zM_k4 (z := (S24 1076 0)) (by omega) rfl)))
            have b46 := zz_rf4 (z := (S24 1076 0)) (by omega)
            have g47 := zz_G.r G_S43 1076 1 0 1000000 rfl rfl
            exact zz_vret zd_3_5_159 rfl (Nat.zero_le _) (Nat.zero_le _) ⟨_, rfl, G_S43, F_S43, by omega⟩
          · refine zz_lload (x := v36) rfl zd_3_5_144 ?_
            refine zz_goto zd_3_5_146 ?_
            have e48 : S24 1076 1 = S17 1076 1 := (zz_rc fS24 rfl rfl (by omega) rfl)
            refine zz_callVV [zl v36] zd_3_5_156 zk_Compiler_143 zT_1076 (zz_ltn hn rfl) rfl rfl ⟨Nat.le_of_ble_eq_true rfl, Nat.le_of_ble_eq_true rfl⟩ ⟨rfl, rfl⟩ (Nat.zero_le _) (Nat.zero_le _) (zc_emit_3_15 v36 S24 n hn G_S24 (by omega) (by omega)) (fun S49 hP => ?_)
            obtain ⟨G_S49, fS49, o51⟩ := hP
            have F_S49 := zz_fr.trans F_S24 fS49 rfl (fun a i h => Or.inr (Or.inl (h ▸ zM_k4 (z := (S24 1076 0)) (by omega) rfl)))
            have b52 := zz_rf4 (z := (S24 1076 0)) (by omega)
            have g53 := zz_G.r G_S49 1076 1 0 1000000 rfl rfl
            exact zz_vret zd_3_5_159 rfl (Nat.zero_le _) (Nat.zero_le _) ⟨_, rfl, G_S49, F_S49, by omega⟩
        · refine zz_aload_n (x := 1076) rfl zd_3_5_110 ?_
          refine zz_iload_n (x := S0 1076 1) rfl zd_3_5_111 ?_
          refine zz_iconst zd_3_5_112 ?_
          refine zz_callVV [zi (S0 1076 1), zi 2] zd_3_5_113 zk_Compiler_163 zT_1076 (zz_ltn hn rfl) rfl rfl ⟨Nat.le_of_ble_eq_true rfl, Nat.le_of_ble_eq_true rfl⟩ ⟨rfl, rfl⟩ (Nat.zero_le _) (Nat.zero_le _) (zc_mark_3_16 (S0 1076 1) 2 S17 n hn G_S17 (by omega) (by omega)) (fun S54 hP => ?_)
          obtain ⟨G_S54, fS54⟩ := hP
          have F_S54 := zz_fr.trans F_S17 fS54 rfl (fun a i h => Or.inr (Or.inl (h ▸ zM_k4 (z := (S17 1076 0)) (by omega) rfl)))
          have b56 := zz_rf4 (z := (S17 1076 0)) (by omega)
          refine zz_aload_n (x := 1076) rfl zd_3_5_116 ?_
          refine zz_aload_n (x := 1076) rfl zd_3_5_117 ?_
          have g57 := zz_G.r G_S17 1076 1 0 1000000 rfl rfl
          refine zz_geti (z := S17 1076 1) zd_3_5_118 zf_Compiler_15 zT_1076 rfl (zz_ltn hn rfl) (zz_rc fS54 rfl rfl (by omega) rfl) ?_
          refine zz_iconst zd_3_5_121 ?_
          refine zz_isub zd_3_5_122 ?_
          refine zz_iconst zd_3_5_123 ?_
          refine zz_callVV [zi ((S17 1076 1) - 1), zi 4] zd_3_5_124 zk_Compiler_163 zT_1076 (zz_ltn hn rfl) rfl rfl ⟨Nat.le_of_ble_eq_true rfl, Nat.le_of_ble_eq_true rfl⟩ ⟨rfl, rfl⟩ (Nat.zero_le _) (Nat.zero_le _) (zc_mark_3_16 ((S17 1076 1) - 1) 4 S54 n hn G_S54 (by omega) (by omega)) (fun S58 hP => ?_)
          obtain ⟨G_S58, fS58⟩ := hP
          have F_S58 := zz_fr.trans F_S54 fS58 rfl (fun a i h => Or.inr (Or.inl (h ▸ zM_k4 (z := (S54 1076 0)) (by omega) rfl)))
          have b60 := zz_rf4 (z := (S54 1076 0)) (by omega)
          refine zz_aload_n (x := 1076) rfl zd_3_5_127 ?_
          refine zz_iload_n (x := p0) rfl zd_3_5_128 ?_
          have e61 : S58 1076 3 = S0 1076 3 := (zz_rc fS58 rfl rfl (by omega) (zz_rc fS54 rfl rfl (by omega) (zz_rc fS17 rfl rfl (by omega) rfl)))
          have e62 : S58 1076 4 = S0 1076 4 := (zz_rc fS58 rfl rfl (by omega) (zz_rc fS54 rfl rfl (by omega) (zz_rc fS17 rfl rfl (by omega) rfl)))
          have e63 : S58 1076 5 = S0 1076 5 := (zz_rc fS58 rfl rfl (by omega) (zz_rc fS54 rfl rfl (by omega) (zz_rc fS17 rfl rfl (by omega) rfl)))
          refine zz_callVJ [zi p0] zd_3_5_129 zk_Compiler_167 zT_1076 (zz_ltn hn rfl) rfl rfl ⟨Nat.le_of_ble_eq_true rfl, Nat.le_of_ble_eq_true rfl⟩ ⟨rfl, rfl⟩ (Nat.zero_le _) (Nat.zero_le _) (zc_workOf_3_11 p0 S58 n hn G_S58 (by omega) (by omega)) (fun v65 S64 hP => ?_)
          obtain ⟨rfl, o66⟩ := hP
          refine zz_iconst zd_3_5_132 ?_
          refine zz_callSJ [zi 1] zd_3_5_133 zk_Compiler_139 rfl rfl ⟨Nat.le_of_ble_eq_true rfl, Nat.le_of_ble_eq_true rfl⟩ ⟨rfl, rfl⟩ (Nat.zero_le _) (Nat.zero_le _) (zc_flag_12_5 1 S58 n hn G_S58 (by omega)) (fun v68 S67 hP => ?_)
          obtain ⟨rfl, o69⟩ := hP
          refine zz_lor zd_3_5_136 (fun v70 hv70 ev70 => ?_)
          refine zz_lstore [some (.ref 1076), some (zi p0), some (zi p1), some (zi (S0 1076 1)), some (zl v70), none] zd_3_5_137 (by decide) rfl ?_
          refine zz_aload_n (x := 1076) rfl zd_3_5_139 ?_
          refine zz_iload_n (x := p1) rfl zd_3_5_140 ?_
          refine zz_if_eq (by omega) zd_3_5_141 (fun c71 => ?_) (fun c71 => ?_)
          · refine zz_lload (x := v70) rfl zd_3_5_149 ?_
            refine zz_iconst zd_3_5_151 ?_
            refine zz_callSJ [zi 3] zd_3_5_152 zk_Compiler_139 rfl rfl ⟨Nat.le_of_ble_eq_true rfl, Nat.le_of_ble_eq_true rfl⟩ ⟨rfl, rfl⟩ (Nat.zero_le _) (Nat.zero_le _) (zc_flag_12_5 3 S58 n hn G_S58 (by omega)) (fun v73 S72 hP => ?_)
            obtain ⟨rfl, o74⟩ := hP
            refine zz_lor zd_3_5_155 (fun v75 hv75 ev75 => ?_)
            have e76 : S58 1076 1 = S17 1076 1 := (zz_rc fS58 rfl rfl (by omega) (zz_rc fS54 rfl rfl (by omega) rfl))
            refine zz_callVV [zl v75] zd_3_5_156 zk_Compiler_143 zT_1076 (zz_ltn hn rfl) rfl rfl ⟨Nat.le_of_ble_eq_true rfl, Nat.le_of_ble_eq_true rfl⟩ ⟨rfl, rfl⟩ (Nat.zero_le _) (Nat.zero_le _) (zc_emit_3_15 v75 S58 n hn G_S58 (by omega) (by omega)) (fun S77 hP => ?_)
            obtain ⟨G_S77, fS77, o79⟩ := hP
            have F_S77 := zz_fr.trans F_S58 fS77 rfl (fun a i h => Or.inr (Or.inl (h ▸ zM_k4 (z := (S58 1076 0)) (by omega) rfl)))
            have b80 := zz_rf4 (z := (S58 1076 0)) (by omega)
            have g81 := zz_G.r G_S77 1076 1 0 1000000 rfl rfl
            exact zz_vret zd_3_5_159 rfl (Nat.zero_le _) (Nat.zero_le _) ⟨_, rfl, G_S77, F_S77, by omega⟩
          · refine zz_lload (x := v70) rfl zd_3_5_144 ?_
            refine zz_goto zd_3_5_146 ?_
            have e82 : S58 1076 1 = S17 1076 1 := (zz_rc fS58 rfl rfl (by omega) (zz_rc fS54 rfl rfl (by omega) rfl))
            refine zz_callVV [zl v70] zd_3_5_156 zk_Compiler_143 zT_1076 (zz_ltn hn rfl) rfl rfl ⟨Nat.le_of_ble_eq_true rfl, Nat.le_of_ble_eq_true rfl⟩ ⟨rfl, rfl⟩ (Nat.zero_le _) (Nat.zero_le _) (zc_emit_3_15 v70 S58 n hn G_S58 (by omega) (by omega)) (fun S83 hP => ?_)
            obtain ⟨G_S83, fS83, o85⟩ := hP
            have F_S83 := zz_fr.trans F_S58 fS83 rfl (fun a i h => Or.inr (Or.inl (h ▸ zM_k4 (z := (S58 1076 0)) (by omega) rfl)))
            have b86 := zz_rf4 (z := (S58 1076 0)) (by omega)
            have g87 := zz_G.r G_S83 1076 1 0 1000000 rfl rfl
            exact zz_vret zd_3_5_159 rfl (Nat.zero_le _) (Nat.zero_le _) ⟨_, rfl, G_S83, F_S83, by omega⟩
      · refine zz_aload_n (x := 1076) rfl zd_3_5_61 ?_
        have g88 := zz_G.r G_S0 1076 4 (-1) 23 rfl rfl
        refine zz_getr (kd := 4) (z := S0 1076 4) zd_3_5_62 zf_Compiler_55 zT_1076 rfl (zz_ltn hn rfl) rfl (by omega) (zz_rf 6 (S0 1076 4)) rfl ?_
        refine zz_goto zd_3_5_65 ?_
        refine zz_astore [some (.ref 1076), some (zi p0), some (zi p1), some (zi (S0 1076 1)), some (.ref (zz_rf 6 (S0 1076 4)))] zd_3_5_72 (by decide) rfl ?_
        refine zz_aload_n (x := 1076) rfl zd_3_5_74 ?_
        refine zz_iconst zd_3_5_75 ?_
        refine zz_aload_n (x := 1076) rfl zd_3_5_76 ?_
        have g89 := zz_G.r G_S0 1076 11 (-2147483648) 2147483647 rfl rfl
        refine zz_geti (z := S0 1076 11) zd_3_5_77 zf_Compiler_91 zT_1076 rfl (zz_ltn hn rfl) rfl ?_
        refine zz_aload (x := zz_rf 6 (S0 1076 4)) rfl zd_3_5_80 ?_
        refine zz_iconst zd_3_5_82 ?_
        refine zz_aload_n (x := 1076) rfl zd_3_5_83 ?_
        have g90 := zz_G.r G_S0 1076 10 (-2147483648) 2147483647 rfl rfl
        refine zz_geti (z := S0 1076 10) zd_3_5_84 zf_Compiler_88 zT_1076 rfl (zz_ltn hn rfl) rfl ?_
        refine zz_aload_n (x := 1076) rfl zd_3_5_87 ?_
        have g91 := zz_G.r G_S0 1076 7 (-2147483648) 2147483647 rfl rfl
        refine zz_geti (z := S0 1076 7) zd_3_5_88 zf_Compiler_76 zT_1076 rfl (zz_ltn hn rfl) rfl ?_
        refine zz_callVI [zi 0, zi (S0 1076 10), zi (S0 1076 7)] zd_3_5_91 zk_Compiler_147 (zT_k6 (by omega)) (zN_k6 hn (by omega)) rfl rfl ⟨Nat.le_of_ble_eq_true rfl, Nat.le_of_ble_eq_true rfl⟩ ⟨rfl, rfl⟩ (Nat.zero_le _) (Nat.zero_le _) (zc_cellAt_4_15 (S0 1076 4) 0 (S0 1076 10) (S0 1076 7) S0 n hn G_S0 (by omega) (by omega) (by omega) (by omega)) (fun v93 S92 hP => ?_)
        obtain ⟨rfl, o94⟩ := hP
        refine zz_aload (x := zz_rf 6 (S0 1076 4)) rfl zd_3_5_94 ?_
        have g95 := zz_G.r G_S0 (zz_rf 6 (S0 1076 4)) 12 (-2147483648) 2147483647 (zR_k6_12 (by omega)) (zB_k6 (by omega))
        refine zz_geti (z := S0 (zz_rf 6 (S0 1076 4)) 12) zd_3_5_96 zf_Compiler_79 (zT_k6 (by omega)) rfl (zN_k6 hn (by omega)) rfl ?_
        have g96 := zz_G.r G_S0 1076 5 (-1) 23 rfl rfl
        refine zz_callVV [zi 0, zi (S0 1076 11), zi v93, zi (S0 (zz_rf 6 (S0 1076 4)) 12)] zd_3_5_99 zk_Compiler_159 zT_1076 (zz_ltn hn rfl) rfl rfl ⟨Nat.le_of_ble_eq_true rfl, Nat.le_of_ble_eq_true rfl⟩ ⟨rfl, rfl⟩ (Nat.zero_le _) (Nat.zero_le _) (zc_loadPlaces_3_10 0 (S0 1076 11) v93 (S0 (zz_rf 6 (S0 1076 4)) 12) S0 n hn G_S0 (by omega) (by omega) (by omega) (by omega) (by omega) (by omega)) (fun S97 hP => ?_)
        obtain ⟨G_S97, fS97, o99⟩ := hP
        have F_S97 := zz_fr.trans F_S0 fS97 rfl (fun a i h => Or.inr (Or.inr (h)))
        have b100 := zz_rf4 (z := (S0 1076 0)) (by omega)
        refine zz_aload_n (x := 1076) rfl zd_3_5_102 ?_
        have g101 := zz_G.r G_S0 1076 12 (-2147483648) 2147483647 rfl rfl
        refine zz_geti (z := S0 1076 12) zd_3_5_103 zf_Compiler_73 zT_1076 rfl (zz_ltn hn rfl) (zz_rc fS97 rfl rfl (by omega) rfl) ?_
        refine zz_iconst zd_3_5_106 ?_
        refine zz_icmp_le (by omega) (by omega) zd_3_5_107 (fun c102 => ?_) (fun c102 => ?_)
        · refine zz_aload_n (x := 1076) rfl zd_3_5_116 ?_
          refine zz_aload_n (x := 1076) rfl zd_3_5_117 ?_
          have g103 := zz_G.r G_S97 1076 1 0 1000000 rfl rfl
          refine zz_geti (z := S97 1076 1) zd_3_5_118 zf_Compiler_15 zT_1076 rfl (zz_ltn hn rfl) rfl ?_
          refine zz_iconst zd_3_5_121 ?_
          refine zz_isub zd_3_5_122 ?_
          refine zz_iconst zd_3_5_123 ?_
          refine zz_callVV [zi ((S97 1076 1) - 1), zi 4] zd_3_5_124 zk_Compiler_163 zT_1076 (zz_ltn hn rfl) rfl rfl ⟨Nat.le_of_ble_eq_true rfl, Nat.le_of_ble_eq_true rfl⟩ ⟨rfl, rfl⟩ (Nat.zero_le _) (Nat.zero_le _) (zc_mark_3_16 ((S97 1076 1) - 1) 4 S97 n hn G_S97 (by omega) (by omega)) (fun S104 hP => ?_)
          obtain ⟨G_S104, fS104⟩ := hP
          have F_S104 := zz_fr.trans F_S97 fS104 rfl (fun a i h => Or.inr (Or.inl (h ▸ zM_k4 (z := (S97 1076 0)) (by omega) rfl)))
          have b106 := zz_rf4 (z := (S97 1076 0)) (by omega)
          refine zz_aload_n (x := 1076) rfl zd_3_5_127 ?_
          refine zz_iload_n (x := p0) rfl zd_3_5_128 ?_
          have e107 : S104 1076 3 = S0 1076 3 := (zz_rc fS104 rfl rfl (by omega) (zz_rc fS97 rfl rfl (by omega) rfl))
          have e108 : S104 1076 4 = S0 1076 4 := (zz_rc fS104 rfl rfl (by omega) (zz_rc fS97 rfl rfl (by omega) rfl))
          have e109 : S104 1076 5 = S0 1076 5 := (zz_rc fS104 rfl rfl (by omega) (zz_rc fS97 rfl rfl (by omega) rfl))
          refine zz_callVJ [zi p0] zd_3_5_129 zk_Compiler_167 zT_1076 (zz_ltn hn rfl) rfl rfl ⟨Nat.le_of_ble_eq_true rfl, Nat.le_of_ble_eq_true rfl⟩ ⟨rfl, rfl⟩ (Nat.zero_le _) (Nat.zero_le _) (zc_workOf_3_11 p0 S104 n hn G_S104 (by omega) (by omega)) (fun v111 S110 hP => ?_)
          obtain ⟨rfl, o112⟩ := hP
          refine zz_iconst zd_3_5_132 ?_
          refine zz_callSJ [zi 1] zd_3_5_133 zk_Compiler_139 rfl rfl ⟨Nat.le_of_ble_eq_true rfl, Nat.le_of_ble_eq_true rfl⟩ ⟨rfl, rfl⟩ (Nat.zero_le _) (Nat.zero_le _) (zc_flag_12_5 1 S104 n hn G_S104 (by omega)) (fun v114 S113 hP => ?_)
          obtain ⟨rfl, o115⟩ := hP
          refine zz_lor zd_3_5_136 (fun v116 hv116 ev116 => ?_)
          refine zz_lstore [some (.ref 1076), some (zi p0), some (zi p1), some (zi (S0 1076 1)), some (zl v116), none] zd_3_5_137 (by decide) rfl ?_
          refine zz_aload_n (x := 1076) rfl zd_3_5_139 ?_
          refine zz_iload_n (x := p1) rfl zd_3_5_140 ?_
          refine zz_if_eq (by omega) zd_3_5_141 (fun c117 => ?_) (fun c117 => ?_)
          · refine zz_lload (x := v116) rfl zd_3_5_149 ?_
            refine zz_iconst zd_3_5_151 ?_
            refine zz_callSJ [zi 3] zd_3_5_152 zk_Compiler_139 rfl rfl ⟨Nat.le_of_ble_eq_true rfl, Nat.le_of_ble_eq_true rfl⟩ ⟨rfl, rfl⟩ (Nat.zero_le _) (Nat.zero_le _) (zc_flag_12_5 3 S104 n hn G_S104 (by omega)) (fun v119 S118 hP => ?_)
            obtain ⟨rfl, o120⟩ := hP
            refine zz_lor zd_3_5_155 (fun v121 hv121 ev121 => ?_)
            have e122 : S104 1076 1 = S97 1076 1 := (zz_rc fS104 rfl rfl (by omega) rfl)
            refine zz_callVV [zl v121] zd_3_5_156 zk_Compiler_143 zT_1076 (zz_ltn hn rfl) rfl rfl ⟨Nat.le_of_ble_eq_true rfl, Nat.le_of_ble_eq_true rfl⟩ ⟨rfl, rfl⟩ (Nat.zero_le _) (Nat.zero_le _) (zc_emit_3_15 v121 S104 n hn G_S104 (by omega) (by omega)) (fun S123 hP => ?_)
            obtain ⟨G_S123, fS123, o125⟩ := hP
            have F_S123 := zz_fr.trans F_S104 fS123 rfl (fun a i h => Or.inr (Or.inl (h ▸ zM_k4 (z := (S104 1076 0)) (by omega) rfl)))
            have b126 := zz_rf4 (z := (S104 1076 0)) (by omega)
            have g127 := zz_G.r G_S123 1076 1 0 1000000 rfl rfl
            exact zz_vret zd_3_5_159 rfl (Nat.zero_le _) (Nat.zero_le _) ⟨_, rfl, G_S123, F_S123, by omega⟩
          · refine zz_lload (x := v116) rfl zd_3_5_144 ?_
            refine zz_goto zd_3_5_146 ?_
            have e128 : S104 1076 1 = S97 1076 1 := (zz_rc fS104 rfl rfl (by omega) rfl)
            refine zz_callVV [zl v116] zd_3_5_156 zk_Compiler_143 zT_1076 (zz_ltn hn rfl) rfl rfl ⟨Nat.le_of_ble_eq_true rfl, Nat.le_of_ble_eq_true rfl⟩ ⟨rfl, rfl⟩ (Nat.zero_le _) (Nat.zero_le _) (zc_emit_3_15 v116 S104 n hn G_S104 (by omega) (by omega)) (fun S129 hP => ?_)
            obtain ⟨G_S129, fS129, o131⟩ := hP
            have F_S129 := zz_fr.trans F_S104 fS129 rfl (fun a i h => Or.inr (Or.inl (h ▸ zM_k4 (z := (S104 1076 0)) (by omega) rfl)))
            have b132 := zz_rf4 (z := (S104 1076 0)) (by omega)
            have g133 := zz_G.r G_S129 1076 1 0 1000000 rfl rfl
            exact zz_vret zd_3_5_159 rfl (Nat.zero_le _) (Nat.zero_le _) ⟨_, rfl, G_S129, F_S129, by omega⟩
        · refine zz_aload_n (x := 1076) rfl zd_3_5_110 ?_
          refine zz_iload_n (x := S0 1076 1) rfl zd_3_5_111 ?_
          refine zz_iconst zd_3_5_112 ?_
          refine zz_callVV [zi (S0 1076 1), zi 2] zd_3_5_113 zk_Compiler_163 zT_1076 (zz_ltn hn rfl) rfl rfl ⟨Nat.le_of_ble_eq_true rfl, Nat.le_of_ble_eq_true rfl⟩ ⟨rfl, rfl⟩ (Nat.zero_le _) (Nat.zero_le _) (zc_mark_3_16 (S0 1076 1) 2 S97 n hn G_S97 (by omega) (by omega)) (fun S134 hP => ?_)
          obtain ⟨G_S134, fS134⟩ := hP
          have F_S134 := zz_fr.trans F_S97 fS134 rfl (fun a i h => Or.inr (Or.inl (h ▸ zM_k4 (z := (S97 1076 0)) (by omega) rfl)))
          have b136 := zz_rf4 (z := (S97 1076 0)) (by omega)
          refine zz_aload_n (x := 1076) rfl zd_3_5_116 ?_
          refine zz_aload_n (x := 1076) rfl zd_3_5_117 ?_
          have g137 := zz_G.r G_S97 1076 1 0 1000000 rfl rfl
          refine zz_geti (z := S97 1076 1) zd_3_5_118 zf_Compiler_15 zT_1076 rfl (zz_ltn hn rfl) (zz_rc fS134 rfl rfl (by omega) rfl) ?_
          refine zz_iconst zd_3_5_121 ?_
          refine zz_isub zd_3_5_122 ?_
          refine zz_iconst zd_3_5_123 ?_
          refine zz_callVV [zi ((S97 1076 1) - 1), zi 4] zd_3_5_124 zk_Compiler_163 zT_1076 (zz_ltn hn rfl) rfl rfl ⟨Nat.le_of_ble_eq_true rfl, Nat.le_of_ble_eq_true rfl⟩ ⟨rfl, rfl⟩ (Nat.zero_le _) (Nat.zero_le _) (zc_mark_3_16 ((S97 1076 1) - 1) 4 S134 n hn G_S134 (by omega) (by omega)) (fun S138 hP => ?_)
          obtain ⟨G_S138, fS138⟩ := hP
          have F_S138 := zz_fr.trans F_S134 fS138 rfl (fun a i h => Or.inr (Or.inl (h ▸ zM_k4 (z := (S134 1076 0)) (by omega) rfl)))
          have b140 := zz_rf4 (z := (S134 1076 0)) (by omega)
          refine zz_aload_n (x := 1076) rfl zd_3_5_127 ?_
          refine zz_iload_n (x := p0) rfl zd_3_5_128 ?_
          have e141 : S138 1076 3 = S0 1076 3 := (zz_rc fS138 rfl rfl (by omega) (zz_rc fS134 rfl rfl (by omega) (zz_rc fS97 rfl rfl (by omega) rfl)))
          have e142 : S138 1076 4 = S0 1076 4 := (zz_rc fS138 rfl rfl (by omega) (zz_rc fS134 rfl rfl (by omega) (zz_rc fS97 rfl rfl (by omega) rfl)))
          have e143 : S138 1076 5 = S0 1076 5 := (zz_rc fS138 rfl rfl (by omega) (zz_rc fS134 rfl rfl (by omega) (zz_rc fS97 rfl rfl (by omega) rfl)))
          refine zz_callVJ [zi p0] zd_3_5_129 zk_Compiler_167 zT_1076 (zz_ltn hn rfl) rfl rfl ⟨Nat.le_of_ble_eq_true rfl, Nat.le_of_ble_eq_true rfl⟩ ⟨rfl, rfl⟩ (Nat.zero_le _) (Nat.zero_le _) (zc_workOf_3_11 p0 S138 n hn G_S138 (by omega) (by omega)) (fun v145 S144 hP => ?_)
          obtain ⟨rfl, o146⟩ := hP
          refine zz_iconst zd_3_5_132 ?_
          refine zz_callSJ [zi 1] zd_3_5_133 zk_Compiler_139 rfl rfl ⟨Nat.le_of_ble_eq_true rfl, Nat.le_of_ble_eq_true rfl⟩ ⟨rfl, rfl⟩ (Nat.zero_le _) (Nat.zero_le _) (zc_flag_12_5 1 S138 n hn G_S138 (by omega)) (fun v148 S147 hP => ?_)
          obtain ⟨rfl, o149⟩ := hP
          refine zz_lor zd_3_5_136 (fun v150 hv150 ev150 => ?_)
          refine zz_lstore [some (.ref 1076), some (zi p0), some (zi p1), some (zi (S0 1076 1)), some (zl v150), none] zd_3_5_137 (by decide) rfl ?_
          refine zz_aload_n (x := 1076) rfl zd_3_5_139 ?_
          refine zz_iload_n (x := p1) rfl zd_3_5_140 ?_
          refine zz_if_eq (by omega) zd_3_5_141 (fun c151 => ?_) (fun c151 => ?_)
          · refine zz_lload (x := v150) rfl zd_3_5_149 ?_
            refine zz_iconst zd_3_5_151 ?_
            refine zz_callSJ [zi 3] zd_3_5_152 zk_Compiler_139 rfl rfl ⟨Nat.le_of_ble_eq_true rfl, Nat.le_of_ble_eq_true rfl⟩ ⟨rfl, rfl⟩ (Nat.zero_le _) (Nat.zero_le _) (zc_flag_12_5 3 S138 n hn G_S138 (by omega)) (fun v153 S152 hP => ?_)
            obtain ⟨rfl, o154⟩ := hP
            refine zz_lor zd_3_5_155 (fun v155 hv155 ev155 => ?_)
            have e156 : S138 1076 1 = S97 1076 1 := (zz_rc fS138 rfl rfl (by omega) (zz_rc fS134 rfl rfl (by omega) rfl))
            refine zz_callVV [zl v155] zd_3_5_156 zk_Compiler_143 zT_1076 (zz_ltn hn rfl) rfl rfl ⟨Nat.le_of_ble_eq_true rfl, Nat.le_of_ble_eq_true rfl⟩ ⟨rfl, rfl⟩ (Nat.zero_le _) (Nat.zero_le _) (zc_emit_3_15 v155 S138 n hn G_S138 (by omega) (by omega)) (fun S157 hP => ?_)
            obtain ⟨G_S157, fS157, o159⟩ := hP
            have F_S157 := zz_fr.trans F_S138 fS157 rfl (fun a i h => Or.inr (Or.inl (h ▸ zM_k4 (z := (S138 1076 0)) (by omega) rfl)))
            have b160 := zz_rf4 (z := (S138 1076 0)) (by omega)
            have g161 := zz_G.r G_S157 1076 1 0 1000000 rfl rfl
            exact zz_vret zd_3_5_159 rfl (Nat.zero_le _) (Nat.zero_le _) ⟨_, rfl, G_S157, F_S157, by omega⟩
          · refine zz_lload (x := v150) rfl zd_3_5_144 ?_
            refine zz_goto zd_3_5_146 ?_
            have e162 : S138 1076 1 = S97 1076 1 := (zz_rc fS138 rfl rfl (by omega) (zz_rc fS134 rfl rfl (by omega) rfl))
            refine zz_callVV [zl v150] zd_3_5_156 zk_Compiler_143 zT_1076 (zz_ltn hn rfl) rfl rfl ⟨Nat.le_of_ble_eq_true rfl, Nat.le_of_ble_eq_true rfl⟩ ⟨rfl, rfl⟩ (Nat.zero_le _) (Nat.zero_le _) (zc_emit_3_15 v150 S138 n hn G_S138 (by omega) (by omega)) (fun S163 hP => ?_)
            obtain ⟨G_S163, fS163, o165⟩ := hP
            have F_S163 := zz_fr.trans F_S138 fS163 rfl (fun a i h => Or.inr (Or.inl (h ▸ zM_k4 (z := (S138 1076 0)) (by omega) rfl)))
            have b166 := zz_rf4 (z := (S138 1076 0)) (by omega)
            have g167 := zz_G.r G_S163 1076 1 0 1000000 rfl rfl
            exact zz_vret zd_3_5_159 rfl (Nat.zero_le _) (Nat.zero_le _) ⟨_, rfl, G_S163, F_S163, by omega⟩
    · refine zz_aload_n (x := 1076) rfl zd_3_5_43 ?_
      refine zz_aload_n (x := 1076) rfl zd_3_5_44 ?_
      have g168 := zz_G.r G_S0 1076 7 (-2147483648) 2147483647 rfl rfl
      refine zz_geti (z := S0 1076 7) zd_3_5_45 zf_Compiler_76 zT_1076 rfl (zz_ltn hn rfl) rfl ?_
      have g169 := zz_G.r G_S0 1076 4 (-1) 23 rfl rfl
      have g170 := zz_G.r G_S0 1076 5 (-1) 23 rfl rfl
      refine zz_callVV [zi (S0 1076 7)] zd_3_5_48 zk_Compiler_155 zT_1076 (zz_ltn hn rfl) rfl rfl ⟨Nat.le_of_ble_eq_true rfl, Nat.le_of_ble_eq_true rfl⟩ ⟨rfl, rfl⟩ (Nat.zero_le _) (Nat.zero_le _) (zc_loadMet_3_7 (S0 1076 7) S0 n hn G_S0 (by omega) (by omega) (by omega)) (fun S171 hP => ?_)
      obtain ⟨G_S171, fS171, o173⟩ := hP
      have F_S171 := zz_fr.trans F_S0 fS171 rfl (fun a i h => Or.inr (Or.inr (h)))
      have b174 := zz_rf4 (z := (S0 1076 0)) (by omega)
      refine zz_goto zd_3_5_51 ?_
      refine zz_aload_n (x := 1076) rfl zd_3_5_102 ?_
      have g175 := zz_G.r G_S0 1076 12 (-2147483648) 2147483647 rfl rfl
      refine zz_geti (z := S0 1076 12) zd_3_5_103 zf_Compiler_73 zT_1076 rfl (zz_ltn hn rfl) (zz_rc fS171 rfl rfl (by omega) rfl) ?_
      refine zz_iconst zd_3_5_106 ?_
      refine zz_icmp_le (by omega) (by omega) zd_3_5_107 (fun c176 => ?_) (fun c176 => ?_)
      · refine zz_aload_n (x := 1076) rfl zd_3_5_116 ?_
        refine zz_aload_n (x := 1076) rfl zd_3_5_117 ?_
        have g177 := zz_G.r G_S171 1076 1 0 1000000 rfl rfl
        refine zz_geti (z := S171 1076 1) zd_3_5_118 zf_Compiler_15 zT_1076 rfl (zz_ltn hn rfl) rfl ?_
        refine zz_iconst zd_3_5_121 ?_
        refine zz_isub zd_3_5_122 ?_
        refine zz_iconst zd_3_5_123 ?_
        refine zz_callVV [zi ((S171 1076 1) - 1), zi 4] zd_3_5_124 zk_Compiler_163 zT_1076 (zz_ltn hn rfl) rfl rfl ⟨Nat.le_of_ble_eq_true rfl, Nat.le_of_ble_eq_true rfl⟩ ⟨rfl, rfl⟩ (Nat.zero_le _) (Nat.zero_le _) (zc_mark_3_16 ((S171 1076 1) - 1) 4 S171 n hn G_S171 (by omega) (by omega)) (fun S178 hP => ?_)
        obtain ⟨G_S178, fS178⟩ := hP
        have F_S178 := zz_fr.trans F_S171 fS178 rfl (fun a i h => Or.inr (Or.inl (h ▸ zM_k4 (z := (S171 1076 0)) (by omega) rfl)))
        have b180 := zz_rf4 (z := (S171 1076 0)) (by omega)
        refine zz_aload_n (x := 1076) rfl zd_3_5_127 ?_
        refine zz_iload_n (x := p0) rfl zd_3_5_128 ?_
        have e181 : S178 1076 3 = S0 1076 3 := (zz_rc fS178 rfl rfl (by omega) (zz_rc fS171 rfl rfl (by omega) rfl))
        have e182 : S178 1076 4 = S0 1076 4 := (zz_rc fS178 rfl rfl (by omega) (zz_rc fS171 rfl rfl (by omega) rfl))
        have e183 : S178 1076 5 = S0 1076 5 := (zz_rc fS178 rfl rfl (by omega) (zz_rc fS171 rfl rfl (by omega) rfl))
        refine zz_callVJ [zi p0] zd_3_5_129 zk_Compiler_167 zT_1076 (zz_ltn hn rfl) rfl rfl ⟨Nat.le_of_ble_eq_true rfl, Nat.le_of_ble_eq_true rfl⟩ ⟨rfl, rfl⟩ (Nat.zero_le _) (Nat.zero_le _) (zc_workOf_3_11 p0 S178 n hn G_S178 (by omega) (by omega)) (fun v185 S184 hP => ?_)
        obtain ⟨rfl, o186⟩ := hP
        refine zz_iconst zd_3_5_132 ?_
        refine zz_callSJ [zi 1] zd_3_5_133 zk_Compiler_139 rfl rfl ⟨Nat.le_of_ble_eq_true rfl, Nat.le_of_ble_eq_true rfl⟩ ⟨rfl, rfl⟩ (Nat.zero_le _) (Nat.zero_le _) (zc_flag_12_5 1 S178 n hn G_S178 (by omega)) (fun v188 S187 hP => ?_)
        obtain ⟨rfl, o189⟩ := hP
        refine zz_lor zd_3_5_136 (fun v190 hv190 ev190 => ?_)
        refine zz_lstore [some (.ref 1076), some (zi p0), some (zi p1), some (zi (S0 1076 1)), some (zl v190), none] zd_3_5_137 (by decide) rfl ?_
        refine zz_aload_n (x := 1076) rfl zd_3_5_139 ?_
        refine zz_iload_n (x := p1) rfl zd_3_5_140 ?_
        refine zz_if_eq (by omega) zd_3_5_141 (fun c191 => ?_) (fun c191 => ?_)
        · refine zz_lload (x := v190) rfl zd_3_5_149 ?_
          refine zz_iconst zd_3_5_151 ?_
          refine zz_callSJ [zi 3] zd_3_5_152 zk_Compiler_139 rfl rfl ⟨Nat.le_of_ble_eq_true rfl, Nat.le_of_ble_eq_true rfl⟩ ⟨rfl, rfl⟩ (Nat.zero_le _) (Nat.zero_le _) (zc_flag_12_5 3 S178 n hn G_S178 (by omega)) (fun v193 S192 hP => ?_)
          obtain ⟨rfl, o194⟩ := hP
          refine zz_lor zd_3_5_155 (fun v195 hv195 ev195 => ?_)
          have e196 : S178 1076 1 = S171 1076 1 := (zz_rc fS178 rfl rfl (by omega) rfl)
          refine zz_callVV [zl v195] zd_3_5_156 zk_Compiler_143 zT_1076 (zz_ltn hn rfl) rfl rfl ⟨Nat.le_of_ble_eq_true rfl, Nat.le_of_ble_eq_true rfl⟩ ⟨rfl, rfl⟩ (Nat.zero_le _) (Nat.zero_le _) (zc_emit_3_15 v195 S178 n hn G_S178 (by omega) (by omega)) (fun S197 hP => ?_)
          obtain ⟨G_S197, fS197, o199⟩ := hP
          have F_S197 := zz_fr.trans F_S178 fS197 rfl (fun a i h => Or.inr (Or.inl (h ▸ zM_k4 (z := (S178 1076 0)) (by omega) rfl)))
          have b200 := zz_rf4 (z := (S178 1076 0)) (by omega)
          have g201 := zz_G.r G_S197 1076 1 0 1000000 rfl rfl
          exact zz_vret zd_3_5_159 rfl (Nat.zero_le _) (Nat.zero_le _) ⟨_, rfl, G_S197, F_S197, by omega⟩
        · refine zz_lload (x := v190) rfl zd_3_5_144 ?_
          refine zz_goto zd_3_5_146 ?_
          have e202 : S178 1076 1 = S171 1076 1 := (zz_rc fS178 rfl rfl (by omega) rfl)
          refine zz_callVV [zl v190] zd_3_5_156 zk_Compiler_143 zT_1076 (zz_ltn hn rfl) rfl rfl ⟨Nat.le_of_ble_eq_true rfl, Nat.le_of_ble_eq_true rfl⟩ ⟨rfl, rfl⟩ (Nat.zero_le _) (Nat.zero_le _) (zc_emit_3_15 v190 S178 n hn G_S178 (by omega) (by omega)) (fun S203 hP => ?_)
          obtain ⟨G_S203, fS203, o205⟩ := hP
          have F_S203 := zz_fr.trans F_S178 fS203 rfl (fun a i h => Or.inr (Or.inl (h ▸ zM_k4 (z := (S178 1076 0)) (by omega) rfl)))
          have b206 := zz_rf4 (z := (S178 1076 0)) (by omega)
          have g207 := zz_G.r G_S203 1076 1 0 1000000 rfl rfl
          exact zz_vret zd_3_5_159 rfl (Nat.zero_le _) (Nat.zero_le _) ⟨_, rfl, G_S203, F_S203, by omega⟩
      · refine zz_aload_n (x := 1076) rfl zd_3_5_110 ?_
        refine zz_iload_n (x := S0 1076 1) rfl zd_3_5_111 ?_
        refine zz_iconst zd_3_5_112 ?_
        refine zz_callVV [zi (S0 1076 1), zi 2] zd_3_5_113 zk_Compiler_163 zT_1076 (zz_ltn hn rfl) rfl rfl ⟨Nat.le_of_ble_eq_true rfl, Nat.le_of_ble_eq_true rfl⟩ ⟨rfl, rfl⟩ (Nat.zero_le _) (Nat.zero_le _) (zc_mark_3_16 (S0 1076 1) 2 S171 n hn G_S171 (by omega) (by omega)) (fun S208 hP => ?_)
        obtain ⟨G_S208, fS208⟩ := hP
        have F_S208 := zz_fr.trans F_S171 fS208 rfl (fun a i h => Or.inr (Or.inl (h ▸ zM_k4 (z := (S171 1076 0)) (by omega) rfl)))
        have b210 := zz_rf4 (z := (S171 1076 0)) (by omega)
        refine zz_aload_n (x := 1076) rfl zd_3_5_116 ?_
        refine zz_aload_n (x := 1076) rfl zd_3_5_117 ?_
        have g211 := zz_G.r G_S171 1076 1 0 1000000 rfl rfl
        refine zz_geti (z := S171 1076 1) zd_3_5_118 zf_Compiler_15 zT_1076 rfl (zz_ltn hn rfl) (zz_rc fS208 rfl rfl (by omega) rfl) ?_
        refine zz_iconst zd_3_5_121 ?_
        refine zz_isub zd_3_5_122 ?_
        refine zz_iconst zd_3_5_123 ?_
        refine zz_callVV [zi ((S171 1076 1) - 1), zi 4] zd_3_5_124 zk_Compiler_163 zT_1076 (zz_ltn hn rfl) rfl rfl ⟨Nat.le_of_ble_eq_true rfl, Nat.le_of_ble_eq_true rfl⟩ ⟨rfl, rfl⟩ (Nat.zero_le _) (Nat.zero_le _) (zc_mark_3_16 ((S171 1076 1) - 1) 4 S208 n hn G_S208 (by omega) (by omega)) (fun S212 hP => ?_)
        obtain ⟨G_S212, fS212⟩ := hP
        have F_S212 := zz_fr.trans F_S208 fS212 rfl (fun a i h => Or.inr (Or.inl (h ▸ zM_k4 (z := (S208 1076 0)) (by omega) rfl)))
        have b214 := zz_rf4 (z := (S208 1076 0)) (by omega)
        refine zz_aload_n (x := 1076) rfl zd_3_5_127 ?_
        refine zz_iload_n (x := p0) rfl zd_3_5_128 ?_
        have e215 : S212 1076 3 = S0 1076 3 := (zz_rc fS212 rfl rfl (by omega) (zz_rc fS208 rfl rfl (by omega) (zz_rc fS171 rfl rfl (by omega) rfl)))
        have e216 : S212 1076 4 = S0 1076 4 := (zz_rc fS212 rfl rfl (by omega) (zz_rc fS208 rfl rfl (by omega) (zz_rc fS171 rfl rfl (by omega) rfl)))
        have e217 : S212 1076 5 = S0 1076 5 := (zz_rc fS212 rfl rfl (by omega) (zz_rc fS208 rfl rfl (by omega) (zz_rc fS171 rfl rfl (by omega) rfl)))
        refine zz_callVJ [zi p0] zd_3_5_129 zk_Compiler_167 zT_1076 (zz_ltn hn rfl) rfl rfl ⟨Nat.le_of_ble_eq_true rfl, Nat.le_of_ble_eq_true rfl⟩ ⟨rfl, rfl⟩ (Nat.zero_le _) (Nat.zero_le _) (zc_workOf_3_11 p0 S212 n hn G_S212 (by omega) (by omega)) (fun v219 S218 hP => ?_)
        obtain ⟨rfl, o220⟩ := hP
        refine zz_iconst zd_3_5_132 ?_
        refine zz_callSJ [zi 1] zd_3_5_133 zk_Compiler_139 rfl rfl ⟨Nat.le_of_ble_eq_true rfl, Nat.le_of_ble_eq_true rfl⟩ ⟨rfl, rfl⟩ (Nat.zero_le _) (Nat.zero_le _) (zc_flag_12_5 1 S212 n hn G_S212 (by omega)) (fun v222 S221 hP => ?_)
        obtain ⟨rfl, o223⟩ := hP
        refine zz_lor zd_3_5_136 (fun v224 hv224 ev224 => ?_)
        refine zz_lstore [some (.ref 1076), some (zi p0), some (zi p1), some (zi (S0 1076 1)), some (zl v224), none] zd_3_5_137 (by decide) rfl ?_
        refine zz_aload_n (x := 1076) rfl zd_3_5_139 ?_
        refine zz_iload_n (x := p1) rfl zd_3_5_140 ?_
        refine zz_if_eq (by omega) zd_3_5_141 (fun c225 => ?_) (fun c225 => ?_)
        · refine zz_lload (x := v224) rfl zd_3_5_149 ?_
          refine zz_iconst zd_3_5_151 ?_
          refine zz_callSJ [zi 3] zd_3_5_152 zk_Compiler_139 rfl rfl ⟨Nat.le_of_ble_eq_true rfl, Nat.le_of_ble_eq_true rfl⟩ ⟨rfl, rfl⟩ (Nat.zero_le _) (Nat.zero_le _) (zc_flag_12_5 3 S212 n hn G_S212 (by omega)) (fun v227 S226 hP => ?_)
          obtain ⟨rfl, o228⟩ := hP
          refine zz_lor zd_3_5_155 (fun v229 hv229 ev229 => ?_)
          have e230 : S212 1076 1 = S171 1076 1 := (zz_rc fS212 rfl rfl (by omega) (zz_rc fS208 rfl rfl (by omega) rfl))
          refine zz_callVV [zl v229] zd_3_5_156 zk_Compiler_143 zT_1076 (zz_ltn hn rfl) rfl rfl ⟨Nat.le_of_ble_eq_true rfl, Nat.le_of_ble_eq_true rfl⟩ ⟨rfl, rfl⟩ (Nat.zero_le _) (Nat.zero_le _) (zc_emit_3_15 v229 S212 n hn G_S212 (by omega) (by omega)) (fun S231 hP => ?_)
          obtain ⟨G_S231, fS231, o233⟩ := hP
          have F_S231 := zz_fr.trans F_S212 fS231 rfl (fun a i h => Or.inr (Or.inl (h ▸ zM_k4 (z := (S212 1076 0)) (by omega) rfl)))
          have b234 := zz_rf4 (z := (S212 1076 0)) (by omega)
          have g235 := zz_G.r G_S231 1076 1 0 1000000 rfl rfl
          exact zz_vret zd_3_5_159 rfl (Nat.zero_le _) (Nat.zero_le _) ⟨_, rfl, G_S231, F_S231, by omega⟩
        · refine zz_lload (x := v224) rfl zd_3_5_144 ?_
          refine zz_goto zd_3_5_146 ?_
          have e236 : S212 1076 1 = S171 1076 1 := (zz_rc fS212 rfl rfl (by omega) (zz_rc fS208 rfl rfl (by omega) rfl))
          refine zz_callVV [zl v224] zd_3_5_156 zk_Compiler_143 zT_1076 (zz_ltn hn rfl) rfl rfl ⟨Nat.le_of_ble_eq_true rfl, Nat.le_of_ble_eq_true rfl⟩ ⟨rfl, rfl⟩ (Nat.zero_le _) (Nat.zero_le _) (zc_emit_3_15 v224 S212 n hn G_S212 (by omega) (by omega)) (fun S237 hP => ?_)
          obtain ⟨G_S237, fS237, o239⟩ := hP
          have F_S237 := zz_fr.trans F_S212 fS237 rfl (fun a i h => Or.inr (Or.inl (h ▸ zM_k4 (z := (S212 1076 0)) (by omega) rfl)))
          have b240 := zz_rf4 (z := (S212 1076 0)) (by omega)
          have g241 := zz_G.r G_S237 1076 1 0 1000000 rfl rfl
          exact zz_vret zd_3_5_159 rfl (Nat.zero_le _) (Nat.zero_le _) ⟨_, rfl, G_S237, F_S237, by omega⟩
  · refine zz_aload_n (x := 1076) rfl zd_3_5_16 ?_
    refine zz_iload_n (x := p0) rfl zd_3_5_17 ?_
    have g242 := zz_G.r G_S0 1076 4 (-1) 23 rfl rfl
    have g243 := zz_G.r G_S0 1076 5 (-1) 23 rfl rfl
    refine zz_callVV [zi p0] zd_3_5_18 zk_Compiler_151 zT_1076 (zz_ltn hn rfl) rfl rfl ⟨Nat.le_of_ble_eq_true rfl, Nat.le_of_ble_eq_true rfl⟩ ⟨rfl, rfl⟩ (Nat.zero_le _) (Nat.zero_le _) (zc_loadParameters_3_6 p0 S0 n hn G_S0 (by omega) (by omega) (by omega)) (fun S244 hP => ?_)
    obtain ⟨G_S244, fS244, o246⟩ := hP
    have F_S244 := zz_fr.trans F_S0 fS244 rfl (fun a i h => Or.inr (Or.inr (h)))
    have b247 := zz_rf4 (z := (S0 1076 0)) (by omega)
    refine zz_aload_n (x := 1076) rfl zd_3_5_21 ?_
    refine zz_aload_n (x := 1076) rfl zd_3_5_22 ?_
    have g248 := zz_G.r G_S0 1076 15 (-2147483648) 2147483647 rfl rfl
    refine zz_geti (z := S0 1076 15) zd_3_5_23 zf_Compiler_112 zT_1076 rfl (zz_ltn hn rfl) (zz_rc fS244 rfl rfl (by omega) rfl) ?_
    have g249 := zz_G.r G_S244 1076 1 0 1000000 rfl rfl
    have e250 : S244 1076 3 = S0 1076 3 := (zz_rc fS244 rfl rfl (by omega) rfl)
    have e251 : S244 1076 4 = S0 1076 4 := (zz_rc fS244 rfl rfl (by omega) rfl)
    have e252 : S244 1076 5 = S0 1076 5 := (zz_rc fS244 rfl rfl (by omega) rfl)
    refine zz_callVV [zi (S0 1076 15)] zd_3_5_26 zk_Compiler_155 zT_1076 (zz_ltn hn rfl) rfl rfl ⟨Nat.le_of_ble_eq_true rfl, Nat.le_of_ble_eq_true rfl⟩ ⟨rfl, rfl⟩ (Nat.zero_le _) (Nat.zero_le _) (zc_loadMet_3_7 (S0 1076 15) S244 n hn G_S244 (by omega) (by omega) (by omega)) (fun S253 hP => ?_)
    obtain ⟨G_S253, fS253, o255⟩ := hP
    have F_S253 := zz_fr.trans F_S244 fS253 rfl (fun a i h => Or.inr (Or.inl (h ▸ zM_k4 (z := (S244 1076 0)) (by omega) rfl)))
    have b256 := zz_rf4 (z := (S244 1076 0)) (by omega)
    refine zz_goto zd_3_5_29 ?_
    refine zz_aload_n (x := 1076) rfl zd_3_5_102 ?_
    have g257 := zz_G.r G_S0 1076 12 (-2147483648) 2147483647 rfl rfl
    refine zz_geti (z := S0 1076 12) zd_3_5_103 zf_Compiler_73 zT_1076 rfl (zz_ltn hn rfl) (zz_rc fS253 rfl rfl (by omega) (zz_rc fS244 rfl rfl (by omega) rfl)) ?_
    refine zz_iconst zd_3_5_106 ?_
    refine zz_icmp_le (by omega) (by omega) zd_3_5_107 (fun c258 => ?_) (fun c258 => ?_)
    · refine zz_aload_n (x := 1076) rfl zd_3_5_116 ?_
      refine zz_aload_n (x := 1076) rfl zd_3_5_117 ?_
      have g259 := zz_G.r G_S253 1076 1 0 1000000 rfl rfl
      refine zz_geti (z := S253 1076 1) zd_3_5_118 zf_Compiler_15 zT_1076 rfl (zz_ltn hn rfl) rfl ?_
      refine zz_iconst zd_3_5_121 ?_
      refine zz_isub zd_3_5_122 ?_
      refine zz_iconst zd_3_5_123 ?_
      refine zz_callVV [zi ((S253 1076 1) - 1), zi 4] zd_3_5_124 zk_Compiler_163 zT_1076 (zz_ltn hn rfl) rfl rfl ⟨Nat.le_of_ble_eq_true rfl, Nat.le_of_ble_eq_true rfl⟩ ⟨rfl, rfl⟩ (Nat.zero_le _) (Nat.zero_le _) (zc_mark_3_16 ((S253 1076 1) - 1) 4 S253 n hn G_S253 (by omega) (by omega)) (fun S260 hP => ?_)
      obtain ⟨G_S260, fS260⟩ := hP
      have F_S260 := zz_fr.trans F_S253 fS260 rfl (fun a i h => Or.inr (Or.inl (h ▸ zM_k4 (z := (S253 1076 0)) (by omega) rfl)))
      have b262 := zz_rf4 (z := (S253 1076 0)) (by omega)
      refine zz_aload_n (x := 1076) rfl zd_3_5_127 ?_
      refine zz_iload_n (x := p0) rfl zd_3_5_128 ?_
      have e263 : S260 1076 3 = S0 1076 3 := (zz_rc fS260 rfl rfl (by omega) (zz_rc fS253 rfl rfl (by omega) (zz_rc fS244 rfl rfl (by omega) rfl)))
      have e264 : S260 1076 4 = S0 1076 4 := (zz_rc fS260 rfl rfl (by omega) (zz_rc fS253 rfl rfl (by omega) (zz_rc fS244 rfl rfl (by omega) rfl)))
      have e265 : S260 1076 5 = S0 1076 5 := (zz_rc fS260 rfl rfl (by omega) (zz_rc fS253 rfl rfl (by omega) (zz_rc fS244 rfl rfl (by omega) rfl)))
      refine zz_callVJ [zi p0] zd_3_5_129 zk_Compiler_167 zT_1076 (zz_ltn hn rfl) rfl rfl ⟨Nat.le_of_ble_eq_true rfl, Nat.le_of_ble_eq_true rfl⟩ ⟨rfl, rfl⟩ (Nat.zero_le _) (Nat.zero_le _) (zc_workOf_3_11 p0 S260 n hn G_S260 (by omega) (by omega)) (fun v267 S266 hP => ?_)
      obtain ⟨rfl, o268⟩ := hP
      refine zz_iconst zd_3_5_132 ?_
      refine zz_callSJ [zi 1] zd_3_5_133 zk_Compiler_139 rfl rfl ⟨Nat.le_of_ble_eq_true rfl, Nat.le_of_ble_eq_true rfl⟩ ⟨rfl, rfl⟩ (Nat.zero_le _) (Nat.zero_le _) (zc_flag_12_5 1 S260 n hn G_S260 (by omega)) (fun v270 S269 hP => ?_)
      obtain ⟨rfl, o271⟩ := hP
      refine zz_lor zd_3_5_136 (fun v272 hv272 ev272 => ?_)
      refine zz_lstore [some (.ref 1076), some (zi p0), some (zi p1), some (zi (S0 1076 1)), some (zl v272), none] zd_3_5_137 (by decide) rfl ?_
      refine zz_aload_n (x := 1076) rfl zd_3_5_139 ?_
      refine zz_iload_n (x := p1) rfl zd_3_5_140 ?_
      refine zz_if_eq (by omega) zd_3_5_141 (fun c273 => ?_) (fun c273 => ?_)
      · refine zz_lload (x := v272) rfl zd_3_5_149 ?_
        refine zz_iconst zd_3_5_151 ?_
        refine zz_callSJ [zi 3] zd_3_5_152 zk_Compiler_139 rfl rfl ⟨Nat.le_of_ble_eq_true rfl, Nat.le_of_ble_eq_true rfl⟩ ⟨rfl, rfl⟩ (Nat.zero_le _) (Nat.zero_le _) (zc_flag_12_5 3 S260 n hn G_S260 (by omega)) (fun v275 S274 hP => ?_)
        obtain ⟨rfl, o276⟩ := hP
        refine zz_lor zd_3_5_155 (fun v277 hv277 ev277 => ?_)
        have e278 : S260 1076 1 = S253 1076 1 := (zz_rc fS260 rfl rfl (by omega) rfl)
        refine zz_callVV [zl v277] zd_3_5_156 zk_Compiler_143 zT_1076 (zz_ltn hn rfl) rfl rfl ⟨Nat.le_of_ble_eq_true rfl, Nat.le_of_ble_eq_true rfl⟩ ⟨rfl, rfl⟩ (Nat.zero_le _) (Nat.zero_le _) (zc_emit_3_15 v277 S260 n hn G_S260 (by omega) (by omega)) (fun S279 hP => ?_)
        obtain ⟨G_S279, fS279, o281⟩ := hP
        have F_S279 := zz_fr.trans F_S260 fS279 rfl (fun a i h => Or.inr (Or.inl (h ▸ zM_k4 (z := (S260 1076 0)) (by omega) rfl)))
        have b282 := zz_rf4 (z := (S260 1076 0)) (by omega)
        have g283 := zz_G.r G_S279 1076 1 0 1000000 rfl rfl
        exact zz_vret zd_3_5_159 rfl (Nat.zero_le _) (Nat.zero_le _) ⟨_, rfl, G_S279, F_S279, by omega⟩
      · refine zz_lload (x := v272) rfl zd_3_5_144 ?_
        refine zz_goto zd_3_5_146 ?_
        have e284 : S260 1076 1 = S253 1076 1 := (zz_rc fS260 rfl rfl (by omega) rfl)
        refine zz_callVV [zl v272] zd_3_5_156 zk_Compiler_143 zT_1076 (zz_ltn hn rfl) rfl rfl ⟨Nat.le_of_ble_eq_true rfl, Nat.le_of_ble_eq_true rfl⟩ ⟨rfl, rfl⟩ (Nat.zero_le _) (Nat.zero_le _) (zc_emit_3_15 v272 S260 n hn G_S260 (by omega) (by omega)) (fun S285 hP => ?_)
        obtain ⟨G_S285, fS285, o287⟩ := hP
        have F_S285 := zz_fr.trans F_S260 fS285 rfl (fun a i h => Or.inr (Or.inl (h ▸ zM_k4 (z := (S260 1076 0)) (by omega) rfl)))
        have b288 := zz_rf4 (z := (S260 1076 0)) (by omega)
        have g289 := zz_G.r G_S285 1076 1 0 1000000 rfl rfl
        exact zz_vret zd_3_5_159 rfl (Nat.zero_le _) (Nat.zero_le _) ⟨_, rfl, G_S285, F_S285, by omega⟩
    · refine zz_aload_n (x := 1076) rfl zd_3_5_110 ?_
      refine zz_iload_n (x := S0 1076 1) rfl zd_3_5_111 ?_
      refine zz_iconst zd_3_5_112 ?_
      refine zz_callVV [zi (S0 1076 1), zi 2] zd_3_5_113 zk_Compiler_163 zT_1076 (zz_ltn hn rfl) rfl rfl ⟨Nat.le_of_ble_eq_true rfl, Nat.le_of_ble_eq_true rfl⟩ ⟨rfl, rfl⟩ (Nat.zero_le _) (Nat.zero_le _) (zc_mark_3_16 (S0 1076 1) 2 S253 n hn G_S253 (by omega) (by omega)) (fun S290 hP => ?_)
      obtain ⟨G_S290, fS290⟩ := hP
      have F_S290 := zz_fr.trans F_S253 fS290 rfl (fun a i h => Or.inr (Or.inl (h ▸ zM_k4 (z := (S253 1076 0)) (by omega) rfl)))
      have b292 := zz_rf4 (z := (S253 1076 0)) (by omega)
      refine zz_aload_n (x := 1076) rfl zd_3_5_116 ?_
      refine zz_aload_n (x := 1076) rfl zd_3_5_117 ?_
      have g293 := zz_G.r G_S253 1076 1 0 1000000 rfl rfl
      refine zz_geti (z := S253 1076 1) zd_3_5_118 zf_Compiler_15 zT_1076 rfl (zz_ltn hn rfl) (zz_rc fS290 rfl rfl (by omega) rfl) ?_
      refine zz_iconst zd_3_5_121 ?_
      refine zz_isub zd_3_5_122 ?_
      refine zz_iconst zd_3_5_123 ?_
      refine zz_callVV [zi ((S253 1076 1) - 1), zi 4] zd_3_5_124 zk_Compiler_163 zT_1076 (zz_ltn hn rfl) rfl rfl ⟨Nat.le_of_ble_eq_true rfl, Nat.le_of_ble_eq_true rfl⟩ ⟨rfl, rfl⟩ (Nat.zero_le _) (Nat.zero_le _) (zc_mark_3_16 ((S253 1076 1) - 1) 4 S290 n hn G_S290 (by omega) (by omega)) (fun S294 hP => ?_)
      obtain ⟨G_S294, fS294⟩ := hP
      have F_S294 := zz_fr.trans F_S290 fS294 rfl (fun a i h => Or.inr (Or.inl (h ▸ zM_k4 (z := (S290 1076 0)) (by omega) rfl)))
      have b296 := zz_rf4 (z := (S290 1076 0)) (by omega)
      refine zz_aload_n (x := 1076) rfl zd_3_5_127 ?_
      refine zz_iload_n (x := p0) rfl zd_3_5_128 ?_
      have e297 : S294 1076 3 = S0 1076 3 := (zz_rc fS294 rfl rfl (by omega) (zz_rc fS290 rfl rfl (by omega) (zz_rc fS253 rfl rfl (by omega) (zz_rc fS244 rfl rfl (by omega) rfl))))
      have e298 : S294 1076 4 = S0 1076 4 := (zz_rc fS294 rfl rfl (by omega) (zz_rc fS290 rfl rfl (by omega) (zz_rc fS253 rfl rfl (by omega) (zz_rc fS244 rfl rfl (by omega) rfl))))
      have e299 : S294 1076 5 = S0 1076 5 := (zz_rc fS294 rfl rfl (by omega) (zz_rc fS290 rfl rfl (by omega) (zz_rc fS253 rfl rfl (by omega) (zz_rc fS244 rfl rfl (by omega) rfl))))
      refine zz_callVJ [zi p0] zd_3_5_129 zk_Compiler_167 zT_1076 (zz_ltn hn rfl) rfl rfl ⟨Nat.le_of_ble_eq_true rfl, Nat.le_of_ble_eq_true rfl⟩ ⟨rfl, rfl⟩ (Nat.zero_le _) (Nat.zero_le _) (zc_workOf_3_11 p0 S294 n hn G_S294 (by omega) (by omega)) (fun v301 S300 hP => ?_)
      obtain ⟨rfl, o302⟩ := hP
      refine zz_iconst zd_3_5_132 ?_
      refine zz_callSJ [zi 1] zd_3_5_133 zk_Compiler_139 rfl rfl ⟨Nat.le_of_ble_eq_true rfl, Nat.le_of_ble_eq_true rfl⟩ ⟨rfl, rfl⟩ (Nat.zero_le _) (Nat.zero_le _) (zc_flag_12_5 1 S294 n hn G_S294 (by omega)) (fun v304 S303 hP => ?_)
      obtain ⟨rfl, o305⟩ := hP
      refine zz_lor zd_3_5_136 (fun v306 hv306 ev306 => ?_)
      refine zz_lstore [some (.ref 1076), some (zi p0), some (zi p1), some (zi (S0 1076 1)), some (zl v306), none] zd_3_5_137 (by decide) rfl ?_
      refine zz_aload_n (x := 1076) rfl zd_3_5_139 ?_
      refine zz_iload_n (x := p1) rfl zd_3_5_140 ?_
      refine zz_if_eq (by omega) zd_3_5_141 (fun c307 => ?_) (fun c307 => ?_)
      · refine zz_lload (x := v306) rfl zd_3_5_149 ?_
        refine zz_iconst zd_3_5_151 ?_
        refine zz_callSJ [zi 3] zd_3_5_152 zk_Compiler_139 rfl rfl ⟨Nat.le_of_ble_eq_true rfl, Nat.le_of_ble_eq_true rfl⟩ ⟨rfl, rfl⟩ (Nat.zero_le _) (Nat.zero_le _) (zc_flag_12_5 3 S294 n hn G_S294 (by omega)) (fun v309 S308 hP => ?_)
        obtain ⟨rfl, o310⟩ := hP
        refine zz_lor zd_3_5_155 (fun v311 hv311 ev311 => ?_)
        have e312 : S294 1076 1 = S253 1076 1 := (zz_rc fS294 rfl rfl (by omega) (zz_rc fS290 rfl rfl (by omega) rfl))
        refine zz_callVV [zl v311] zd_3_5_156 zk_Compiler_143 zT_1076 (zz_ltn hn rfl) rfl rfl ⟨Nat.le_of_ble_eq_true rfl, Nat.le_of_ble_eq_true rfl⟩ ⟨rfl, rfl⟩ (Nat.zero_le _) (Nat.zero_le _) (zc_emit_3_15 v311 S294 n hn G_S294 (by omega) (by omega)) (fun S313 hP => ?_)
        obtain ⟨G_S313, fS313, o315⟩ := hP
        have F_S313 := zz_fr.trans F_S294 fS313 rfl (fun a i h => Or.inr (Or.inl (h ▸ zM_k4 (z := (S294 1076 0)) (by omega) rfl)))
        have b316 := zz_rf4 (z := (S294 1076 0)) (by omega)
        have g317 := zz_G.r G_S313 1076 1 0 1000000 rfl rfl
        exact zz_vret zd_3_5_159 rfl (Nat.zero_le _) (Nat.zero_le _) ⟨_, rfl, G_S313, F_S313, by omega⟩
      · refine zz_lload (x := v306) rfl zd_3_5_144 ?_
        refine zz_goto zd_3_5_146 ?_
        have e318 : S294 1076 1 = S253 1076 1 := (zz_rc fS294 rfl rfl (by omega) (zz_rc fS290 rfl rfl (by omega) rfl))
        refine zz_callVV [zl v306] zd_3_5_156 zk_Compiler_143 zT_1076 (zz_ltn hn rfl) rfl rfl ⟨Nat.le_of_ble_eq_true rfl, Nat.le_of_ble_eq_true rfl⟩ ⟨rfl, rfl⟩ (Nat.zero_le _) (Nat.zero_le _) (zc_emit_3_15 v306 S294 n hn G_S294 (by omega) (by omega)) (fun S319 hP => ?_)
        obtain ⟨G_S319, fS319, o321⟩ := hP
        have F_S319 := zz_fr.trans F_S294 fS319 rfl (fun a i h => Or.inr (Or.inl (h ▸ zM_k4 (z := (S294 1076 0)) (by omega) rfl)))
        have b322 := zz_rf4 (z := (S294 1076 0)) (by omega)
        have g323 := zz_G.r G_S319 1076 1 0 1000000 rfl rfl
        exact zz_vret zd_3_5_159 rfl (Nat.zero_le _) (Nat.zero_le _) ⟨_, rfl, G_S319, F_S319, by omega⟩
theorem zk_Compiler_118 : mm_Vl "TensorForge$Compiler" 118 9 2 zy_makeGroup_3_5 := ⟨zyw_makeGroup_3_5, (R_Compiler, F_Compiler, 17), rfl, mm_tb_1 1420 (by decide +kernel) rfl, mm_tb_1 1422 (by decide +kernel) rfl, mm_tb_s 64 (by decide +kernel) rfl⟩
theorem zd_3_4_227 : zz_D zy_makeTile_3_4 227 (.aload_n 0) 1 228 := ⟨by decide +kernel, rfl⟩
theorem zd_3_4_228 : zz_D zy_makeTile_3_4 228 (.dup) 1 229 := ⟨by decide +kernel, rfl⟩
theorem zd_3_4_229 : zz_D zy_makeTile_3_4 229 (.getfield 73) 3 232 := ⟨by decide +kernel, rfl⟩
theorem zd_3_4_232 : zz_D zy_makeTile_3_4 232 (.iconst 1) 1 233 := ⟨by decide +kernel, rfl⟩
theorem zd_3_4_233 : zz_D zy_makeTile_3_4 233 (.iadd) 1 234 := ⟨by decide +kernel, rfl⟩
theorem zd_3_4_234 : zz_D zy_makeTile_3_4 234 (.putfield 73) 3 237 := ⟨by decide +kernel, rfl⟩
theorem zd_3_4_237 : zz_D zy_makeTile_3_4 237 (.aload_n 0) 1 238 := ⟨by decide +kernel, rfl⟩
theorem zd_3_4_238 : zz_D zy_makeTile_3_4 238 (.dup) 1 239 := ⟨by decide +kernel, rfl⟩
theorem zd_3_4_239 : zz_D zy_makeTile_3_4 239 (.getfield 112) 3 242 := ⟨by decide +kernel, rfl⟩
theorem zd_3_4_242 : zz_D zy_makeTile_3_4 242 (.aload_n 0) 1 243 := ⟨by decide +kernel, rfl⟩
theorem zd_3_4_243 : zz_D zy_makeTile_3_4 243 (.getfield 21) 3 246 := ⟨by decide +kernel, rfl⟩
theorem zd_3_4_246 : zz_D zy_makeTile_3_4 246 (.iadd) 1 247 := ⟨by decide +kernel, rfl⟩
theorem zd_3_4_247 : zz_D zy_makeTile_3_4 247 (.putfield 112) 3 250 := ⟨by decide +kernel, rfl⟩
theorem zd_3_4_250 : zz_B zy_makeTile_3_4 250 Instr.goto 122 253 := ⟨(-128), by decide +kernel, rfl, rfl⟩
theorem zd_3_4_217 : zz_D zy_makeTile_3_4 217 (.iconst 1) 1 218 := ⟨by decide +kernel, rfl⟩
theorem zd_3_4_218 : zz_B zy_makeTile_3_4 218 Instr.goto 222 221 := ⟨4, by decide +kernel, rfl, rfl⟩
theorem zd_3_4_175 : zz_D zy_makeTile_3_4 175 (.aload_n 0) 1 176 := ⟨by decide +kernel, rfl⟩
theorem zd_3_4_176 : zz_D zy_makeTile_3_4 176 (.getfield 109) 3 179 := ⟨by decide +kernel, rfl⟩
theorem zd_3_4_179 : zz_D zy_makeTile_3_4 179 (.iload 4) 2 181 := ⟨by decide +kernel, rfl⟩
theorem zd_3_4_181 : zz_D zy_makeTile_3_4 181 (.iconst 1) 1 182 := ⟨by decide +kernel, rfl⟩
theorem zd_3_4_182 : zz_D zy_makeTile_3_4 182 (.isub) 1 183 := ⟨by decide +kernel, rfl⟩
theorem zd_3_4_183 : zz_B zy_makeTile_3_4 183 (Instr.if_icmp .ne) 204 186 := ⟨21, by decide +kernel, rfl, rfl⟩
theorem zd_3_4_186 : zz_D zy_makeTile_3_4 186 (.aload_n 0) 1 187 := ⟨by decide +kernel, rfl⟩
theorem zd_3_4_187 : zz_D zy_makeTile_3_4 187 (.getfield 112) 3 190 := ⟨by decide +kernel, rfl⟩
theorem zd_3_4_190 : zz_D zy_makeTile_3_4 190 (.aload_n 0) 1 191 := ⟨by decide +kernel, rfl⟩
theorem zd_3_4_191 : zz_D zy_makeTile_3_4 191 (.getfield 21) 3 194 := ⟨by decide +kernel, rfl⟩
theorem zd_3_4_194 : zz_D zy_makeTile_3_4 194 (.iadd) 1 195 := ⟨by decide +kernel, rfl⟩
theorem zd_3_4_195 : zz_D zy_makeTile_3_4 195 (.iload 5) 2 197 := ⟨by decide +kernel, rfl⟩
theorem zd_3_4_197 : zz_B zy_makeTile_3_4 197 (Instr.if_icmp .lt) 204 200 := ⟨7, by decide +kernel, rfl, rfl⟩
theorem zd_3_4_200 : zz_D zy_makeTile_3_4 200 (.iconst 1) 1 201 := ⟨by decide +kernel, rfl⟩
theorem zd_3_4_201 : zz_B zy_makeTile_3_4 201 Instr.goto 205 204 := ⟨4, by decide +kernel, rfl, rfl⟩
-- TensorForge$Compiler makeTile ()V
abbrev zr_makeTile_3_4 : Room := { frames := 4, cells := 0, slots := 0, locals := 65 }
def zp_makeTile_3_4  (S0 : zz_S) : zz_S → Prop := fun S => zz_G S ∧ zz_fr [(1076, 1), (1076, 6), (1076, 12), (1076, 13), (1076, 14), (1076, 15), (1076, 16)] [1029, 1030] (fun _ _ => False) S0 S ∧ (S0 1076 1 + 2 ≤ S 1076 1 ∧ S 1076 1 ≤ S0 1076 1 + 2600)
theorem zb_makeTile_3_4_95 {g : mm_G} {l : Launch}  (S0 : zz_S) (n : Nat) (hn : zz_end ≤ n) (G_S0 : zz_G S0) (hq : S0 1076 1 ≤ 600) (hl : 0 ≤ S0 1076 3 ∧ 0 ≤ S0 1076 4 ∧ 0 ≤ S0 1076 5) (hk : zz_ly S0 (S0 1076 3) ∧ S0 (zz_rf 6 (S0 1076 4)) 12 ≤ 63) (x1 : Int) (x3 : Int) (x4 : Int) (x5 : Int) (S : zz_S) (G_S : zz_G S) (F_S : zz_fr [(1076, 1), (1076, 6), (1076, 12), (1076, 13), (1076, 14), (1076, 15), (1076, 16)] [1029, 1030] (fun _ _ => False) S0 S) (i95_0 : 0 ≤ x1 ∧ x1 ≤ 0) (i95_1 : (-2147483648) ≤ x3 ∧ x3 ≤ 3) (i95_2 : (-2147483648) ≤ x4 ∧ x4 ≤ 3) (i95_3 : (-2147483648) ≤ x5 ∧ x5 ≤ 63) (i95_4 : 0 ≤ S 1076 13 ∧ S 1076 13 ≤ 3) (i95_5 : S0 1076 1 ≤ S 1076 1 ∧ S 1076 1 ≤ S0 1076 1 + 840 * S 1076 13) (R : Nat) (hR : (51539607552 + (3 - S 1076 13).toNat) * 1208925819614629174706176 + 1208925819614629174706175 = R) (k108 : ∀ (x1 : Int) (x3 : Int) (x4 : Int) (x5 : Int) (S : zz_S), zz_G S → zz_fr [(1076, 1), (1076, 6), (1076, 12), (1076, 13), (1076, 14), (1076, 15), (1076, 16)] [1029, 1030] (fun _ _ => False) S0 S → (0 ≤ x1 ∧ x1 ≤ 0) → ((-2147483648) ≤ x3 ∧ x3 ≤ 3) → ((-2147483648) ≤ x4 ∧ x4 ≤ 3) → ((-2147483648) ≤ x5 ∧ x5 ≤ 63) → (S0 (zz_rf 6 (S0 1076 3)) 0 ≠ 1) → (S0 (zz_rf 6 (S0 1076 3)) 0 ≠ 3) → (0 ≤ S 1076 13 ∧ S 1076 13 ≤ 2) → (0 ≤ S 1076 14 ∧ S 1076 14 ≤ 3) → (S 1076 13 < x3) → (S0 1076 1 ≤ S 1076 1 ∧ S 1076 1 ≤ S0 1076 1 + 840 * S 1076 13 + 280 * S 1076 14) → (51539607552 + (3 - S 1076 13).toNat) * 1208925819614629174706176 + (34359738368 + (3 - S 1076 14).toNat) * 1099511627776 + 1099511627775 < R → zz_E g l zy_makeTile_3_4 zr_makeTile_3_4 (zz_QV n (zp_makeTile_3_4  S0)) S n 108 [some (.ref 1076), some (zi x1), none, some (zi x3), some (zi x4), some (zi x5), some (zi (S0 1076 12))] [] 0 0) : zz_E g l zy_makeTile_3_4 zr_makeTile_3_4 (zz_QV n (zp_makeTile_3_4  S0)) S n 95 [some (.ref 1076), some (zi x1), none, some (zi x3), some (zi x4), some (zi x5), some (zi (S0 1076 12))] [] 0 0 := by
  refine zz_aload_n (x := 1076) rfl zd_3_4_95 ?_
  have g36 := zz_G.r G_S 1076 13 (-2147483648) 2147483647 rfl rfl
  refine zz_geti (z := S 1076 13) zd_3_4_96 zf_Compiler_106 zT_1076 rfl (zz_ltn hn rfl) rfl ?_
  refine zz_iload_n (x := x3) rfl zd_3_4_99 ?_
  refine zz_icmp_ge (by omega) (by omega) zd_3_4_100 (fun c37 => ?_) (fun c37 => ?_)
  · refine zz_aload_n (x := 1076) rfl zd_3_4_279 ?_
    refine zz_callVI [] zd_3_4_280 zk_Compiler_122 zT_1076 (zz_ltn hn rfl) rfl rfl ⟨Nat.le_of_ble_eq_true rfl, Nat.le_of_ble_eq_true rfl⟩ ⟨rfl, rfl⟩ (Nat.zero_le _) (Nat.zero_le _) (zc_tileHalf_3_13  S n hn G_S ) (fun v39 S38 hP => ?_)
    obtain ⟨rfl, o40⟩ := hP
    refine zz_istore [some (.ref 1076), some (zi x1), none, some (zi x3), some (zi x4), some (zi x5), some (zi (S0 1076 12)), some (zi v39)] zd_3_4_283 (by decide) rfl ?_
    refine zz_bipush (by decide) zd_3_4_285 ?_
    refine zz_aload_n (x := 1076) rfl zd_3_4_287 ?_
    have g41 := zz_G.r G_S0 1076 11 (-2147483648) 2147483647 rfl rfl
    refine zz_geti (z := S0 1076 11) zd_3_4_288 zf_Compiler_91 zT_1076 rfl (zz_ltn hn rfl) (zz_rc F_S rfl rfl (fun h => h) rfl) ?_
    refine zz_aload_n (x := 1076) rfl zd_3_4_291 ?_
    have g42 := zz_G.r G_S0 1076 8 (-2147483648) 2147483647 rfl rfl
    refine zz_geti (z := S0 1076 8) zd_3_4_292 zf_Compiler_82 zT_1076 rfl (zz_ltn hn rfl) (zz_rc F_S rfl rfl (fun h => h) rfl) ?_
    refine zz_callSJ [zi 7, zi (S0 1076 11), zi (S0 1076 8)] zd_3_4_295 zk_Compiler_128 rfl rfl ⟨Nat.le_of_ble_eq_true rfl, Nat.le_of_ble_eq_true rfl⟩ ⟨rfl, rfl⟩ (Nat.zero_le _) (Nat.zero_le _) (zc_shaped_12_6 7 (S0 1076 11) (S0 1076 8) S n hn G_S (by omega) (by omega) (by omega)) (fun v44 S43 hP => ?_)
    obtain ⟨rfl, o45⟩ := hP
    refine zz_bipush (by decide) zd_3_4_298 ?_
    refine zz_iload (x := v39) rfl zd_3_4_300 ?_
    refine zz_callSJ [zi 8, zi v39] zd_3_4_302 zk_Compiler_132 rfl rfl ⟨Nat.le_of_ble_eq_true rfl, Nat.le_of_ble_eq_true rfl⟩ ⟨rfl, rfl⟩ (Nat.zero_le _) (Nat.zero_le _) (zc_bits_12_4 8 v39 S n hn G_S (by omega) (by omega)) (fun v47 S46 hP => ?_)
    obtain ⟨rfl, o48⟩ := hP
    refine zz_lor zd_3_4_305 (fun v49 hv49 ev49 => ?_)
    refine zz_bipush (by decide) zd_3_4_306 ?_
    refine zz_iload (x := v39) rfl zd_3_4_308 ?_
    refine zz_callSJ [zi 9, zi v39] zd_3_4_310 zk_Compiler_132 rfl rfl ⟨Nat.le_of_ble_eq_true rfl, Nat.le_of_ble_eq_true rfl⟩ ⟨rfl, rfl⟩ (Nat.zero_le _) (Nat.zero_le _) (zc_bits_12_4 9 v39 S n hn G_S (by omega) (by omega)) (fun v51 S50 hP => ?_)
    obtain ⟨rfl, o52⟩ := hP
    refine zz_lor zd_3_4_313 (fun v53 hv53 ev53 => ?_)
    refine zz_bipush (by decide) zd_3_4_314 ?_
    refine zz_aload_n (x := 1076) rfl zd_3_4_316 ?_
    have g54 := zz_G.r G_S0 1076 3 (-1) 23 rfl rfl
    refine zz_getr (kd := 4) (z := S0 1076 3) zd_3_4_317 zf_Compiler_51 zT_1076 rfl (zz_ltn hn rfl) (zz_rc F_S rfl rfl (fun h => h) rfl) (by omega) (zz_rf 6 (S0 1076 3)) rfl ?_
    refine zz_callVI [] zd_3_4_320 zk_Compiler_136 (zT_k6 (by omega)) (zN_k6 hn (by omega)) rfl rfl ⟨Nat.le_of_ble_eq_true rfl, Nat.le_of_ble_eq_true rfl⟩ ⟨rfl, rfl⟩ (Nat.zero_le _) (Nat.zero_le _) (zc_narrowing_4_6 (S0 1076 3) S n hn G_S (by omega)) (fun v56 S55 hP => ?_)
    obtain ⟨rfl, o57⟩ := hP
    refine zz_callSJ [zi 11, zi v56] zd_3_4_323 zk_Compiler_132 rfl rfl ⟨Nat.le_of_ble_eq_true rfl, Nat.le_of_ble_eq_true rfl⟩ ⟨rfl, rfl⟩ (Nat.zero_le _) (Nat.zero_le _) (zc_bits_12_4 11 v56 S n hn G_S (by omega) (by omega)) (fun v59 S58 hP => ?_)
    obtain ⟨rfl, o60⟩ := hP
    refine zz_lor zd_3_4_326 (fun v61 hv61 ev61 => ?_)
    refine zz_iconst zd_3_4_327 ?_
    refine zz_callSJ [zi 3] zd_3_4_328 zk_Compiler_139 rfl rfl ⟨Nat.le_of_ble_eq_true rfl, Nat.le_of_ble_eq_true rfl⟩ ⟨rfl, rfl⟩ (Nat.zero_le _) (Nat.zero_le _) (zc_flag_12_5 3 S n hn G_S (by omega)) (fun v63 S62 hP => ?_)
    obtain ⟨rfl, o64⟩ := hP
    refine zz_lor zd_3_4_331 (fun v65 hv65 ev65 => ?_)
    refine zz_iconst zd_3_4_332 ?_
    refine zz_callSJ [zi 4] zd_3_4_333 zk_Compiler_139 rfl rfl ⟨Nat.le_of_ble_eq_true rfl, Nat.le_of_ble_eq_true rfl⟩ ⟨rfl, rfl⟩ (Nat.zero_le _) (Nat.zero_le _) (zc_flag_12_5 4 S n hn G_S (by omega)) (fun v67 S66 hP => ?_)
    obtain ⟨rfl, o68⟩ := hP
    refine zz_lor zd_3_4_336 (fun v69 hv69 ev69 => ?_)
    refine zz_lstore [some (.ref 1076), some (zi x1), none, some (zi x3), some (zi x4), some (zi x5), some (zi (S0 1076 12)), some (zi v39), some (zl v69), none] zd_3_4_337 (by decide) rfl ?_
    refine zz_aload_n (x := 1076) rfl zd_3_4_339 ?_
    refine zz_aload_n (x := 1076) rfl zd_3_4_340 ?_
    have g70 := zz_G.r G_S 1076 6 (-2147483648) 2147483647 rfl rfl
    refine zz_geti (z := S 1076 6) zd_3_4_341 zf_Compiler_70 zT_1076 rfl (zz_ltn hn rfl) rfl ?_
    refine zz_iconst zd_3_4_344 ?_
    refine zz_icmp_le (by omega) (by omega) zd_3_4_345 (fun c71 => ?_) (fun c71 => ?_)
    · refine zz_lload (x := v69) rfl zd_3_4_358 ?_
      have g72 := zz_G.r G_S 1076 1 0 1000000 rfl rfl
      refine zz_callVV [zl v69] zd_3_4_360 zk_Compiler_143 zT_1076 (zz_ltn hn rfl) rfl rfl ⟨Nat.le_of_ble_eq_true rfl, Nat.le_of_ble_eq_true rfl⟩ ⟨rfl, rfl⟩ (Nat.zero_le _) (Nat.zero_le _) (zc_emit_3_15 v69 S n hn G_S (by omega) (by omega)) (fun S73 hP => ?_)
      obtain ⟨G_S73, fS73, o75⟩ := hP
      have F_S73 := zz_fr.trans F_S fS73 rfl (fun a i h => Or.inr (Or.inl (h ▸ zM_k4 (z := (S 1076 0)) (by omega) rfl)))
      have b76 := zz_rf4 (z := (S 1076 0)) (by omega)
      refine zz_aload_n (x := 1076) rfl zd_3_4_363 ?_
      refine zz_bipush (by decide) zd_3_4_364 ?_
      refine zz_aload_n (x := 1076) rfl zd_3_4_366 ?_
      refine zz_geti (z := S0 1076 11) zd_3_4_367 zf_Compiler_91 zT_1076 rfl (zz_ltn hn rfl) (zz_rc fS73 rfl rfl (by omega) (zz_rc F_S rfl rfl (fun h => h) rfl)) ?_
      refine zz_aload_n (x := 1076) rfl zd_3_4_370 ?_
      refine zz_geti (z := S0 1076 8) zd_3_4_371 zf_Compiler_82 zT_1076 rfl (zz_ltn hn rfl) (zz_rc fS73 rfl rfl (by omega) (zz_rc F_S rfl rfl (fun h => h) rfl)) ?_
      refine zz_callSJ [zi 8, zi (S0 1076 11), zi (S0 1076 8)] zd_3_4_374 zk_Compiler_128 rfl rfl ⟨Nat.le_of_ble_eq_true rfl, Nat.le_of_ble_eq_true rfl⟩ ⟨rfl, rfl⟩ (Nat.zero_le _) (Nat.zero_le _) (zc_shaped_12_6 8 (S0 1076 11) (S0 1076 8) S73 n hn G_S73 (by omega) (by omega) (by omega)) (fun v78 S77 hP => ?_)
      obtain ⟨rfl, o79⟩ := hP
      refine zz_bipush (by decide) zd_3_4_377 ?_
      refine zz_iload (x := v39) rfl zd_3_4_379 ?_
      refine zz_callSJ [zi 8, zi v39] zd_3_4_381 zk_Compiler_132 rfl rfl ⟨Nat.le_of_ble_eq_true rfl, Nat.le_of_ble_eq_true rfl⟩ ⟨rfl, rfl⟩ (Nat.zero_le _) (Nat.zero_le _) (zc_bits_12_4 8 v39 S73 n hn G_S73 (by omega) (by omega)) (fun v81 S80 hP => ?_)
      obtain ⟨rfl, o82⟩ := hP
      refine zz_lor zd_3_4_384 (fun v83 hv83 ev83 => ?_)
      refine zz_iconst zd_3_4_385 ?_
      refine zz_aload_n (x := 1076) rfl zd_3_4_386 ?_
      refine zz_getr (kd := 4) (z := S0 1076 3) zd_3_4_387 zf_Compiler_51 zT_1076 rfl (zz_ltn hn rfl) (zz_rc fS73 rfl rfl (by omega) (zz_rc F_S rfl rfl (fun h => h) rfl)) (by omega) (zz_rf 6 (S0 1076 3)) rfl ?_
      refine zz_aload_n (x := 1076) rfl zd_3_4_390 ?_
      have g84 := zz_G.r G_S0 1076 9 (-2147483648) 2147483647 rfl rfl
      refine zz_geti (z := S0 1076 9) zd_3_4_391 zf_Compiler_85 zT_1076 rfl (zz_ltn hn rfl) (zz_rc fS73 rfl rfl (by omega) (zz_rc F_S rfl rfl (fun h => h) rfl)) ?_
      refine zz_aload_n (x := 1076) rfl zd_3_4_394 ?_
      have g85 := zz_G.r G_S0 1076 10 (-2147483648) 2147483647 rfl rfl
      refine zz_geti (z := S0 1076 10) zd_3_4_395 zf_Compiler_88 zT_1076 rfl (zz_ltn hn rfl) (zz_rc fS73 rfl rfl (by omega) (zz_rc F_S rfl rfl (fun h => h) rfl)) ?_
      refine zz_aload_n (x := 1076) rfl zd_3_4_398 ?_
      have g86 := zz_G.r G_S0 1076 7 (-2147483648) 2147483647 rfl rfl
      refine zz_geti (z := S0 1076 7) zd_3_4_399 zf_Compiler_76 zT_1076 rfl (zz_ltn hn rfl) (zz_rc fS73 rfl rfl (by omega) (zz_rc F_S rfl rfl (fun h => h) rfl)) ?_
      refine zz_callVI [zi (S0 1076 9), zi (S0 1076 10), zi (S0 1076 7)] zd_3_4_402 zk_Compiler_147 (zT_k6 (by omega)) (zN_k6 hn (by omega)) rfl rfl ⟨Nat.le_of_ble_eq_true rfl, Nat.le_of_ble_eq_true rfl⟩ ⟨rfl, rfl⟩ (Nat.zero_le _) (Nat.zero_le _) (zc_cellAt_4_15 (S0 1076 3) (S0 1076 9) (S0 1076 10) (S0 1076 7) S73 n hn G_S73 (by omega) (by omega) (by omega) (by omega)) (fun v88 S87 hP => ?_)
      obtain ⟨rfl, o89⟩ := hP
      refine zz_callSJ [zi 5, zi v88] zd_3_4_405 zk_Compiler_132 rfl rfl ⟨Nat.le_of_ble_eq_true rfl, Nat.le_of_ble_eq_true rfl⟩ ⟨rfl, rfl⟩ (Nat.zero_le _) (Nat.zero_le _) (zc_bits_12_4 5 v88 S73 n hn G_S73 (by omega) (by omega)) (fun v91 S90 hP => ?_)
      obtain ⟨rfl, o92⟩ := hP
      refine zz_lor zd_3_4_408 (fun v93 hv93 ev93 => ?_)
      refine zz_bipush (by decide) zd_3_4_409 ?_
      refine zz_aload_n (x := 1076) rfl zd_3_4_411 ?_
      refine zz_getr (kd := 4) (z := S0 1076 3) zd_3_4_412 zf_Compiler_51 zT_1076 rfl (zz_ltn hn rfl) (zz_rc fS73 rfl rfl (by omega) (zz_rc F_S rfl rfl (fun h => h) rfl)) (by omega) (zz_rf 6 (S0 1076 3)) rfl ?_
      have g94 := zz_G.r G_S0 (zz_rf 6 (S0 1076 3)) 12 (-2147483648) 2147483647 (zR_k6_12 (by omega)) (zB_k6 (by omega))
      refine zz_geti (z := S0 (zz_rf 6 (S0 1076 3)) 12) zd_3_4_415 zf_Compiler_79 (zT_k6 (by omega)) rfl (zN_k6 hn (by omega)) (zz_rc fS73 (zP_k6 (by omega) rfl) (zQ_k6 (by omega) rfl) (by omega) (zz_rc F_S (zP_k6 (by omega) rfl) (zQ_k6 (by omega) rfl) (fun h => h) rfl)) ?_
      refine zz_callSJ [zi 10, zi (S0 (zz_rf 6 (S0 1076 3)) 12)] zd_3_4_418 zk_Compiler_132 rfl rfl ⟨Nat.le_of_ble_eq_true rfl, Nat.le_of_ble_eq_true rfl⟩ ⟨rfl, rfl⟩ (Nat.zero_le _) (Nat.zero_le _) (zc_bits_12_4 10 (S0 (zz_rf 6 (S0 1076 3)) 12) S73 n hn G_S73 (by omega) (by omega)) (fun v96 S95 hP => ?_)
      obtain ⟨rfl, o97⟩ := hP
      refine zz_lor zd_3_4_421 (fun v98 hv98 ev98 => ?_)
      refine zz_iconst zd_3_4_422 ?_
      refine zz_callSJ [zi 1] zd_3_4_423 zk_Compiler_139 rfl rfl ⟨Nat.le_of_ble_eq_true rfl, Nat.le_of_ble_eq_true rfl⟩ ⟨rfl, rfl⟩ (Nat.zero_le _) (Nat.zero_le _) (zc_flag_12_5 1 S73 n hn G_S73 (by omega)) (fun v100 S99 hP => ?_)
      obtain ⟨rfl, o101⟩ := hP
      refine zz_lor zd_3_4_426 (fun v102 hv102 ev102 => ?_)
      refine zz_iconst zd_3_4_427 ?_
      refine zz_callSJ [zi 3] zd_3_4_428 zk_Compiler_139 rfl rfl ⟨Nat.le_of_ble_eq_true rfl, Nat.le_of_ble_eq_true rfl⟩ ⟨rfl, rfl⟩ (Nat.zero_le _) (Nat.zero_le _) (zc_flag_12_5 3 S73 n hn G_S73 (by omega)) (fun v104 S103 hP => ?_)
      obtain ⟨rfl, o105⟩ := hP
      refine zz_lor zd_3_4_431 (fun v106 hv106 ev106 => ?_)
      have g107 := zz_G.r G_S73 1076 1 0 1000000 rfl rfl
      refine zz_callVV [zl v106] zd_3_4_432 zk_Compiler_143 zT_1076 (zz_ltn hn rfl) rfl rfl ⟨Nat.le_of_ble_eq_true rfl, Nat.le_of_ble_eq_true rfl⟩ ⟨rfl, rfl⟩ (Nat.zero_le _) (Nat.zero_le _) (zc_emit_3_15 v106 S73 n hn G_S73 (by omega) (by omega)) (fun S108 hP => ?_)
      obtain ⟨G_S108, fS108, o110⟩ := hP
      have F_S108 := zz_fr.trans F_S73 fS108 rfl (fun a i h => Or.inr (Or.inl (h ▸ zM_k4 (z := (S73 1076 0)) (by omega) rfl)))
      have b111 := zz_rf4 (z := (S73 1076 0)) (by omega)
      refine zz_aload_n (x := 1076) rfl zd_3_4_435 ?_
      refine zz_dup rfl zd_3_4_436 ?_
      refine zz_geti (z := S 1076 6) zd_3_4_437 zf_Compiler_70 zT_1076 rfl (zz_ltn hn rfl) (zz_rc fS108 rfl rfl (by omega) (zz_rc fS73 rfl rfl (by omega) rfl)) ?_
      refine zz_iconst zd_3_4_440 ?_
      refine zz_iadd zd_3_4_441 ?_
      refine zz_puti zd_3_4_442 zf_Compiler_70 zT_1076 rfl (zz_ltn hn rfl) (fun S112 qS112 => ?_)
      have G_S112 := zz_G.put G_S108 qS112 (-2147483648) 2147483647 rfl (by omega)
      have F_S112 := zz_fr.puts F_S108 qS112 rfl
      have g113 := zz_G.r G_S108 1076 1 0 1000000 rfl rfl
      have e114 : S112 1076 1 = S108 1076 1 := (zz_ro qS112 (fun h => absurd h.2 (by decide)) rfl)
      exact zz_vret zd_3_4_445 rfl (Nat.zero_le _) (Nat.zero_le _) ⟨_, rfl, G_S112, F_S112, by omega⟩
    · refine zz_lload (x := v69) rfl zd_3_4_348 ?_
      refine zz_iconst zd_3_4_350 ?_
      refine zz_callSJ [zi 2] zd_3_4_351 zk_Compiler_139 rfl rfl ⟨Nat.le_of_ble_eq_true rfl, Nat.le_of_ble_eq_true rfl⟩ ⟨rfl, rfl⟩ (Nat.zero_le _) (Nat.zero_le _) (zc_flag_12_5 2 S n hn G_S (by omega)) (fun v116 S115 hP => ?_)
      obtain ⟨rfl, o117⟩ := hP
      refine zz_lor zd_3_4_354 (fun v118 hv118 ev118 => ?_)
      refine zz_goto zd_3_4_355 ?_
      have g119 := zz_G.r G_S 1076 1 0 1000000 rfl rfl
      refine zz_callVV [zl v118] zd_3_4_360 zk_Compiler_143 zT_1076 (zz_ltn hn rfl) rfl rfl ⟨Nat.le_of_ble_eq_true rfl, Nat.le_of_ble_eq_true rfl⟩ ⟨rfl, rfl⟩ (Nat.zero_le _) (Nat.zero_le _) (zc_emit_3_15 v118 S n hn G_S (by omega) (by omega)) (fun S120 hP => ?_)
      obtain ⟨G_S120, fS120, o122⟩ := hP
      have F_S120 := zz_fr.trans F_S fS120 rfl (fun a i h => Or.inr (Or.inl (h ▸ zM_k4 (z := (S 1076 0)) (by omega) rfl)))
      have b123 := zz_rf4 (z := (S 1076 0)) (by omega)
      refine zz_aload_n (x := 1076) rfl zd_3_4_363 ?_
      refine zz_bipush (by decide) zd_3_4_364 ?_
      refine zz_aload_n (x := 1076) rfl zd_3_4_366 ?_
      refine zz_geti (z := S0 1076 11) zd_3_4_367 zf_Compiler_91 zT_1076 rfl (zz_ltn hn rfl) (zz_rc fS120 rfl rfl (by omega) (zz_rc F_S rfl rfl (fun h => h) rfl)) ?_
      refine zz_aload_n (x := 1076) rfl zd_3_4_370 ?_
      refine zz_geti (z := S0 1076 8) zd_3_4_371 zf_Compiler_82 zT_1076 rfl (zz_ltn hn rfl) (zz_rc fS120 rfl rfl (by omega) (zz_rc F_S rfl rfl (fun h => h) rfl)) ?_
      refine zz_callSJ [zi 8, zi (S0 1076 11), zi (S0 1076 8)] zd_3_4_374 zk_Compiler_128 rfl rfl ⟨Nat.le_of_ble_eq_true rfl, Nat.le_of_ble_eq_true rfl⟩ ⟨rfl, rfl⟩ (Nat.zero_le _) (Nat.zero_le _) (zc_shaped_12_6 8 (S0 1076 11) (S0 1076 8) S120 n hn G_S120 (by omega) (by omega) (by omega)) (fun v125 S124 hP => ?_)
      obtain ⟨rfl, o126⟩ := hP
      refine zz_bipush (by decide) zd_3_4_377 ?_
      refine zz_iload (x := v39) rfl zd_3_4_379 ?_
      refine zz_callSJ [zi 8, zi v39] zd_3_4_381 zk_Compiler_132 rfl rfl ⟨Nat.le_of_ble_eq_true rfl, Nat.le_of_ble_eq_true rfl⟩ ⟨rfl, rfl⟩ (Nat.zero_le _) (Nat.zero_le _) (zc_bits_12_4 8 v39 S120 n hn G_S120 (by omega) (by omega)) (fun v128 S127 hP => ?_)
      obtain ⟨rfl, o129⟩ := hP
      refine zz_lor zd_3_4_384 (fun v130 hv130 ev130 => ?_)
      refine zz_iconst zd_3_4_385 ?_
      refine zz_aload_n (x := 1076) rfl zd_3_4_386 ?_
      refine zz_getr (kd := 4) (z := S0 1076 3) zd_3_4_387 zf_Compiler_51 zT_1076 rfl (zz_ltn hn rfl) (zz_rc fS120 rfl rfl (by omega) (zz_rc F_S rfl rfl (fun h => h) rfl)) (by omega) (zz_rf 6 (S0 1076 3)) rfl ?_
      refine zz_aload_n (x := 1076) rfl zd_3_4_390 ?_
      have g131 := zz_G.r G_S0 1076 9 (-2147483648) 2147483647 rfl rfl
      refine zz_geti (z := S0 1076 9) zd_3_4_391 zf_Compiler_85 zT_1076 rfl (zz_ltn hn rfl) (zz_rc fS120 rfl rfl (by omega) (zz_rc F_S rfl rfl (fun h => h) rfl)) ?_
      refine zz_aload_n (x := 1076) rfl zd_3_4_394 ?_
      have g132 := zz_G.r G_S0 1076 10 (-2147483648) 2147483647 rfl rfl
      refine zz_geti (z := S0 1076 10) zd_3_4_395 zf_Compiler_88 zT_1076 rfl (zz_ltn hn rfl) (zz_rc fS120 rfl rfl (by omega) (zz_rc F_S rfl rfl (fun h => h) rfl)) ?_
      refine zz_aload_n (x := 1076) rfl zd_3_4_398 ?_
      have g133 := zz_G.r G_S0 1076 7 (-2147483648) 2147483647 rfl rfl
      refine zz_geti (z := S0 1076 7) zd_3_4_399 zf_Compiler_76 zT_1076 rfl (zz_ltn hn rfl) (zz_rc fS120 rfl rfl (by omega) (zz_rc F_S rfl rfl (fun h => h) rfl)) ?_
      refine zz_callVI [zi (S0 1076 9), zi (S0 1076 10), zi (S0 1076 7)] zd_3_4_402 zk_Compiler_147 (zT_k6 (by omega)) (zN_k6 hn (by omega)) rfl rfl ⟨Nat.le_of_ble_eq_true rfl, Nat.le_of_ble_eq_true rfl⟩ ⟨rfl, rfl⟩ (Nat.zero_le _) (Nat.zero_le _) (zc_cellAt_4_15 (S0 1076 3) (S0 1076 9) (S0 1076 10) (S0 1076 7) S120 n hn G_S120 (by omega) (by omega) (by omega) (by omega)) (fun v135 S134 hP => ?_)
      obtain ⟨rfl, o136⟩ := hP
      refine zz_callSJ [zi 5, zi v135] zd_3_4_405 zk_Compiler_132 rfl rfl ⟨Nat.le_of_ble_eq_true rfl, Nat.le_of_ble_eq_true rfl⟩ ⟨rfl, rfl⟩ (Nat.zero_le _) (Nat.zero_le _) (zc_bits_12_4 5 v135 S120 n hn G_S120 (by omega) (by omega)) (fun v138 S137 hP => ?_)
      obtain ⟨rfl, o139⟩ := hP
      refine zz_lor zd_3_4_408 (fun v140 hv140 ev140 => ?_)
      refine zz_bipush (by decide) zd_3_4_409 ?_
      refine zz_aload_n (x := 1076) rfl zd_3_4_411 ?_
      refine zz_getr (kd := 4) (z := S0 1076 3) zd_3_4_412 zf_Compiler_51 zT_1076 rfl (zz_ltn hn rfl) (zz_rc fS120 rfl rfl (by omega) (zz_rc F_S rfl rfl (fun h => h) rfl)) (by omega) (zz_rf 6 (S0 1076 3)) rfl ?_
      have g141 := zz_G.r G_S0 (zz_rf 6 (S0 1076 3)) 12 (-2147483648) 2147483647 (zR_k6_12 (by omega)) (zB_k6 (by omega))
      refine zz_geti (z := S0 (zz_rf 6 (S0 1076 3)) 12) zd_3_4_415 zf_Compiler_79 (zT_k6 (by omega)) rfl (zN_k6 hn (by omega)) (zz_rc fS120 (zP_k6 (by omega) rfl) (zQ_k6 (by omega) rfl) (by omega) (zz_rc F_S (zP_k6 (by omega) rfl) (zQ_k6 (by omega) rfl) (fun h => h) rfl)) ?_
      refine zz_callSJ [zi 10, zi (S0 (zz_rf 6 (S0 1076 3)) 12)] zd_3_4_418 zk_Compiler_132 rfl rfl ⟨Nat.le_of_ble_eq_true rfl, Nat.le_of_ble_eq_true rfl⟩ ⟨rfl, rfl⟩ (Nat.zero_le _) (Nat.zero_le _) (zc_bits_12_4 10 (S0 (zz_rf 6 (S0 1076 3)) 12) S120 n hn G_S120 (by omega) (by omega)) (fun v143 S142 hP => ?_)
      obtain ⟨rfl, o144⟩ := hP
      refine zz_lor zd_3_4_421 (fun v145 hv145 ev145 => ?_)
      refine zz_iconst zd_3_4_422 ?_
      refine zz_callSJ [zi 1] zd_3_4_423 zk_Compiler_139 rfl rfl ⟨Nat.le_of_ble_eq_true rfl, Nat.le_of_ble_eq_true rfl⟩ ⟨rfl, rfl⟩ (Nat.zero_le _) (Nat.zero_le _) (zc_flag_12_5 1 S120 n hn G_S120 (by omega)) (fun v147 S146 hP => ?_)
      obtain ⟨rfl, o148⟩ := hP
      refine zz_lor zd_3_4_426 (fun v149 hv149 ev149 => ?_)
      refine zz_iconst zd_3_4_427 ?_
      refine zz_callSJ [zi 3] zd_3_4_428 zk_Compiler_139 rfl rfl ⟨Nat.le_of_ble_eq_true rfl, Nat.le_of_ble_eq_true rfl⟩ ⟨rfl, rfl⟩ (Nat.zero_le _) (Nat.zero_le _) (zc_flag_12_5 3 S120 n hn G_S120 (by omega)) (fun v151 S150 hP => ?_)
      obtain ⟨rfl, o152⟩ := hP
      refine zz_lor zd_3_4_431 (fun v153 hv153 ev153 => ?_)
      have g154 := zz_G.r G_S120 1076 1 0 1000000 rfl rfl
      refine zz_callVV [zl v153] zd_3_4_432 zk_Compiler_143 zT_1076 (zz_ltn hn rfl) rfl rfl ⟨Nat.le_of_ble_eq_true rfl, Nat.le_of_ble_eq_true rfl⟩ ⟨rfl, rfl⟩ (Nat.zero_le _) (Nat.zero_le _) (zc_emit_3_15 v153 S120 n hn G_S120 (by omega) (by omega)) (fun S155 hP => ?_)
      obtain ⟨G_S155, fS155, o157⟩ := hP
      have F_S155 := zz_fr.trans F_S120 fS155 rfl (fun a i h => Or.inr (Or.inl (h ▸ zM_k4 (z := (S120 1076 0)) (by omega) rfl)))
      have b158 := zz_rf4 (z := (S120 1076 0)) (by omega)
      refine zz_aload_n (x := 1076) rfl zd_3_4_435 ?_
      refine zz_dup rfl zd_3_4_436 ?_
      refine zz_geti (z := S 1076 6) zd_3_4_437 zf_Compiler_70 zT_1076 rfl (zz_ltn hn rfl) (zz_rc fS155 rfl rfl (by omega) (zz_rc fS120 rfl rfl (by omega) rfl)) ?_
      refine zz_iconst zd_3_4_440 ?_
      refine zz_iadd zd_3_4_441 ?_
      refine zz_nrm (fun v159 hv159 ev159 => ?_)
      refine zz_puti zd_3_4_442 zf_Compiler_70 zT_1076 rfl (zz_ltn hn rfl) (fun S160 qS160 => ?_)
      have G_S160 := zz_G.put G_S155 qS160 (-2147483648) 2147483647 rfl (by omega)
      have F_S160 := zz_fr.puts F_S155 qS160 rfl
      have g161 := zz_G.r G_S155 1076 1 0 1000000 rfl rfl
      have e162 : S160 1076 1 = S155 1076 1 := (zz_ro qS160 (fun h => absurd h.2 (by decide)) rfl)
      exact zz_vret zd_3_4_445 rfl (Nat.zero_le _) (Nat.zero_le _) ⟨_, rfl, G_S160, F_S160, by omega⟩
  · refine zz_aload_n (x := 1076) rfl zd_3_4_103 ?_
    refine zz_iconst zd_3_4_104 ?_
    refine zz_puti zd_3_4_105 zf_Compiler_109 zT_1076 rfl (zz_ltn hn rfl) (fun S163 qS163 => ?_)
    have G_S163 := zz_G.put G_S qS163 (-2147483648) 2147483647 rfl (by omega)
    have F_S163 := zz_fr.puts F_S qS163 rfl
    have e164 : S163 1076 13 = S 1076 13 := (zz_ro qS163 (fun h => absurd h.2 (by decide)) rfl)
    have e165 : S163 1076 14 = 0 := (zz_rs qS163)
    have g166 := zz_G.r G_S 1076 1 0 1000000 rfl rfl
    have e167 : S163 1076 1 = S 1076 1 := (zz_ro qS163 (fun h => absurd h.2 (by decide)) rfl)
    exact k108 x1 x3 x4 x5 S163 G_S163 F_S163 (by omega) (by omega) (by omega) (by omega) (by omega) (by omega) (by omega) (by omega) (by omega) (by omega) (by omega)
theorem zb_makeTile_3_4_108 {g : mm_G} {l : Launch}  (S0 : zz_S) (n : Nat) (hn : zz_end ≤ n) (G_S0 : zz_G S0) (hq : S0 1076 1 ≤ 600) (hl : 0 ≤ S0 1076 3 ∧ 0 ≤ S0 1076 4 ∧ 0 ≤ S0 1076 5) (hk : zz_ly S0 (S0 1076 3) ∧ S0 (zz_rf 6 (S0 1076 4)) 12 ≤ 63) (x1 : Int) (x3 : Int) (x4 : Int) (x5 : Int) (S : zz_S) (G_S : zz_G S) (F_S : zz_fr [(1076, 1), (1076, 6), (1076, 12), (1076, 13), (1076, 14), (1076, 15), (1076, 16)] [1029, 1030] (fun _ _ => False) S0 S) (i108_0 : 0 ≤ x1 ∧ x1 ≤ 0) (i108_1 : (-2147483648) ≤ x3 ∧ x3 ≤ 3) (i108_2 : (-2147483648) ≤ x4 ∧ x4 ≤ 3) (i108_3 : (-2147483648) ≤ x5 ∧ x5 ≤ 63) (i108_4 : S0 (zz_rf 6 (S0 1076 3)) 0 ≠ 1) (i108_5 : S0 (zz_rf 6 (S0 1076 3)) 0 ≠ 3) (i108_6 : 0 ≤ S 1076 13 ∧ S 1076 13 ≤ 2) (i108_7 : 0 ≤ S 1076 14 ∧ S 1076 14 ≤ 3) (i108_8 : S 1076 13 < x3) (i108_9 : S0 1076 1 ≤ S 1076 1 ∧ S 1076 1 ≤ S0 1076 1 + 840 * S 1076 13 + 280 * S 1076 14) (R : Nat) (hR : (51539607552 + (3 - S 1076 13).toNat) * 1208925819614629174706176 + (34359738368 + (3 - S 1076 14).toNat) * 1099511627776 + 1099511627775 = R) (k95 : ∀ (x1 : Int) (x3 : Int) (x4 : Int) (x5 : Int) (S : zz_S), zz_G S → zz_fr [(1076, 1), (1076, 6), (1076, 12), (1076, 13), (1076, 14), (1076, 15), (1076, 16)] [1029, 1030] (fun _ _ => False) S0 S → (0 ≤ x1 ∧ x1 ≤ 0) → ((-2147483648) ≤ x3 ∧ x3 ≤ 3) → ((-2147483648) ≤ x4 ∧ x4 ≤ 3) → ((-2147483648) ≤ x5 ∧ x5 ≤ 63) → (0 ≤ S 1076 13 ∧ S 1076 13 ≤ 3) → (S0 1076 1 ≤ S 1076 1 ∧ S 1076 1 ≤ S0 1076 1 + 840 * S 1076 13) → (51539607552 + (3 - S 1076 13).toNat) * 1208925819614629174706176 + 1208925819614629174706175 < R → zz_E g l zy_makeTile_3_4 zr_makeTile_3_4 (zz_QV n (zp_makeTile_3_4  S0)) S n 95 [some (.ref 1076), some (zi x1), none, some (zi x3), some (zi x4), some (zi x5), some (zi (S0 1076 12))] [] 0 0) (k122 : ∀ (x1 : Int) (x3 : Int) (x4 : Int) (x5 : Int) (S : zz_S), zz_G S → zz_fr [(1076, 1), (1076, 6), (1076, 12), (1076, 13), (1076, 14), (1076, 15), (1076, 16)] [1029, 1030] (fun _ _ => False) S0 S → (0 ≤ x1 ∧ x1 ≤ 0) → ((-2147483648) ≤ x3 ∧ x3 ≤ 3) → ((-2147483648) ≤ x4 ∧ x4 ≤ 3) → ((-2147483648) ≤ x5 ∧ x5 ≤ 63) → (S0 (zz_rf 6 (S0 1076 3)) 0 ≠ 1) → (S0 (zz_rf 6 (S0 1076 3)) 0 ≠ 3) → (0 ≤ S 1076 13 ∧ S 1076 13 ≤ 2) → (0 ≤ S 1076 14 ∧ S 1076 14 ≤ 2) → (S 1076 13 < x3) → (S 1076 14 < x4) → (0 ≤ S 1076 15 ∧ S 1076 15 ≤ 70) → (S0 1076 1 ≤ S 1076 1 ∧ S 1076 1 ≤ S0 1076 1 + 840 * S 1076 13 + 280 * S 1076 14 + 4 * S 1076 15) → (51539607552 + (3 - S 1076 13).toNat) * 1208925819614629174706176 + (34359738368 + (3 - S 1076 14).toNat) * 1099511627776 + (17179869184 + (80 - S 1076 15).toNat) < R → zz_E g l zy_makeTile_3_4 zr_makeTile_3_4 (zz_QV n (zp_makeTile_3_4  S0)) S n 122 [some (.ref 1076), some (zi x1), none, some (zi x3), some (zi x4), some (zi x5), some (zi (S0 1076 12))] [] 0 0) : zz_E g l zy_makeTile_3_4 zr_makeTile_3_4 (zz_QV n (zp_makeTile_3_4  S0)) S n 108 [some (.ref 1076), some (zi x1), none, some (zi x3), some (zi x4), some (zi x5), some (zi (S0 1076 12))] [] 0 0 := by
  refine zz_aload_n (x := 1076) rfl zd_3_4_108 ?_
  have g168 := zz_G.r G_S 1076 14 (-2147483648) 2147483647 rfl rfl
  refine zz_geti (z := S 1076 14) zd_3_4_109 zf_Compiler_109 zT_1076 rfl (zz_ltn hn rfl) rfl ?_
  refine zz_iload (x := x4) rfl zd_3_4_112 ?_
  refine zz_icmp_ge (by omega) (by omega) zd_3_4_114 (fun c169 => ?_) (fun c169 => ?_)
  · refine zz_aload_n (x := 1076) rfl zd_3_4_266 ?_
    refine zz_dup rfl zd_3_4_267 ?_
    have g170 := zz_G.r G_S 1076 13 (-2147483648) 2147483647 rfl rfl
    refine zz_geti (z := S 1076 13) zd_3_4_268 zf_Compiler_106 zT_1076 rfl (zz_ltn hn rfl) rfl ?_
    refine zz_iconst zd_3_4_271 ?_
    refine zz_iadd zd_3_4_272 ?_
    refine zz_nrm (fun v171 hv171 ev171 => ?_)
    refine zz_puti zd_3_4_273 zf_Compiler_106 zT_1076 rfl (zz_ltn hn rfl) (fun S172 qS172 => ?_)
    have G_S172 := zz_G.put G_S qS172 (-2147483648) 2147483647 rfl (by omega)
    have F_S172 := zz_fr.puts F_S qS172 rfl
    refine zz_goto zd_3_4_276 ?_
    have e173 : S172 1076 13 = v171 := (zz_rs qS172)
    have g174 := zz_G.r G_S 1076 1 0 1000000 rfl rfl
    have e175 : S172 1076 1 = S 1076 1 := (zz_ro qS172 (fun h => absurd h.2 (by decide)) rfl)
    exact k95 x1 x3 x4 x5 S172 G_S172 F_S172 (by omega) (by omega) (by omega) (by omega) (by omega) (by omega) (by omega)
  · refine zz_aload_n (x := 1076) rfl zd_3_4_117 ?_
    refine zz_iconst zd_3_4_118 ?_
    refine zz_puti zd_3_4_119 zf_Compiler_112 zT_1076 rfl (zz_ltn hn rfl) (fun S176 qS176 => ?_)
    have G_S176 := zz_G.put G_S qS176 (-2147483648) 2147483647 rfl (by omega)
    have F_S176 := zz_fr.puts F_S qS176 rfl
    have g177 := zz_G.r G_S 1076 13 (-2147483648) 2147483647 rfl rfl
    have e178 : S176 1076 13 = S 1076 13 := (zz_ro qS176 (fun h => absurd h.2 (by decide)) rfl)
    have e179 : S176 1076 14 = S 1076 14 := (zz_ro qS176 (fun h => absurd h.2 (by decide)) rfl)
    have e180 : S176 1076 15 = 0 := (zz_rs qS176)
    have g181 := zz_G.r G_S 1076 1 0 1000000 rfl rfl
    have e182 : S176 1076 1 = S 1076 1 := (zz_ro qS176 (fun h => absurd h.2 (by decide)) rfl)
    exact k122 x1 x3 x4 x5 S176 G_S176 F_S176 (by omega) (by omega) (by omega) (by omega) (by omega) (by omega) (by omega) (by omega) (by omega) (by omega) (by omega) (by omega) (by omega)
theorem zb_makeTile_3_4_122 {g : mm_G} {l : Launch}  (S0 : zz_S) (n : Nat) (hn : zz_end ≤ n) (G_S0 : zz_G S0) (hq : S0 1076 1 ≤ 600) (hl : 0 ≤ S0 1076 3 ∧ 0 ≤ S0 1076 4 ∧ 0 ≤ S0 1076 5) (hk : zz_ly S0 (S0 1076 3) ∧ S0 (zz_rf 6 (S0 1076 4)) 12 ≤ 63) (x1 : Int) (x3 : Int) (x4 : Int) (x5 : Int) (S : zz_S) (G_S : zz_G S) (F_S : zz_fr [(1076, 1), (1076, 6), (1076, 12), (1076, 13), (1076, 14), (1076, 15), (1076, 16)] [1029, 1030] (fun _ _ => False) S0 S) (i122_0 : 0 ≤ x1 ∧ x1 ≤ 0) (i122_1 : (-2147483648) ≤ x3 ∧ x3 ≤ 3) (i122_2 : (-2147483648) ≤ x4 ∧ x4 ≤ 3) (i122_3 : (-2147483648) ≤ x5 ∧ x5 ≤ 63) (i122_4 : S0 (zz_rf 6 (S0 1076 3)) 0 ≠ 1) (i122_5 : S0 (zz_rf 6 (S0 1076 3)) 0 ≠ 3) (i122_6 : 0 ≤ S 1076 13 ∧ S 1076 13 ≤ 2) (i122_7 : 0 ≤ S 1076 14 ∧ S 1076 14 ≤ 2) (i122_8 : S 1076 13 < x3) (i122_9 : S 1076 14 < x4) (i122_10 : 0 ≤ S 1076 15 ∧ S 1076 15 ≤ 70) (i122_11 : S0 1076 1 ≤ S 1076 1 ∧ S 1076 1 ≤ S0 1076 1 + 840 * S 1076 13 + 280 * S 1076 14 + 4 * S 1076 15) (R : Nat) (hR : (51539607552 + (3 - S 1076 13).toNat) * 1208925819614629174706176 + (34359738368 + (3 - S 1076 14).toNat) * 1099511627776 + (17179869184 + (80 - S 1076 15).toNat) = R) (k108 : ∀ (x1 : Int) (x3 : Int) (x4 : Int) (x5 : Int) (S : zz_S), zz_G S → zz_fr [(1076, 1), (1076, 6), (1076, 12), (1076, 13), (1076, 14), (1076, 15), (1076, 16)] [1029, 1030] (fun _ _ => False) S0 S → (0 ≤ x1 ∧ x1 ≤ 0) → ((-2147483648) ≤ x3 ∧ x3 ≤ 3) → ((-2147483648) ≤ x4 ∧ x4 ≤ 3) → ((-2147483648) ≤ x5 ∧ x5 ≤ 63) → (S0 (zz_rf 6 (S0 1076 3)) 0 ≠ 1) → (S0 (zz_rf 6 (S0 1076 3)) 0 ≠ 3) → (0 ≤ S 1076 13 ∧ S 1076 13 ≤ 2) → (0 ≤ S 1076 14 ∧ S 1076 14 ≤ 3) → (S 1076 13 < x3) → (S0 1076 1 ≤ S 1076 1 ∧ S 1076 1 ≤ S0 1076 1 + 840 * S 1076 13 + 280 * S 1076 14) → (51539607552 + (3 - S 1076 13).toNat) * 1208925819614629174706176 + (34359738368 + (3 - S 1076 14).toNat) * 1099511627776 + 1099511627775 < R → zz_E g l zy_makeTile_3_4 zr_makeTile_3_4 (zz_QV n (zp_makeTile_3_4  S0)) S n 108 [some (.ref 1076), some (zi x1), none, some (zi x3), some (zi x4), some (zi x5), some (zi (S0 1076 12))] [] 0 0) (k122 : ∀ (x1 : Int) (x3 : Int) (x4 : Int) (x5 : Int) (S : zz_S), zz_G S → zz_fr [(1076, 1), (1076, 6), (1076, 12), (1076, 13), (1076, 14), (1076, 15), (1076, 16)] [1029, 1030] (fun _ _ => False) S0 S → (0 ≤ x1 ∧ x1 ≤ 0) → ((-2147483648) ≤ x3 ∧ x3 ≤ 3) → ((-2147483648) ≤ x4 ∧ x4 ≤ 3) → ((-2147483648) ≤ x5 ∧ x5 ≤ 63) → (S0 (zz_rf 6 (S0 1076 3)) 0 ≠ 1) → (S0 (zz_rf 6 (S0 1076 3)) 0 ≠ 3) → (0 ≤ S 1076 13 ∧ S 1076 13 ≤ 2) → (0 ≤ S 1076 14 ∧ S 1076 14 ≤ 2) → (S 1076 13 < x3) → (S 1076 14 < x4) → (0 ≤ S 1076 15 ∧ S 1076 15 ≤ 70) → (S0 1076 1 ≤ S 1076 1 ∧ S 1076 1 ≤ S0 1076 1 + 840 * S 1076 13 + 280 * S 1076 14 + 4 * S 1076 15) → (51539607552 + (3 - S 1076 13).toNat) * 1208925819614629174706176 + (34359738368 + (3 - S 1076 14).toNat) * 1099511627776 + (17179869184 + (80 - S 1076 15).toNat) < R → zz_E g l zy_makeTile_3_4 zr_makeTile_3_4 (zz_QV n (zp_makeTile_3_4  S0)) S n 122 [some (.ref 1076), some (zi x1), none, some (zi x3), some (zi x4), some (zi x5), some (zi (S0 1076 12))] [] 0 0) : zz_E g l zy_makeTile_3_4 zr_makeTile_3_4 (zz_QV n (zp_makeTile_3_4  S0)) S n 122 [some (.ref 1076), some (zi x1), none, some (zi x3), some (zi x4), some (zi x5), some (zi (S0 1076 12))] [] 0 0 := by
  refine zz_aload_n (x := 1076) rfl zd_3_4_122 ?_
  have g183 := zz_G.r G_S 1076 15 (-2147483648) 2147483647 rfl rfl
  refine zz_geti (z := S 1076 15) zd_3_4_123 zf_Compiler_112 zT_1076 rfl (zz_ltn hn rfl) rfl ?_
  refine zz_iload (x := x5) rfl zd_3_4_126 ?_
  refine zz_icmp_ge (by omega) (by omega) zd_3_4_128 (fun c184 => ?_) (fun c184 => ?_)
  · refine zz_aload_n (x := 1076) rfl zd_3_4_253 ?_
    refine zz_dup rfl zd_3_4_254 ?_
    have g185 := zz_G.r G_S 1076 14 (-2147483648) 2147483647 rfl rfl
    refine zz_geti (z := S 1076 14) zd_3_4_255 zf_Compiler_109 zT_1076 rfl (zz_ltn hn rfl) rfl ?_
    refine zz_iconst zd_3_4_258 ?_
    refine zz_iadd zd_3_4_259 ?_
    refine zz_nrm (fun v186 hv186 ev186 => ?_)
    refine zz_puti zd_3_4_260 zf_Compiler_109 zT_1076 rfl (zz_ltn hn rfl) (fun S187 qS187 => ?_)
    have G_S187 := zz_G.put G_S qS187 (-2147483648) 2147483647 rfl (by omega)
    have F_S187 := zz_fr.puts F_S qS187 rfl
    refine zz_goto zd_3_4_263 ?_
    have g188 := zz_G.r G_S 1076 13 (-2147483648) 2147483647 rfl rfl
    have e189 : S187 1076 13 = S 1076 13 := (zz_ro qS187 (fun h => absurd h.2 (by decide)) rfl)
    have e190 : S187 1076 14 = v186 := (zz_rs qS187)
    have g191 := zz_G.r G_S 1076 1 0 1000000 rfl rfl
    have e192 : S187 1076 1 = S 1076 1 := (zz_ro qS187 (fun h => absurd h.2 (by decide)) rfl)
    exact k108 x1 x3 x4 x5 S187 G_S187 F_S187 (by omega) (by omega) (by omega) (by omega) (by omega) (by omega) (by omega) (by omega) (by omega) (by omega) (by omega)
  · refine zz_aload_n (x := 1076) rfl zd_3_4_131 ?_
    refine zz_iload_n (x := x1) rfl zd_3_4_132 ?_
    refine zz_if_eq (by omega) zd_3_4_133 (fun c193 => ?_) (fun c193 => ?_)
    · refine zz_aload_n (x := 1076) rfl zd_3_4_158 ?_
      have g194 := zz_G.r G_S0 1076 8 (-2147483648) 2147483647 rfl rfl
      refine zz_geti (z := S0 1076 8) zd_3_4_159 zf_Compiler_82 zT_1076 rfl (zz_ltn hn rfl) (zz_rc F_S rfl rfl (fun h => h) rfl) ?_
      refine zz_puti zd_3_4_162 zf_Compiler_115 zT_1076 rfl (zz_ltn hn rfl) (fun S195 qS195 => ?_)
      have G_S195 := zz_G.put G_S qS195 (-2147483648) 2147483647 rfl (by omega)
      have F_S195 := zz_fr.puts F_S qS195 rfl
      refine zz_aload_n (x := 1076) rfl zd_3_4_165 ?_
      have g196 := zz_G.r G_S 1076 13 (-2147483648) 2147483647 rfl rfl
      refine zz_geti (z := S 1076 13) zd_3_4_166 zf_Compiler_106 zT_1076 rfl (zz_ltn hn rfl) (zz_ro qS195 (fun h => absurd h.2 (by decide)) rfl) ?_
      refine zz_iload_n (x := x3) rfl zd_3_4_169 ?_
      refine zz_iconst zd_3_4_170 ?_
      refine zz_isub zd_3_4_171 ?_
      refine zz_nrm (fun v197 hv197 ev197 => ?_)
      refine zz_icmp_ne (by omega) (by omega) zd_3_4_172 (fun c198 => ?_) (fun c198 => ?_)
      · refine zz_iconst zd_3_4_204 ?_
        refine zz_istore [some (.ref 1076), some (zi x1), none, some (zi x3), some (zi x4), some (zi x5), some (zi (S0 1076 12)), some (zi 0)] zd_3_4_205 (by decide) rfl ?_
        refine zz_aload_n (x := 1076) rfl zd_3_4_207 ?_
        refine zz_aload_n (x := 1076) rfl zd_3_4_208 ?_
        have g199 := zz_G.r G_S 1076 12 (-2147483648) 2147483647 rfl rfl
        refine zz_geti (z := S 1076 12) zd_3_4_209 zf_Compiler_73 zT_1076 rfl (zz_ltn hn rfl) (zz_ro qS195 (fun h => absurd h.2 (by decide)) rfl) ?_
        refine zz_iload (x := S0 1076 12) rfl zd_3_4_212 ?_
        refine zz_icmp_ne (by omega) (by omega) zd_3_4_214 (fun c200 => ?_) (fun c200 => ?_)
        · refine zz_iconst zd_3_4_221 ?_
          refine zz_iload (x := 0) rfl zd_3_4_222 ?_
          have g201 := zz_G.r G_S 1076 1 0 1000000 rfl rfl
          have e202 : S195 1076 1 = S 1076 1 := (zz_ro qS195 (fun h => absurd h.2 (by decide)) rfl)
          have g203 := zz_G.r G_S0 1076 3 (-1) 23 rfl rfl
          have e204 : S195 1076 3 = S0 1076 3 := (zz_ro qS195 (fun h => absurd h.2 (by decide)) (zz_rc F_S rfl rfl (fun h => h) rfl))
          have g205 := zz_G.r G_S0 1076 4 (-1) 23 rfl rfl
          have e206 : S195 1076 4 = S0 1076 4 := (zz_ro qS195 (fun h => absurd h.2 (by decide)) (zz_rc F_S rfl rfl (fun h => h) rfl))
          have g207 := zz_G.r G_S0 1076 5 (-1) 23 rfl rfl
          have e208 : S195 1076 5 = S0 1076 5 := (zz_ro qS195 (fun h => absurd h.2 (by decide)) (zz_rc F_S rfl rfl (fun h => h) rfl))
          refine zz_callVV [zi 0, zi 0] zd_3_4_224 zk_Compiler_118 zT_1076 (zz_ltn hn rfl) rfl rfl ⟨Nat.le_of_ble_eq_true rfl, Nat.le_of_ble_eq_true rfl⟩ ⟨rfl, rfl⟩ (Nat.zero_le _) (Nat.zero_le _) (zc_makeGroup_3_5 0 0 S195 n hn G_S195 (by omega) (by omega) (by omega) (by omega)) (fun S209 hP => ?_)
          obtain ⟨G_S209, fS209, o211⟩ := hP
          have F_S209 := zz_fr.trans F_S195 fS209 rfl (fun a i h => Or.inr (Or.inl (h ▸ zM_k4 (z := (S195 1076 0)) (by omega) rfl)))
          have b212 := zz_rf4 (z := (S195 1076 0)) (by omega)
          refine zz_aload_n (x := 1076) rfl zd_3_4_227 ?_
          refine zz_dup rfl zd_3_4_228 ?_
          refine zz_geti (z := S 1076 12) zd_3_4_229 zf_Compiler_73 zT_1076 rfl (zz_ltn hn rfl) (zz_rc fS209 rfl rfl (by omega) (zz_ro qS195 (fun h => absurd h.2 (by decide)) rfl)) ?_
          refine zz_iconst zd_3_4_232 ?_
          refine zz_iadd zd_3_4_233 ?_
          refine zz_nrm (fun v213 hv213 ev213 => ?_)
          refine zz_puti zd_3_4_234 zf_Compiler_73 zT_1076 rfl (zz_ltn hn rfl) (fun S214 qS214 => ?_)
          have G_S214 := zz_G.put G_S209 qS214 (-2147483648) 2147483647 rfl (by omega)
          have F_S214 := zz_fr.puts F_S209 qS214 rfl
          refine zz_aload_n (x := 1076) rfl zd_3_4_237 ?_
          refine zz_dup rfl zd_3_4_238 ?_
          refine zz_geti (z := S 1076 15) zd_3_4_239 zf_Compiler_112 zT_1076 rfl (zz_ltn hn rfl) (zz_ro qS214 (fun h => absurd h.2 (by decide)) (zz_rc fS209 rfl rfl (by omega) (zz_ro qS195 (fun h => absurd h.2 (by decide)) rfl))) ?_
          refine zz_aload_n (x := 1076) rfl zd_3_4_242 ?_
          have g215 := zz_G.r G_S0 1076 2 2 8 rfl rfl
          refine zz_geti (z := S0 1076 2) zd_3_4_243 zf_Compiler_21 zT_1076 rfl (zz_ltn hn rfl) (zz_ro qS214 (fun h => absurd h.2 (by decide)) (zz_rc fS209 rfl rfl (by omega) (zz_ro qS195 (fun h => absurd h.2 (by decide)) (zz_rc F_S rfl rfl (fun h => h) rfl)))) ?_
          refine zz_iadd zd_3_4_246 ?_
          refine zz_puti zd_3_4_247 zf_Compiler_112 zT_1076 rfl (zz_ltn hn rfl) (fun S216 qS216 => ?_)
          have G_S216 := zz_G.put G_S214 qS216 (-2147483648) 2147483647 rfl (by omega)
          have F_S216 := zz_fr.puts F_S214 qS216 rfl
          refine zz_goto zd_3_4_250 ?_
          have e217 : S216 1076 13 = S 1076 13 := (zz_ro qS216 (fun h => absurd h.2 (by decide)) (zz_ro qS214 (fun h => absurd h.2 (by decide)) (zz_rc fS209 rfl rfl (by omega) (zz_ro qS195 (fun h => absurd h.2 (by decide)) rfl))))
          have g218 := zz_G.r G_S 1076 14 (-2147483648) 2147483647 rfl rfl
          have e219 : S216 1076 14 = S 1076 14 := (zz_ro qS216 (fun h => absurd h.2 (by decide)) (zz_ro qS214 (fun h => absurd h.2 (by decide)) (zz_rc fS209 rfl rfl (by omega) (zz_ro qS195 (fun h => absurd h.2 (by decide)) rfl))))
          have e220 : S216 1076 15 = (S 1076 15) + (S0 1076 2) := (zz_rs qS216)
          have g221 := zz_G.r G_S209 1076 1 0 1000000 rfl rfl
          have e222 : S216 1076 1 = S209 1076 1 := (zz_ro qS216 (fun h => absurd h.2 (by decide)) (zz_ro qS214 (fun h => absurd h.2 (by decide)) rfl))
          refine zz_less (ls1 := [some (.ref 1076), some (zi x1), none, some (zi x3), some (zi x4), some (zi x5), some (zi (S0 1076 12))]) ⟨rfl, ⟨rfl, ⟨rfl, ⟨rfl, ⟨rfl, ⟨rfl, trivial⟩⟩⟩⟩⟩⟩ ?_
          exact k122 x1 x3 x4 x5 S216 G_S216 F_S216 (by omega) (by omega) (by omega) (by omega) (by omega) (by omega) (by omega) (by omega) (by omega) (by omega) (by omega) (by omega) (by omega)
        · refine zz_iconst zd_3_4_217 ?_
          refine zz_goto zd_3_4_218 ?_
          refine zz_iload (x := 0) rfl zd_3_4_222 ?_
          have g223 := zz_G.r G_S 1076 1 0 1000000 rfl rfl
          have e224 : S195 1076 1 = S 1076 1 := (zz_ro qS195 (fun h => absurd h.2 (by decide)) rfl)
          have g225 := zz_G.r G_S0 1076 3 (-1) 23 rfl rfl
          have e226 : S195 1076 3 = S0 1076 3 := (zz_ro qS195 (fun h => absurd h.2 (by decide)) (zz_rc F_S rfl rfl (fun h => h) rfl))
          have g227 := zz_G.r G_S0 1076 4 (-1) 23 rfl rfl
          have e228 : S195 1076 4 = S0 1076 4 := (zz_ro qS195 (fun h => absurd h.2 (by decide)) (zz_rc F_S rfl rfl (fun h => h) rfl))
          have g229 := zz_G.r G_S0 1076 5 (-1) 23 rfl rfl
          have e230 : S195 1076 5 = S0 1076 5 := (zz_ro qS195 (fun h => absurd h.2 (by decide)) (zz_rc F_S rfl rfl (fun h => h) rfl))
          refine zz_callVV [zi 1, zi 0] zd_3_4_224 zk_Compiler_118 zT_1076 (zz_ltn hn rfl) rfl rfl ⟨Nat.le_of_ble_eq_true rfl, Nat.le_of_ble_eq_true rfl⟩ ⟨rfl, rfl⟩ (Nat.zero_le _) (Nat.zero_le _) (zc_makeGroup_3_5 1 0 S195 n hn G_S195 (by omega) (by omega) (by omega) (by omega)) (fun S231 hP => ?_)
          obtain ⟨G_S231, fS231, o233⟩ := hP
          have F_S231 := zz_fr.trans F_S195 fS231 rfl (fun a i h => Or.inr (Or.inl (h ▸ zM_k4 (z := (S195 1076 0)) (by omega) rfl)))
          have b234 := zz_rf4 (z := (S195 1076 0)) (by omega)
          refine zz_aload_n (x := 1076) rfl zd_3_4_227 ?_
          refine zz_dup rfl zd_3_4_228 ?_
          refine zz_geti (z := S 1076 12) zd_3_4_229 zf_Compiler_73 zT_1076 rfl (zz_ltn hn rfl) (zz_rc fS231 rfl rfl (by omega) (zz_ro qS195 (fun h => absurd h.2 (by decide)) rfl)) ?_
          refine zz_iconst zd_3_4_232 ?_
          refine zz_iadd zd_3_4_233 ?_
          refine zz_nrm (fun v235 hv235 ev235 => ?_)
          refine zz_puti zd_3_4_234 zf_Compiler_73 zT_1076 rfl (zz_ltn hn rfl) (fun S236 qS236 => ?_)
          have G_S236 := zz_G.put G_S231 qS236 (-2147483648) 2147483647 rfl (by omega)
          have F_S236 := zz_fr.puts F_S231 qS236 rfl
          refine zz_aload_n (x := 1076) rfl zd_3_4_237 ?_
          refine zz_dup rfl zd_3_4_238 ?_
          refine zz_geti (z := S 1076 15) zd_3_4_239 zf_Compiler_112 zT_1076 rfl (zz_ltn hn rfl) (zz_ro qS236 (fun h => absurd h.2 (by decide)) (zz_rc fS231 rfl rfl (by omega) (zz_ro qS195 (fun h => absurd h.2 (by decide)) rfl))) ?_
          refine zz_aload_n (x := 1076) rfl zd_3_4_242 ?_
          have g237 := zz_G.r G_S0 1076 2 2 8 rfl rfl
          refine zz_geti (z := S0 1076 2) zd_3_4_243 zf_Compiler_21 zT_1076 rfl (zz_ltn hn rfl) (zz_ro qS236 (fun h => absurd h.2 (by decide)) (zz_rc fS231 rfl rfl (by omega) (zz_ro qS195 (fun h => absurd h.2 (by decide)) (zz_rc F_S rfl rfl (fun h => h) rfl)))) ?_
          refine zz_iadd zd_3_4_246 ?_
          refine zz_puti zd_3_4_247 zf_Compiler_112 zT_1076 rfl (zz_ltn hn rfl) (fun S238 qS238 => ?_)
          have G_S238 := zz_G.put G_S236 qS238 (-2147483648) 2147483647 rfl (by omega)
          have F_S238 := zz_fr.puts F_S236 qS238 rfl
          refine zz_goto zd_3_4_250 ?_
          have e239 : S238 1076 13 = S 1076 13 := (zz_ro qS238 (fun h => absurd h.2 (by decide)) (zz_ro qS236 (fun h => absurd h.2 (by decide)) (zz_rc fS231 rfl rfl (by omega) (zz_ro qS195 (fun h => absurd h.2 (by decide)) rfl))))
          have g240 := zz_G.r G_S 1076 14 (-2147483648) 2147483647 rfl rfl
          have e241 : S238 1076 14 = S 1076 14 := (zz_ro qS238 (fun h => absurd h.2 (by decide)) (zz_ro qS236 (fun h => absurd h.2 (by decide)) (zz_rc fS231 rfl rfl (by omega) (zz_ro qS195 (fun h => absurd h.2 (by decide)) rfl))))
          have e242 : S238 1076 15 = (S 1076 15) + (S0 1076 2) := (zz_rs qS238)
          have g243 := zz_G.r G_S231 1076 1 0 1000000 rfl rfl
          have e244 : S238 1076 1 = S231 1076 1 := (zz_ro qS238 (fun h => absurd h.2 (by decide)) (zz_ro qS236 (fun h => absurd h.2 (by decide)) rfl))
          refine zz_less (ls1 := [some (.ref 1076), some (zi x1), none, some (zi x3), some (zi x4), some (zi x5), some (zi (S0 1076 12))]) ⟨rfl, ⟨rfl, ⟨rfl, ⟨rfl, ⟨rfl, ⟨rfl, trivial⟩⟩⟩⟩⟩⟩ ?_
          exact k122 x1 x3 x4 x5 S238 G_S238 F_S238 (by omega) (by omega) (by omega) (by omega) (by omega) (by omega) (by omega) (by omega) (by omega) (by omega) (by omega) (by omega) (by omega)
      · refine zz_aload_n (x := 1076) rfl zd_3_4_175 ?_
        have g245 := zz_G.r G_S 1076 14 (-2147483648) 2147483647 rfl rfl
        refine zz_geti (z := S 1076 14) zd_3_4_176 zf_Compiler_109 zT_1076 rfl (zz_ltn hn rfl) (zz_ro qS195 (fun h => absurd h.2 (by decide)) rfl) ?_
        refine zz_iload (x := x4) rfl zd_3_4_179 ?_
        refine zz_iconst zd_3_4_181 ?_
        refine zz_isub zd_3_4_182 ?_
        refine zz_nrm (fun v246 hv246 ev246 => ?_)
        refine zz_icmp_ne (by omega) (by omega) zd_3_4_183 (fun c247 => ?_) (fun c247 => ?_)
        · refine zz_iconst zd_3_4_204 ?_
          refine zz_istore [some (.ref 1076), some (zi x1), none, some (zi x3), some (zi x4), some (zi x5), some (zi (S0 1076 12)), some (zi 0)] zd_3_4_205 (by decide) rfl ?_
          refine zz_aload_n (x := 1076) rfl zd_3_4_207 ?_
          refine zz_aload_n (x := 1076) rfl zd_3_4_208 ?_
          have g248 := zz_G.r G_S 1076 12 (-2147483648) 2147483647 rfl rfl
          refine zz_geti (z := S 1076 12) zd_3_4_209 zf_Compiler_73 zT_1076 rfl (zz_ltn hn rfl) (zz_ro qS195 (fun h => absurd h.2 (by decide)) rfl) ?_
          refine zz_iload (x := S0 1076 12) rfl zd_3_4_212 ?_
          refine zz_icmp_ne (by omega) (by omega) zd_3_4_214 (fun c249 => ?_) (fun c249 => ?_)
          · refine zz_iconst zd_3_4_221 ?_
            refine zz_iload (x := 0) rfl zd_3_4_222 ?_
            have g250 := zz_G.r G_S 1076 1 0 1000000 rfl rfl
            have e251 : S195 1076 1 = S 1076 1 := (zz_ro qS195 (fun h => absurd h.2 (by decide)) rfl)
            have g252 := zz_G.r G_S0 1076 3 (-1) 23 rfl rfl
            have e253 : S195 1076 3 = S0 1076 3 := (zz_ro qS195 (fun h => absurd h.2 (by decide)) (zz_rc F_S rfl rfl (fun h => h) rfl))
            have g254 := zz_G.r G_S0 1076 4 (-1) 23 rfl rfl
            have e255 : S195 1076 4 = S0 1076 4 := (zz_ro qS195 (fun h => absurd h.2 (by decide)) (zz_rc F_S rfl rfl (fun h => h) rfl))
            have g256 := zz_G.r G_S0 1076 5 (-1) 23 rfl rfl
            have e257 : S195 1076 5 = S0 1076 5 := (zz_ro qS195 (fun h => absurd h.2 (by decide)) (zz_rc F_S rfl rfl (fun h => h) rfl))
            refine zz_callVV [zi 0, zi 0] zd_3_4_224 zk_Compiler_118 zT_1076 (zz_ltn hn rfl) rfl rfl ⟨Nat.le_of_ble_eq_true rfl, Nat.le_of_ble_eq_true rfl⟩ ⟨rfl, rfl⟩ (Nat.zero_le _) (Nat.zero_le _) (zc_makeGroup_3_5 0 0 S195 n hn G_S195 (by omega) (by omega) (by omega) (by omega)) (fun S258 hP => ?_)
            obtain ⟨G_S258, fS258, o260⟩ := hP
            have F_S258 := zz_fr.trans F_S195 fS258 rfl (fun a i h => Or.inr (Or.inl (h ▸ zM_k4 (z := (S195 1076 0)) (by omega) rfl)))
            have b261 := zz_rf4 (z := (S195 1076 0)) (by omega)
            refine zz_aload_n (x := 1076) rfl zd_3_4_227 ?_
            refine zz_dup rfl zd_3_4_228 ?_
            refine zz_geti (z := S 1076 12) zd_3_4_229 zf_Compiler_73 zT_1076 rfl (zz_ltn hn rfl) (zz_rc fS258 rfl rfl (by omega) (zz_ro qS195 (fun h => absurd h.2 (by decide)) rfl)) ?_
            refine zz_iconst zd_3_4_232 ?_
            refine zz_iadd zd_3_4_233 ?_
            refine zz_nrm (fun v262 hv262 ev262 => ?_)
            refine zz_puti zd_3_4_234 zf_Compiler_73 zT_1076 rfl (zz_ltn hn rfl) (fun S263 qS263 => ?_)
            have G_S263 := zz_G.put G_S258 qS263 (-2147483648) 2147483647 rfl (by omega)
            have F_S263 := zz_fr.puts F_S258 qS263 rfl
            refine zz_aload_n (x := 1076) rfl zd_3_4_237 ?_
            refine zz_dup rfl zd_3_4_238 ?_
            refine zz_geti (z := S 1076 15) zd_3_4_239 zf_Compiler_112 zT_1076 rfl (zz_ltn hn rfl) (zz_ro qS263 (fun h => absurd h.2 (by decide)) (zz_rc fS258 rfl rfl (by omega) (zz_ro qS195 (fun h => absurd h.2 (by decide)) rfl))) ?_
            refine zz_aload_n (x := 1076) rfl zd_3_4_242 ?_
            have g264 := zz_G.r G_S0 1076 2 2 8 rfl rfl
            refine zz_geti (z := S0 1076 2) zd_3_4_243 zf_Compiler_21 zT_1076 rfl (zz_ltn hn rfl) (zz_ro qS263 (fun h => absurd h.2 (by decide)) (zz_rc fS258 rfl rfl (by omega) (zz_ro qS195 (fun h => absurd h.2 (by decide)) (zz_rc F_S rfl rfl (fun h => h) rfl)))) ?_
            refine zz_iadd zd_3_4_246 ?_
            refine zz_puti zd_3_4_247 zf_Compiler_112 zT_1076 rfl (zz_ltn hn rfl) (fun S265 qS265 => ?_)
            have G_S265 := zz_G.put G_S263 qS265 (-2147483648) 2147483647 rfl (by omega)
            have F_S265 := zz_fr.puts F_S263 qS265 rfl
            refine zz_goto zd_3_4_250 ?_
            have e266 : S265 1076 13 = S 1076 13 := (zz_ro qS265 (fun h => absurd h.2 (by decide)) (zz_ro qS263 (fun h => absurd h.2 (by decide)) (zz_rc fS258 rfl rfl (by omega) (zz_ro qS195 (fun h => absurd h.2 (by decide)) rfl))))
            have e267 : S265 1076 14 = S 1076 14 := (zz_ro qS265 (fun h => absurd h.2 (by decide)) (zz_ro qS263 (fun h => absurd h.2 (by decide)) (zz_rc fS258 rfl rfl (by omega) (zz_ro qS195 (fun h => absurd h.2 (by decide)) rfl))))
            have e268 : S265 1076 15 = (S 1076 15) + (S0 1076 2) := (zz_rs qS265)
            have g269 := zz_G.r G_S258 1076 1 0 1000000 rfl rfl
            have e270 : S265 1076 1 = S258 1076 1 := (zz_ro qS265 (fun h => absurd h.2 (by decide)) (zz_ro qS263 (fun h => absurd h.2 (by decide)) rfl))
            refine zz_less (ls1 := [some (.ref 1076), some (zi x1), none, some (zi x3), some (zi x4), some (zi x5), some (zi (S0 1076 12))]) ⟨rfl, ⟨rfl, ⟨rfl, ⟨rfl, ⟨rfl, ⟨rfl, trivial⟩⟩⟩⟩⟩⟩ ?_
            exact k122 x1 x3 x4 x5 S265 G_S265 F_S265 (by omega) (by omega) (by omega) (by omega) (by omega) (by omega) (by omega) (by omega) (by omega) (by omega) (by omega) (by omega) (by omega)
          · refine zz_iconst zd_3_4_217 ?_
            refine zz_goto zd_3_4_218 ?_
            refine zz_iload (x := 0) rfl zd_3_4_222 ?_
            have g271 := zz_G.r G_S 1076 1 0 1000000 rfl rfl
            have e272 : S195 1076 1 = S 1076 1 := (zz_ro qS195 (fun h => absurd h.2 (by decide)) rfl)
            have g273 := zz_G.r G_S0 1076 3 (-1) 23 rfl rfl
            have e274 : S195 1076 3 = S0 1076 3 := (zz_ro qS195 (fun h => absurd h.2 (by decide)) (zz_rc F_S rfl rfl (fun h => h) rfl))
            have g275 := zz_G.r G_S0 1076 4 (-1) 23 rfl rfl
            have e276 : S195 1076 4 = S0 1076 4 := (zz_ro qS195 (fun h => absurd h.2 (by decide)) (zz_rc F_S rfl rfl (fun h => h) rfl))
            have g277 := zz_G.r G_S0 1076 5 (-1) 23 rfl rfl
            have e278 : S195 1076 5 = S0 1076 5 := (zz_ro qS195 (fun h => absurd h.2 (by decide)) (zz_rc F_S rfl rfl (fun h => h) rfl))
            refine zz_callVV [zi 1, zi 0] zd_3_4_224 zk_Compiler_118 zT_1076 (zz_ltn hn rfl) rfl rfl ⟨Nat.le_of_ble_eq_true rfl, Nat.le_of_ble_eq_true rfl⟩ ⟨rfl, rfl⟩ (Nat.zero_le _) (Nat.zero_le _) (zc_makeGroup_3_5 1 0 S195 n hn G_S195 (by omega) (by omega) (by omega) (by omega)) (fun S279 hP => ?_)
            obtain ⟨G_S279, fS279, o281⟩ := hP
            have F_S279 := zz_fr.trans F_S195 fS279 rfl (fun a i h => Or.inr (Or.inl (h ▸ zM_k4 (z := (S195 1076 0)) (by omega) rfl)))
            have b282 := zz_rf4 (z := (S195 1076 0)) (by omega)
            refine zz_aload_n (x := 1076) rfl zd_3_4_227 ?_
            refine zz_dup rfl zd_3_4_228 ?_
            refine zz_geti (z := S 1076 12) zd_3_4_229 zf_Compiler_73 zT_1076 rfl (zz_ltn hn rfl) (zz_rc fS279 rfl rfl (by omega) (zz_ro qS195 (fun h => absurd h.2 (by decide)) rfl)) ?_
            refine zz_iconst zd_3_4_232 ?_
            refine zz_iadd zd_3_4_233 ?_
            refine zz_nrm (fun v283 hv283 ev283 => ?_)
            refine zz_puti zd_3_4_234 zf_Compiler_73 zT_1076 rfl (zz_ltn hn rfl) (fun S284 qS284 => ?_)
            have G_S284 := zz_G.put G_S279 qS284 (-2147483648) 2147483647 rfl (by omega)
            have F_S284 := zz_fr.puts F_S279 qS284 rfl
            refine zz_aload_n (x := 1076) rfl zd_3_4_237 ?_
            refine zz_dup rfl zd_3_4_238 ?_
            refine zz_geti (z := S 1076 15) zd_3_4_239 zf_Compiler_112 zT_1076 rfl (zz_ltn hn rfl) (zz_ro qS284 (fun h => absurd h.2 (by decide)) (zz_rc fS279 rfl rfl (by omega) (zz_ro qS195 (fun h => absurd h.2 (by decide)) rfl))) ?_
            refine zz_aload_n (x := 1076) rfl zd_3_4_242 ?_
            have g285 := zz_G.r G_S0 1076 2 2 8 rfl rfl
            refine zz_geti (z := S0 1076 2) zd_3_4_243 zf_Compiler_21 zT_1076 rfl (zz_ltn hn rfl) (zz_ro qS284 (fun h => absurd h.2 (by decide)) (zz_rc fS279 rfl rfl (by omega) (zz_ro qS195 (fun h => absurd h.2 (by decide)) (zz_rc F_S rfl rfl (fun h => h) rfl)))) ?_
            refine zz_iadd zd_3_4_246 ?_
            refine zz_puti zd_3_4_247 zf_Compiler_112 zT_1076 rfl (zz_ltn hn rfl) (fun S286 qS286 => ?_)
            have G_S286 := zz_G.put G_S284 qS286 (-2147483648) 2147483647 rfl (by omega)
            have F_S286 := zz_fr.puts F_S284 qS286 rfl
            refine zz_goto zd_3_4_250 ?_
            have e287 : S286 1076 13 = S 1076 13 := (zz_ro qS286 (fun h => absurd h.2 (by decide)) (zz_ro qS284 (fun h => absurd h.2 (by decide)) (zz_rc fS279 rfl rfl (by omega) (zz_ro qS195 (fun h => absurd h.2 (by decide)) rfl))))
            have e288 : S286 1076 14 = S 1076 14 := (zz_ro qS286 (fun h => absurd h.2 (by decide)) (zz_ro qS284 (fun h => absurd h.2 (by decide)) (zz_rc fS279 rfl rfl (by omega) (zz_ro qS195 (fun h => absurd h.2 (by decide)) rfl))))
            have e289 : S286 1076 15 = (S 1076 15) + (S0 1076 2) := (zz_rs qS286)
            have g290 := zz_G.r G_S279 1076 1 0 1000000 rfl rfl
            have e291 : S286 1076 1 = S279 1076 1 := (zz_ro qS286 (fun h => absurd h.2 (by decide)) (zz_ro qS284 (fun h => absurd h.2 (by decide)) rfl))
            refine zz_less (ls1 := [some (.ref 1076), some (zi x1), none, some (zi x3), some (zi x4), some (zi x5), some (zi (S0 1076 12))]) ⟨rfl, ⟨rfl, ⟨rfl, ⟨rfl, ⟨rfl, ⟨rfl, trivial⟩⟩⟩⟩⟩⟩ ?_
            exact k122 x1 x3 x4 x5 S286 G_S286 F_S286 (by omega) (by omega) (by omega) (by omega) (by omega) (by omega) (by omega) (by omega) (by omega) (by omega) (by omega) (by omega) (by omega)
        · refine zz_aload_n (x := 1076) rfl zd_3_4_186 ?_
          refine zz_geti (z := S 1076 15) zd_3_4_187 zf_Compiler_112 zT_1076 rfl (zz_ltn hn rfl) (zz_ro qS195 (fun h => absurd h.2 (by decide)) rfl) ?_
          refine zz_aload_n (x := 1076) rfl zd_3_4_190 ?_
          have g292 := zz_G.r G_S0 1076 2 2 8 rfl rfl
          refine zz_geti (z := S0 1076 2) zd_3_4_191 zf_Compiler_21 zT_1076 rfl (zz_ltn hn rfl) (zz_ro qS195 (fun h => absurd h.2 (by decide)) (zz_rc F_S rfl rfl (fun h => h) rfl)) ?_
          refine zz_iadd zd_3_4_194 ?_
          refine zz_iload (x := x5) rfl zd_3_4_195 ?_
          refine zz_icmp_lt (by omega) (by omega) zd_3_4_197 (fun c293 => ?_) (fun c293 => ?_)
          · refine zz_iconst zd_3_4_204 ?_
            refine zz_istore [some (.ref 1076), some (zi x1), none, some (zi x3), some (zi x4), some (zi x5), some (zi (S0 1076 12)), some (zi 0)] zd_3_4_205 (by decide) rfl ?_
            refine zz_aload_n (x := 1076) rfl zd_3_4_207 ?_
            refine zz_aload_n (x := 1076) rfl zd_3_4_208 ?_
            have g294 := zz_G.r G_S 1076 12 (-2147483648) 2147483647 rfl rfl
            refine zz_geti (z := S 1076 12) zd_3_4_209 zf_Compiler_73 zT_1076 rfl (zz_ltn hn rfl) (zz_ro qS195 (fun h => absurd h.2 (by decide)) rfl) ?_
            refine zz_iload (x := S0 1076 12) rfl zd_3_4_212 ?_
            refine zz_icmp_ne (by omega) (by omega) zd_3_4_214 (fun c295 => ?_) (fun c295 => ?_)
            · refine zz_iconst zd_3_4_221 ?_
              refine zz_iload (x := 0) rfl zd_3_4_222 ?_
              have g296 := zz_G.r G_S 1076 1 0 1000000 rfl rfl
              have e297 : S195 1076 1 = S 1076 1 := (zz_ro qS195 (fun h => absurd h.2 (by decide)) rfl)
              have g298 := zz_G.r G_S0 1076 3 (-1) 23 rfl rfl
              have e299 : S195 1076 3 = S0 1076 3 := (zz_ro qS195 (fun h => absurd h.2 (by decide)) (zz_rc F_S rfl rfl (fun h => h) rfl))
              have g300 := zz_G.r G_S0 1076 4 (-1) 23 rfl rfl
              have e301 : S195 1076 4 = S0 1076 4 := (zz_ro qS195 (fun h => absurd h.2 (by decide)) (zz_rc F_S rfl rfl (fun h => h) rfl))
              have g302 := zz_G.r G_S0 1076 5 (-1) 23 rfl rfl
              have e303 : S195 1076 5 = S0 1076 5 := (zz_ro qS195 (fun h => absurd h.2 (by decide)) (zz_rc F_S rfl rfl (fun h => h) rfl))
              refine zz_callVV [zi 0, zi 0] zd_3_4_224 zk_Compiler_118 zT_1076 (zz_ltn hn rfl) rfl rfl ⟨Nat.le_of_ble_eq_true rfl, Nat.le_of_ble_eq_true rfl⟩ ⟨rfl, rfl⟩ (Nat.zero_le _) (Nat.zero_le _) (zc_makeGroup_3_5 0 0 S195 n hn G_S195 (by omega) (by omega) (by omega) (by omega)) (fun S304 hP => ?_)
              obtain ⟨G_S304, fS304, o306⟩ := hP
              have F_S304 := zz_fr.trans F_S195 fS304 rfl (fun a i h => Or.inr (Or.inl (h ▸ zM_k4 (z := (S195 1076 0)) (by omega) rfl)))
              have b307 := zz_rf4 (z := (S195 1076 0)) (by omega)
              refine zz_aload_n (x := 1076) rfl zd_3_4_227 ?_
              refine zz_dup rfl zd_3_4_228 ?_
              refine zz_geti (z := S 1076 12) zd_3_4_229 zf_Compiler_73 zT_1076 rfl (zz_ltn hn rfl) (zz_rc fS304 rfl rfl (by omega) (zz_ro qS195 (fun h => absurd h.2 (by decide)) rfl)) ?_
              refine zz_iconst zd_3_4_232 ?_
              refine zz_iadd zd_3_4_233 ?_
              refine zz_nrm (fun v308 hv308 ev308 => ?_)
              refine zz_puti zd_3_4_234 zf_Compiler_73 zT_1076 rfl (zz_ltn hn rfl) (fun S309 qS309 => ?_)
              have G_S309 := zz_G.put G_S304 qS309 (-2147483648) 2147483647 rfl (by omega)
              have F_S309 := zz_fr.puts F_S304 qS309 rfl
              refine zz_aload_n (x := 1076) rfl zd_3_4_237 ?_
              refine zz_dup rfl zd_3_4_238 ?_
              refine zz_geti (z := S 1076 15) zd_3_4_239 zf_Compiler_112 zT_1076 rfl (zz_ltn hn rfl) (zz_ro qS309 (fun h => absurd h.2 (by decide)) (zz_rc fS304 rfl rfl (by omega) (zz_ro qS195 (fun h => absurd h.2 (by decide)) rfl))) ?_
              refine zz_aload_n (x := 1076) rfl zd_3_4_242 ?_
              refine zz_geti (z := S0 1076 2) zd_3_4_243 zf_Compiler_21 zT_1076 rfl (zz_ltn hn rfl) (zz_ro qS309 (fun h => absurd h.2 (by decide)) (zz_rc fS304 rfl rfl (by omega) (zz_ro qS195 (fun h => absurd h.2 (by decide)) (zz_rc F_S rfl rfl (fun h => h) rfl)))) ?_
              refine zz_iadd zd_3_4_246 ?_
              refine zz_puti zd_3_4_247 zf_Compiler_112 zT_1076 rfl (zz_ltn hn rfl) (fun S310 qS310 => ?_)
              have G_S310 := zz_G.put G_S309 qS310 (-2147483648) 2147483647 rfl (by omega)
              have F_S310 := zz_fr.puts F_S309 qS310 rfl
              refine zz_goto zd_3_4_250 ?_
              have e311 : S310 1076 13 = S 1076 13 := (zz_ro qS310 (fun h => absurd h.2 (by decide)) (zz_ro qS309 (fun h => absurd h.2 (by decide)) (zz_rc fS304 rfl rfl (by omega) (zz_ro qS195 (fun h => absurd h.2 (by decide)) rfl))))
              have e312 : S310 1076 14 = S 1076 14 := (zz_ro qS310 (fun h => absurd h.2 (by decide)) (zz_ro qS309 (fun h => absurd h.2 (by decide)) (zz_rc fS304 rfl rfl (by omega) (zz_ro qS195 (fun h => absurd h.2 (by decide)) rfl))))
              have e313 : S310 1076 15 = (S 1076 15) + (S0 1076 2) := (zz_rs qS310)
              have g314 := zz_G.r G_S304 1076 1 0 1000000 rfl rfl
              have e315 : S310 1076 1 = S304 1076 1 := (zz_ro qS310 (fun h => absurd h.2 (by decide)) (zz_ro qS309 (fun h => absurd h.2 (by decide)) rfl))
              refine zz_less (ls1 := [some (.ref 1076), some (zi x1), none, some (zi x3), some (zi x4), some (zi x5), some (zi (S0 1076 12))]) ⟨rfl, ⟨rfl, ⟨rfl, ⟨rfl, ⟨rfl, ⟨rfl, trivial⟩⟩⟩⟩⟩⟩ ?_
              exact k122 x1 x3 x4 x5 S310 G_S310 F_S310 (by omega) (by omega) (by omega) (by omega) (by omega) (by omega) (by omega) (by omega) (by omega) (by omega) (by omega) (by omega) (by omega)
            · refine zz_iconst zd_3_4_217 ?_
              refine zz_goto zd_3_4_218 ?_
              refine zz_iload (x := 0) rfl zd_3_4_222 ?_
              have g316 := zz_G.r G_S 1076 1 0 1000000 rfl rfl
              have e317 : S195 1076 1 = S 1076 1 := (zz_ro qS195 (fun h => absurd h.2 (by decide)) rfl)
              have g318 := zz_G.r G_S0 1076 3 (-1) 23 rfl rfl
              have e319 : S195 1076 3 = S0 1076 3 := (zz_ro qS195 (fun h => absurd h.2 (by decide)) (zz_rc F_S rfl rfl (fun h => h) rfl))
              have g320 := zz_G.r G_S0 1076 4 (-1) 23 rfl rfl
              have e321 : S195 1076 4 = S0 1076 4 := (zz_ro qS195 (fun h => absurd h.2 (by decide)) (zz_rc F_S rfl rfl (fun h => h) rfl))
              have g322 := zz_G.r G_S0 1076 5 (-1) 23 rfl rfl
              have e323 : S195 1076 5 = S0 1076 5 := (zz_ro qS195 (fun h => absurd h.2 (by decide)) (zz_rc F_S rfl rfl (fun h => h) rfl))
              refine zz_callVV [zi 1, zi 0] zd_3_4_224 zk_Compiler_118 zT_1076 (zz_ltn hn rfl) rfl rfl ⟨Nat.le_of_ble_eq_true rfl, Nat.le_of_ble_eq_true rfl⟩ ⟨rfl, rfl⟩ (Nat.zero_le _) (Nat.zero_le _) (zc_makeGroup_3_5 1 0 S195 n hn G_S195 (by omega) (by omega) (by omega) (by omega)) (fun S324 hP => ?_)
              obtain ⟨G_S324, fS324, o326⟩ := hP
              have F_S324 := zz_fr.trans F_S195 fS324 rfl (fun a i h => Or.inr (Or.inl (h ▸ zM_k4 (z := (S195 1076 0)) (by omega) rfl)))
              have b327 := zz_rf4 (z := (S195 1076 0)) (by omega)
              refine zz_aload_n (x := 1076) rfl zd_3_4_227 ?_
              refine zz_dup rfl zd_3_4_228 ?_
              refine zz_geti (z := S 1076 12) zd_3_4_229 zf_Compiler_73 zT_1076 rfl (zz_ltn hn rfl) (zz_rc fS324 rfl rfl (by omega) (zz_ro qS195 (fun h => absurd h.2 (by decide)) rfl)) ?_
              refine zz_iconst zd_3_4_232 ?_
              refine zz_iadd zd_3_4_233 ?_
              refine zz_nrm (fun v328 hv328 ev328 => ?_)
              refine zz_puti zd_3_4_234 zf_Compiler_73 zT_1076 rfl (zz_ltn hn rfl) (fun S329 qS329 => ?_)
              have G_S329 := zz_G.put G_S324 qS329 (-2147483648) 2147483647 rfl (by omega)
              have F_S329 := zz_fr.puts F_S324 qS329 rfl
              refine zz_aload_n (x := 1076) rfl zd_3_4_237 ?_
              refine zz_dup rfl zd_3_4_238 ?_
              refine zz_geti (z := S 1076 15) zd_3_4_239 zf_Compiler_112 zT_1076 rfl (zz_ltn hn rfl) (zz_ro qS329 (fun h => absurd h.2 (by decide)) (zz_rc fS324 rfl rfl (by omega) (zz_ro qS195 (fun h => absurd h.2 (by decide)) rfl))) ?_
              refine zz_aload_n (x := 1076) rfl zd_3_4_242 ?_
              refine zz_geti (z := S0 1076 2) zd_3_4_243 zf_Compiler_21 zT_1076 rfl (zz_ltn hn rfl) (zz_ro qS329 (fun h => absurd h.2 (by decide)) (zz_rc fS324 rfl rfl (by omega) (zz_ro qS195 (fun h => absurd h.2 (by decide)) (zz_rc F_S rfl rfl (fun h => h) rfl)))) ?_
              refine zz_iadd zd_3_4_246 ?_
              refine zz_puti zd_3_4_247 zf_Compiler_112 zT_1076 rfl (zz_ltn hn rfl) (fun S330 qS330 => ?_)
              have G_S330 := zz_G.put G_S329 qS330 (-2147483648) 2147483647 rfl (by omega)
              have F_S330 := zz_fr.puts F_S329 qS330 rfl
              refine zz_goto zd_3_4_250 ?_
              have e331 : S330 1076 13 = S 1076 13 := (zz_ro qS330 (fun h => absurd h.2 (by decide)) (zz_ro qS329 (fun h => absurd h.2 (by decide)) (zz_rc fS324 rfl rfl (by omega) (zz_ro qS195 (fun h => absurd h.2 (by decide)) rfl))))
              have e332 : S330 1076 14 = S 1076 14 := (zz_ro qS330 (fun h => absurd h.2 (by decide)) (zz_ro qS329 (fun h => absurd h.2 (by decide)) (zz_rc fS324 rfl rfl (by omega) (zz_ro qS195 (fun h => absurd h.2 (by decide)) rfl))))
              have e333 : S330 1076 15 = (S 1076 15) + (S0 1076 2) := (zz_rs qS330)
              have g334 := zz_G.r G_S324 1076 1 0 1000000 rfl rfl
              have e335 : S330 1076 1 = S324 1076 1 := (zz_ro qS330 (fun h => absurd h.2 (by decide)) (zz_ro qS329 (fun h => absurd h.2 (by decide)) rfl))
              refine zz_less (ls1 := [some (.ref 1076), some (zi x1), none, some (zi x3), some (zi x4), some (zi x5), some (zi (S0 1076 12))]) ⟨rfl, ⟨rfl, ⟨rfl, ⟨rfl, ⟨rfl, ⟨rfl, trivial⟩⟩⟩⟩⟩⟩ ?_
              exact k122 x1 x3 x4 x5 S330 G_S330 F_S330 (by omega) (by omega) (by omega) (by omega) (by omega) (by omega) (by omega) (by omega) (by omega) (by omega) (by omega) (by omega) (by omega)
          · refine zz_iconst zd_3_4_200 ?_
            refine zz_goto zd_3_4_201 ?_
            refine zz_istore [some (.ref 1076), some (zi x1), none, some (zi x3), some (zi x4), some (zi x5), some (zi (S0 1076 12)), some (zi 1)] zd_3_4_205 (by decide) rfl ?_
            refine zz_aload_n (x := 1076) rfl zd_3_4_207 ?_
            refine zz_aload_n (x := 1076) rfl zd_3_4_208 ?_
            have g336 := zz_G.r G_S 1076 12 (-2147483648) 2147483647 rfl rfl
            refine zz_geti (z := S 1076 12) zd_3_4_209 zf_Compiler_73 zT_1076 rfl (zz_ltn hn rfl) (zz_ro qS195 (fun h => absurd h.2 (by decide)) rfl) ?_
            refine zz_iload (x := S0 1076 12) rfl zd_3_4_212 ?_
            refine zz_icmp_ne (by omega) (by omega) zd_3_4_214 (fun c337 => ?_) (fun c337 => ?_)
            · refine zz_iconst zd_3_4_221 ?_
              refine zz_iload (x := 1) rfl zd_3_4_222 ?_
              have g338 := zz_G.r G_S 1076 1 0 1000000 rfl rfl
              have e339 : S195 1076 1 = S 1076 1 := (zz_ro qS195 (fun h => absurd h.2 (by decide)) rfl)
              have g340 := zz_G.r G_S0 1076 3 (-1) 23 rfl rfl
              have e341 : S195 1076 3 = S0 1076 3 := (zz_ro qS195 (fun h => absurd h.2 (by decide)) (zz_rc F_S rfl rfl (fun h => h) rfl))
              have g342 := zz_G.r G_S0 1076 4 (-1) 23 rfl rfl
              have e343 : S195 1076 4 = S0 1076 4 := (zz_ro qS195 (fun h => absurd h.2 (by decide)) (zz_rc F_S rfl rfl (fun h => h) rfl))
              have g344 := zz_G.r G_S0 1076 5 (-1) 23 rfl rfl
              have e345 : S195 1076 5 = S0 1076 5 := (zz_ro qS195 (fun h => absurd h.2 (by decide)) (zz_rc F_S rfl rfl (fun h => h) rfl))
              refine zz_callVV [zi 0, zi 1] zd_3_4_224 zk_Compiler_118 zT_1076 (zz_ltn hn rfl) rfl rfl ⟨Nat.le_of_ble_eq_true rfl, Nat.le_of_ble_eq_true rfl⟩ ⟨rfl, rfl⟩ (Nat.zero_le _) (Nat.zero_le _) (zc_makeGroup_3_5 0 1 S195 n hn G_S195 (by omega) (by omega) (by omega) (by omega)) (fun S346 hP => ?_)
              obtain ⟨G_S346, fS346, o348⟩ := hP
              have F_S346 := zz_fr.trans F_S195 fS346 rfl (fun a i h => Or.inr (Or.inl (h ▸ zM_k4 (z := (S195 1076 0)) (by omega) rfl)))
              have b349 := zz_rf4 (z := (S195 1076 0)) (by omega)
              refine zz_aload_n (x := 1076) rfl zd_3_4_227 ?_
              refine zz_dup rfl zd_3_4_228 ?_
              refine zz_geti (z := S 1076 12) zd_3_4_229 zf_Compiler_73 zT_1076 rfl (zz_ltn hn rfl) (zz_rc fS346 rfl rfl (by omega) (zz_ro qS195 (fun h => absurd h.2 (by decide)) rfl)) ?_
              refine zz_iconst zd_3_4_232 ?_
              refine zz_iadd zd_3_4_233 ?_
              refine zz_nrm (fun v350 hv350 ev350 => ?_)
              refine zz_puti zd_3_4_234 zf_Compiler_73 zT_1076 rfl (zz_ltn hn rfl) (fun S351 qS351 => ?_)
              have G_S351 := zz_G.put G_S346 qS351 (-2147483648) 2147483647 rfl (by omega)
              have F_S351 := zz_fr.puts F_S346 qS351 rfl
              refine zz_aload_n (x := 1076) rfl zd_3_4_237 ?_
              refine zz_dup rfl zd_3_4_238 ?_
              refine zz_geti (z := S 1076 15) zd_3_4_239 zf_Compiler_112 zT_1076 rfl (zz_ltn hn rfl) (zz_ro qS351 (fun h => absurd h.2 (by decide)) (zz_rc fS346 rfl rfl (by omega) (zz_ro qS195 (fun h => absurd h.2 (by decide)) rfl))) ?_
              refine zz_aload_n (x := 1076) rfl zd_3_4_242 ?_
              refine zz_geti (z := S0 1076 2) zd_3_4_243 zf_Compiler_21 zT_1076 rfl (zz_ltn hn rfl) (zz_ro qS351 (fun h => absurd h.2 (by decide)) (zz_rc fS346 rfl rfl (by omega) (zz_ro qS195 (fun h => absurd h.2 (by decide)) (zz_rc F_S rfl rfl (fun h => h) rfl)))) ?_
              refine zz_iadd zd_3_4_246 ?_
              refine zz_puti zd_3_4_247 zf_Compiler_112 zT_1076 rfl (zz_ltn hn rfl) (fun S352 qS352 => ?_)
              have G_S352 := zz_G.put G_S351 qS352 (-2147483648) 2147483647 rfl (by omega)
              have F_S352 := zz_fr.puts F_S351 qS352 rfl
              refine zz_goto zd_3_4_250 ?_
              have e353 : S352 1076 13 = S 1076 13 := (zz_ro qS352 (fun h => absurd h.2 (by decide)) (zz_ro qS351 (fun h => absurd h.2 (by decide)) (zz_rc fS346 rfl rfl (by omega) (zz_ro qS195 (fun h => absurd h.2 (by decide)) rfl))))
              have e354 : S352 1076 14 = S 1076 14 := (zz_ro qS352 (fun h => absurd h.2 (by decide)) (zz_ro qS351 (fun h => absurd h.2 (by decide)) (zz_rc fS346 rfl rfl (by omega) (zz_ro qS195 (fun h => absurd h.2 (by decide)) rfl))))
              have e355 : S352 1076 15 = (S 1076 15) + (S0 1076 2) := (zz_rs qS352)
              have g356 := zz_G.r G_S346 1076 1 0 1000000 rfl rfl
              have e357 : S352 1076 1 = S346 1076 1 := (zz_ro qS352 (fun h => absurd h.2 (by decide)) (zz_ro qS351 (fun h => absurd h.2 (by decide)) rfl))
              refine zz_less (ls1 := [some (.ref 1076), some (zi x1), none, some (zi x3), some (zi x4), some (zi x5), some (zi (S0 1076 12))]) ⟨rfl, ⟨rfl, ⟨rfl, ⟨rfl, ⟨rfl, ⟨rfl, trivial⟩⟩⟩⟩⟩⟩ ?_
              exact k122 x1 x3 x4 x5 S352 G_S352 F_S352 (by omega) (by omega) (by omega) (by omega) (by omega) (by omega) (by omega) (by omega) (by omega) (by omega) (by omega) (by omega) (by omega)
            · refine zz_iconst zd_3_4_217 ?_
              refine zz_goto zd_3_4_218 ?_
              refine zz_iload (x := 1) rfl zd_3_4_222 ?_
              have g358 := zz_G.r G_S 1076 1 0 1000000 rfl rfl
              have e359 : S195 1076 1 = S 1076 1 := (zz_ro qS195 (fun h => absurd h.2 (by decide)) rfl)
              have g360 := zz_G.r G_S0 1076 3 (-1) 23 rfl rfl
              have e361 : S195 1076 3 = S0 1076 3 := (zz_ro qS195 (fun h => absurd h.2 (by decide)) (zz_rc F_S rfl rfl (fun h => h) rfl))
              have g362 := zz_G.r G_S0 1076 4 (-1) 23 rfl rfl
              have e363 : S195 1076 4 = S0 1076 4 := (zz_ro qS195 (fun h => absurd h.2 (by decide)) (zz_rc F_S rfl rfl (fun h => h) rfl))
              have g364 := zz_G.r G_S0 1076 5 (-1) 23 rfl rfl
              have e365 : S195 1076 5 = S0 1076 5 := (zz_ro qS195 (fun h => absurd h.2 (by decide)) (zz_rc F_S rfl rfl (fun h => h) rfl))
              refine zz_callVV [zi 1, zi 1] zd_3_4_224 zk_Compiler_118 zT_1076 (zz_ltn hn rfl) rfl rfl ⟨Nat.le_of_ble_eq_true rfl, Nat.le_of_ble_eq_true rfl⟩ ⟨rfl, rfl⟩ (Nat.zero_le _) (Nat.zero_le _) (zc_makeGroup_3_5 1 1 S195 n hn G_S195 (by omega) (by omega) (by omega) (by omega)) (fun S366 hP => ?_)
              obtain ⟨G_S366, fS366, o368⟩ := hP
              have F_S366 := zz_fr.trans F_S195 fS366 rfl (fun a i h => Or.inr (Or.inl (h ▸ zM_k4 (z := (S195 1076 0)) (by omega) rfl)))
              have b369 := zz_rf4 (z := (S195 1076 0)) (by omega)
              refine zz_aload_n (x := 1076) rfl zd_3_4_227 ?_
              refine zz_dup rfl zd_3_4_228 ?_
              refine zz_geti (z := S 1076 12) zd_3_4_229 zf_Compiler_73 zT_1076 rfl (zz_ltn hn rfl) (zz_rc fS366 rfl rfl (by omega) (zz_ro qS195 (fun h => absurd h.2 (by decide)) rfl)) ?_
              refine zz_iconst zd_3_4_232 ?_
              refine zz_iadd zd_3_4_233 ?_
              refine zz_nrm (fun v370 hv370 ev370 => ?_)
              refine zz_puti zd_3_4_234 zf_Compiler_73 zT_1076 rfl (zz_ltn hn rfl) (fun S371 qS371 => ?_)
              have G_S371 := zz_G.put G_S366 qS371 (-2147483648) 2147483647 rfl (by omega)
              have F_S371 := zz_fr.puts F_S366 qS371 rfl
              refine zz_aload_n (x := 1076) rfl zd_3_4_237 ?_
              refine zz_dup rfl zd_3_4_238 ?_
              refine zz_geti (z := S 1076 15) zd_3_4_239 zf_Compiler_112 zT_1076 rfl (zz_ltn hn rfl) (zz_ro qS371 (fun h => absurd h.2 (by decide)) (zz_rc fS366 rfl rfl (by omega) (zz_ro qS195 (fun h => absurd h.2 (by decide)) rfl))) ?_
              refine zz_aload_n (x := 1076) rfl zd_3_4_242 ?_
              refine zz_geti (z := S0 1076 2) zd_3_4_243 zf_Compiler_21 zT_1076 rfl (zz_ltn hn rfl) (zz_ro qS371 (fun h => absurd h.2 (by decide)) (zz_rc fS366 rfl rfl (by omega) (zz_ro qS195 (fun h => absurd h.2 (by decide)) (zz_rc F_S rfl rfl (fun h => h) rfl)))) ?_
              refine zz_iadd zd_3_4_246 ?_
              refine zz_puti zd_3_4_247 zf_Compiler_112 zT_1076 rfl (zz_ltn hn rfl) (fun S372 qS372 => ?_)
              have G_S372 := zz_G.put G_S371 qS372 (-2147483648) 2147483647 rfl (by omega)
              have F_S372 := zz_fr.puts F_S371 qS372 rfl
              refine zz_goto zd_3_4_250 ?_
              have e373 : S372 1076 13 = S 1076 13 := (zz_ro qS372 (fun h => absurd h.2 (by decide)) (zz_ro qS371 (fun h => absurd h.2 (by decide)) (zz_rc fS366 rfl rfl (by omega) (zz_ro qS195 (fun h => absurd h.2 (by decide)) rfl))))
              have e374 : S372 1076 14 = S 1076 14 := (zz_ro qS372 (fun h => absurd h.2 (by decide)) (zz_ro qS371 (fun h => absurd h.2 (by decide)) (zz_rc fS366 rfl rfl (by omega) (zz_ro qS195 (fun h => absurd h.2 (by decide)) rfl))))
              have e375 : S372 1076 15 = (S 1076 15) + (S0 1076 2) := (zz_rs qS372)
              have g376 := zz_G.r G_S366 1076 1 0 1000000 rfl rfl
              have e377 : S372 1076 1 = S366 1076 1 := (zz_ro qS372 (fun h => absurd h.2 (by decide)) (zz_ro qS371 (fun h => absurd h.2 (by decide)) rfl))
              refine zz_less (ls1 := [some (.ref 1076), some (zi x1), none, some (zi x3), some (zi x4), some (zi x5), some (zi (S0 1076 12))]) ⟨rfl, ⟨rfl, ⟨rfl, ⟨rfl, ⟨rfl, ⟨rfl, trivial⟩⟩⟩⟩⟩⟩ ?_
              exact k122 x1 x3 x4 x5 S372 G_S372 F_S372 (by omega) (by omega) (by omega) (by omega) (by omega) (by omega) (by omega) (by omega) (by omega) (by omega) (by omega) (by omega) (by omega)
    · exfalso; omega
theorem zi_makeTile_3_4 {g : mm_G} {l : Launch}  (S0 : zz_S) (n : Nat) (hn : zz_end ≤ n) (G_S0 : zz_G S0) (hq : S0 1076 1 ≤ 600) (hl : 0 ≤ S0 1076 3 ∧ 0 ≤ S0 1076 4 ∧ 0 ≤ S0 1076 5) (hk : zz_ly S0 (S0 1076 3) ∧ S0 (zz_rf 6 (S0 1076 4)) 12 ≤ 63) : ∀ N : Nat, (∀ (x1 : Int) (x3 : Int) (x4 : Int) (x5 : Int) (S : zz_S), zz_G S → zz_fr [(1076, 1), (1076, 6), (1076, 12), (1076, 13), (1076, 14), (1076, 15), (1076, 16)] [1029, 1030] (fun _ _ => False) S0 S → (0 ≤ x1 ∧ x1 ≤ 0) → ((-2147483648) ≤ x3 ∧ x3 ≤ 3) → ((-2147483648) ≤ x4 ∧ x4 ≤ 3) → ((-2147483648) ≤ x5 ∧ x5 ≤ 63) → (0 ≤ S 1076 13 ∧ S 1076 13 ≤ 3) → (S0 1076 1 ≤ S 1076 1 ∧ S 1076 1 ≤ S0 1076 1 + 840 * S 1076 13) → (51539607552 + (3 - S 1076 13).toNat) * 1208925819614629174706176 + 1208925819614629174706175 < N → zz_E g l zy_makeTile_3_4 zr_makeTile_3_4 (zz_QV n (zp_makeTile_3_4  S0)) S n 95 [some (.ref 1076), some (zi x1), none, some (zi x3), some (zi x4), some (zi x5), some (zi (S0 1076 12))] [] 0 0) ∧ (∀ (x1 : Int) (x3 : Int) (x4 : Int) (x5 : Int) (S : zz_S), zz_G S → zz_fr [(1076, 1), (1076, 6), (1076, 12), (1076, 13), (1076, 14), (1076, 15), (1076, 16)] [1029, 1030] (fun _ _ => False) S0 S → (0 ≤ x1 ∧ x1 ≤ 0) → ((-2147483648) ≤ x3 ∧ x3 ≤ 3) → ((-2147483648) ≤ x4 ∧ x4 ≤ 3) → ((-2147483648) ≤ x5 ∧ x5 ≤ 63) → (S0 (zz_rf 6 (S0 1076 3)) 0 ≠ 1) → (S0 (zz_rf 6 (S0 1076 3)) 0 ≠ 3) → (0 ≤ S 1076 13 ∧ S 1076 13 ≤ 2) → (0 ≤ S 1076 14 ∧ S 1076 14 ≤ 3) → (S 1076 13 < x3) → (S0 1076 1 ≤ S 1076 1 ∧ S 1076 1 ≤ S0 1076 1 + 840 * S 1076 13 + 280 * S 1076 14) → (51539607552 + (3 - S 1076 13).toNat) * 1208925819614629174706176 + (34359738368 + (3 - S 1076 14).toNat) * 1099511627776 + 1099511627775 < N → zz_E g l zy_makeTile_3_4 zr_makeTile_3_4 (zz_QV n (zp_makeTile_3_4  S0)) S n 108 [some (.ref 1076), some (zi x1), none, some (zi x3), some (zi x4), some (zi x5), some (zi (S0 1076 12))] [] 0 0) ∧ (∀ (x1 : Int) (x3 : Int) (x4 : Int) (x5 : Int) (S : zz_S), zz_G S → zz_fr [(1076, 1), (1076, 6), (1076, 12), (1076, 13), (1076, 14), (1076, 15), (1076, 16)] [1029, 1030] (fun _ _ => False) S0 S → (0 ≤ x1 ∧ x1 ≤ 0) → ((-2147483648) ≤ x3 ∧ x3 ≤ 3) → ((-2147483648) ≤ x4 ∧ x4 ≤ 3) → ((-2147483648) ≤ x5 ∧ x5 ≤ 63) → (S0 (zz_rf 6 (S0 1076 3)) 0 ≠ 1) → (S0 (zz_rf 6 (S0 1076 3)) 0 ≠ 3) → (0 ≤ S 1076 13 ∧ S 1076 13 ≤ 2) → (0 ≤ S 1076 14 ∧ S 1076 14 ≤ 2) → (S 1076 13 < x3) → (S 1076 14 < x4) → (0 ≤ S 1076 15 ∧ S 1076 15 ≤ 70) → (S0 1076 1 ≤ S 1076 1 ∧ S 1076 1 ≤ S0 1076 1 + 840 * S 1076 13 + 280 * S 1076 14 + 4 * S 1076 15) → (51539607552 + (3 - S 1076 13).toNat) * 1208925819614629174706176 + (34359738368 + (3 - S 1076 14).toNat) * 1099511627776 + (17179869184 + (80 - S 1076 15).toNat) < N → zz_E g l zy_makeTile_3_4 zr_makeTile_3_4 (zz_QV n (zp_makeTile_3_4  S0)) S n 122 [some (.ref 1076), some (zi x1), none, some (zi x3), some (zi x4), some (zi x5), some (zi (S0 1076 12))] [] 0 0) := by
  intro N
  induction N with
  | zero => exact ⟨fun x1 x3 x4 x5 S _ _ _ _ _ _ _ _ h => absurd h (Nat.not_lt_zero _), fun x1 x3 x4 x5 S _ _ _ _ _ _ _ _ _ _ _ _ h => absurd h (Nat.not_lt_zero _), fun x1 x3 x4 x5 S _ _ _ _ _ _ _ _ _ _ _ _ _ _ h => absurd h (Nat.not_lt_zero _)⟩
  | succ N ih =>
    exact ⟨fun x1 x3 x4 x5 S a b j0 j1 j2 j3 j4 j5 hR => zb_makeTile_3_4_95  S0 n hn G_S0 hq hl hk x1 x3 x4 x5 S a b j0 j1 j2 j3 j4 j5 _ rfl (fun x1 x3 x4 x5 S a b j0 j1 j2 j3 j4 j5 j6 j7 j8 j9 h => ih.2.1 x1 x3 x4 x5 S a b j0 j1 j2 j3 j4 j5 j6 j7 j8 j9 (Nat.lt_of_lt_of_le h (Nat.le_of_lt_succ hR))),
      fun x1 x3 x4 x5 S a b j0 j1 j2 j3 j4 j5 j6 j7 j8 j9 hR => zb_makeTile_3_4_108  S0 n hn G_S0 hq hl hk x1 x3 x4 x5 S a b j0 j1 j2 j3 j4 j5 j6 j7 j8 j9 _ rfl (fun x1 x3 x4 x5 S a b j0 j1 j2 j3 j4 j5 h => ih.1 x1 x3 x4 x5 S a b j0 j1 j2 j3 j4 j5 (Nat.lt_of_lt_of_le h (Nat.le_of_lt_succ hR))) (fun x1 x3 x4 x5 S a b j0 j1 j2 j3 j4 j5 j6 j7 j8 j9 j10 j11 h => ih.2.2 x1 x3 x4 x5 S a b j0 j1 j2 j3 j4 j5 j6 j7 j8 j9 j10 j11 (Nat.lt_of_lt_of_le h (Nat.le_of_lt_succ hR))),
      fun x1 x3 x4 x5 S a b j0 j1 j2 j3 j4 j5 j6 j7 j8 j9 j10 j11 hR => zb_makeTile_3_4_122  S0 n hn G_S0 hq hl hk x1 x3 x4 x5 S a b j0 j1 j2 j3 j4 j5 j6 j7 j8 j9 j10 j11 _ rfl (fun x1 x3 x4 x5 S a b j0 j1 j2 j3 j4 j5 j6 j7 j8 j9 h => ih.2.1 x1 x3 x4 x5 S a b j0 j1 j2 j3 j4 j5 j6 j7 j8 j9 (Nat.lt_of_lt_of_le h (Nat.le_of_lt_succ hR))) (fun x1 x3 x4 x5 S a b j0 j1 j2 j3 j4 j5 j6 j7 j8 j9 j10 j11 h => ih.2.2 x1 x3 x4 x5 S a b j0 j1 j2 j3 j4 j5 j6 j7 j8 j9 j10 j11 (Nat.lt_of_lt_of_le h (Nat.le_of_lt_succ hR)))⟩
theorem zc_makeTile_3_4 {g : mm_G} {l : Launch}  (S0 : zz_S) (n : Nat) (hn : zz_end ≤ n) (G_S0 : zz_G S0) (hq : S0 1076 1 ≤ 600) (hl : 0 ≤ S0 1076 3 ∧ 0 ≤ S0 1076 4 ∧ 0 ≤ S0 1076 5) (hk : zz_ly S0 (S0 1076 3) ∧ S0 (zz_rf 6 (S0 1076 4)) 12 ≤ 63) : mm_Met g l zy_makeTile_3_4 zr_makeTile_3_4 [.ref 1076] (zz_M S0 n) n (zz_QV n (zp_makeTile_3_4  S0)) := by
  refine zz_enter (by decide) (Nat.le_of_ble_eq_true rfl) (zz_less (ls1 := [some (.ref 1076)]) ⟨rfl, trivial⟩ ?_)
  have F_S0 : zz_fr [(1076, 1), (1076, 6), (1076, 12), (1076, 13), (1076, 14), (1076, 15), (1076, 16)] [1029, 1030] (fun _ _ => False) S0 S0 := zz_fr.refl
  have k95 : ∀ (x1 : Int) (x3 : Int) (x4 : Int) (x5 : Int) (S : zz_S), zz_G S → zz_fr [(1076, 1), (1076, 6), (1076, 12), (1076, 13), (1076, 14), (1076, 15), (1076, 16)] [1029, 1030] (fun _ _ => False) S0 S → (0 ≤ x1 ∧ x1 ≤ 0) → ((-2147483648) ≤ x3 ∧ x3 ≤ 3) → ((-2147483648) ≤ x4 ∧ x4 ≤ 3) → ((-2147483648) ≤ x5 ∧ x5 ≤ 63) → (0 ≤ S 1076 13 ∧ S 1076 13 ≤ 3) → (S0 1076 1 ≤ S 1076 1 ∧ S 1076 1 ≤ S0 1076 1 + 840 * S 1076 13) → zz_E g l zy_makeTile_3_4 zr_makeTile_3_4 (zz_QV n (zp_makeTile_3_4  S0)) S n 95 [some (.ref 1076), some (zi x1), none, some (zi x3), some (zi x4), some (zi x5), some (zi (S0 1076 12))] [] 0 0 := fun x1 x3 x4 x5 S a b j0 j1 j2 j3 j4 j5 => (zi_makeTile_3_4 (g := g) (l := l)  S0 n hn G_S0 hq hl hk _).1 x1 x3 x4 x5 S a b j0 j1 j2 j3 j4 j5 (Nat.lt_succ_self _)
  have hk1 := hk.1
  unfold zz_ly at hk1
  refine zz_aload_n (x := 1076) rfl zd_3_4_0 ?_
  have g1 := zz_G.r G_S0 1076 3 (-1) 23 rfl rfl
  refine zz_getr (kd := 4) (z := S0 1076 3) zd_3_4_1 zf_Compiler_51 zT_1076 rfl (zz_ltn hn rfl) rfl (by omega) (zz_rf 6 (S0 1076 3)) rfl ?_
  have g2 := zz_G.r G_S0 (zz_rf 6 (S0 1076 3)) 0 (-2147483648) 2147483647 (zR_k6_0 (by omega)) (zB_k6 (by omega))
  refine zz_geti (z := S0 (zz_rf 6 (S0 1076 3)) 0) zd_3_4_4 zf_Compiler_61 (zT_k6 (by omega)) rfl (zN_k6 hn (by omega)) rfl ?_
  refine zz_iconst zd_3_4_7 ?_
  refine zz_icmp_ne (by omega) (by omega) zd_3_4_8 (fun c3 => ?_) (fun c3 => ?_)
  · refine zz_iconst zd_3_4_15 ?_
    refine zz_istore_n [some (.ref 1076), some (zi 0)] zd_3_4_16 (by decide) rfl ?_
    refine zz_aload_n (x := 1076) rfl zd_3_4_17 ?_
    refine zz_getr (kd := 4) (z := S0 1076 3) zd_3_4_18 zf_Compiler_51 zT_1076 rfl (zz_ltn hn rfl) rfl (by omega) (zz_rf 6 (S0 1076 3)) rfl ?_
    refine zz_geti (z := S0 (zz_rf 6 (S0 1076 3)) 0) zd_3_4_21 zf_Compiler_61 (zT_k6 (by omega)) rfl (zN_k6 hn (by omega)) rfl ?_
    refine zz_iconst zd_3_4_24 ?_
    refine zz_icmp_ne (by omega) (by omega) zd_3_4_25 (fun c4 => ?_) (fun c4 => ?_)
    · refine zz_iconst zd_3_4_32 ?_
      refine zz_istore_n [some (.ref 1076), some (zi 0), some (zi 0)] zd_3_4_33 (by decide) rfl ?_
      refine zz_iload_n (x := 0) rfl zd_3_4_34 ?_
      refine zz_if_eq (by omega) zd_3_4_35 (fun c5 => ?_) (fun c5 => ?_)
      · refine zz_aload_n (x := 1076) rfl zd_3_4_42 ?_
        refine zz_getr (kd := 4) (z := S0 1076 3) zd_3_4_43 zf_Compiler_51 zT_1076 rfl (zz_ltn hn rfl) rfl (by omega) (zz_rf 6 (S0 1076 3)) rfl ?_
        have g6 := zz_G.r G_S0 (zz_rf 6 (S0 1076 3)) 3 (-2147483648) 2147483647 (zR_k6_3 (by omega)) (zB_k6 (by omega))
        refine zz_geti (z := S0 (zz_rf 6 (S0 1076 3)) 3) zd_3_4_46 zf_Compiler_100 (zT_k6 (by omega)) rfl (zN_k6 hn (by omega)) rfl ?_
        refine zz_istore_n [some (.ref 1076), some (zi 0), some (zi 0), some (zi (S0 (zz_rf 6 (S0 1076 3)) 3))] zd_3_4_49 (by decide) rfl ?_
        refine zz_iload_n (x := 0) rfl zd_3_4_50 ?_
        refine zz_if_eq (by omega) zd_3_4_51 (fun c7 => ?_) (fun c7 => ?_)
        · refine zz_aload_n (x := 1076) rfl zd_3_4_58 ?_
          refine zz_getr (kd := 4) (z := S0 1076 3) zd_3_4_59 zf_Compiler_51 zT_1076 rfl (zz_ltn hn rfl) rfl (by omega) (zz_rf 6 (S0 1076 3)) rfl ?_
          have g8 := zz_G.r G_S0 (zz_rf 6 (S0 1076 3)) 4 (-2147483648) 2147483647 (zR_k6_4 (by omega)) (zB_k6 (by omega))
          refine zz_geti (z := S0 (zz_rf 6 (S0 1076 3)) 4) zd_3_4_62 zf_Compiler_103 (zT_k6 (by omega)) rfl (zN_k6 hn (by omega)) rfl ?_
          refine zz_istore [some (.ref 1076), some (zi 0), some (zi 0), some (zi (S0 (zz_rf 6 (S0 1076 3)) 3)), some (zi (S0 (zz_rf 6 (S0 1076 3)) 4))] zd_3_4_65 (by decide) rfl ?_
          refine zz_iload_n (x := 0) rfl zd_3_4_67 ?_
          refine zz_if_eq (by omega) zd_3_4_68 (fun c9 => ?_) (fun c9 => ?_)
          · refine zz_iconst zd_3_4_81 ?_
            refine zz_istore [some (.ref 1076), some (zi 0), some (zi 0), some (zi (S0 (zz_rf 6 (S0 1076 3)) 3)), some (zi (S0 (zz_rf 6 (S0 1076 3)) 4)), some (zi 1)] zd_3_4_82 (by decide) rfl ?_
            refine zz_aload_n (x := 1076) rfl zd_3_4_84 ?_
            have g10 := zz_G.r G_S0 1076 12 (-2147483648) 2147483647 rfl rfl
            refine zz_geti (z := S0 1076 12) zd_3_4_85 zf_Compiler_73 zT_1076 rfl (zz_ltn hn rfl) rfl ?_
            refine zz_istore [some (.ref 1076), some (zi 0), some (zi 0), some (zi (S0 (zz_rf 6 (S0 1076 3)) 3)), some (zi (S0 (zz_rf 6 (S0 1076 3)) 4)), some (zi 1), some (zi (S0 1076 12))] zd_3_4_88 (by decide) rfl ?_
            refine zz_aload_n (x := 1076) rfl zd_3_4_90 ?_
            refine zz_iconst zd_3_4_91 ?_
            refine zz_puti zd_3_4_92 zf_Compiler_106 zT_1076 rfl (zz_ltn hn rfl) (fun S11 qS11 => ?_)
            have G_S11 := zz_G.put G_S0 qS11 (-2147483648) 2147483647 rfl (by omega)
            have F_S11 := zz_fr.puts F_S0 qS11 rfl
            have e12 : S11 1076 13 = 0 := (zz_rs qS11)
            have g13 := zz_G.r G_S0 1076 1 0 1000000 rfl rfl
            have e14 : S11 1076 1 = S0 1076 1 := (zz_ro qS11 (fun h => absurd h.2 (by decide)) rfl)
            refine zz_less (ls1 := [some (.ref 1076), some (zi 0), none, some (zi (S0 (zz_rf 6 (S0 1076 3)) 3)), some (zi (S0 (zz_rf 6 (S0 1076 3)) 4)), some (zi 1), some (zi (S0 1076 12))]) ⟨rfl, ⟨rfl, ⟨rfl, ⟨rfl, ⟨rfl, ⟨rfl, trivial⟩⟩⟩⟩⟩⟩ ?_
            exact k95 0 (S0 (zz_rf 6 (S0 1076 3)) 3) (S0 (zz_rf 6 (S0 1076 3)) 4) 1 S11 G_S11 F_S11 (by omega) (by omega) (by omega) (by omega) (by omega) (by omega)
          · exfalso; omega
        · exfalso; omega
      · exfalso; omega
    · refine zz_iconst zd_3_4_28 ?_
      refine zz_goto zd_3_4_29 ?_
      refine zz_istore_n [some (.ref 1076), some (zi 0), some (zi 1)] zd_3_4_33 (by decide) rfl ?_
      refine zz_iload_n (x := 1) rfl zd_3_4_34 ?_
      refine zz_if_eq (by omega) zd_3_4_35 (fun c15 => ?_) (fun c15 => ?_)
      · exfalso; omega
      · refine zz_iconst zd_3_4_38 ?_
        refine zz_goto zd_3_4_39 ?_
        refine zz_istore_n [some (.ref 1076), some (zi 0), some (zi 1), some (zi 1)] zd_3_4_49 (by decide) rfl ?_
        refine zz_iload_n (x := 1) rfl zd_3_4_50 ?_
        refine zz_if_eq (by omega) zd_3_4_51 (fun c16 => ?_) (fun c16 => ?_)
        · exfalso; omega
        · refine zz_iconst zd_3_4_54 ?_
          refine zz_goto zd_3_4_55 ?_
          refine zz_istore [some (.ref 1076), some (zi 0), some (zi 1), some (zi 1), some (zi 2)] zd_3_4_65 (by decide) rfl ?_
          refine zz_iload_n (x := 0) rfl zd_3_4_67 ?_
          refine zz_if_eq (by omega) zd_3_4_68 (fun c17 => ?_) (fun c17 => ?_)
          · refine zz_iconst zd_3_4_81 ?_
            refine zz_istore [some (.ref 1076), some (zi 0), some (zi 1), some (zi 1), some (zi 2), some (zi 1)] zd_3_4_82 (by decide) rfl ?_
            refine zz_aload_n (x := 1076) rfl zd_3_4_84 ?_
            have g18 := zz_G.r G_S0 1076 12 (-2147483648) 2147483647 rfl rfl
            refine zz_geti (z := S0 1076 12) zd_3_4_85 zf_Compiler_73 zT_1076 rfl (zz_ltn hn rfl) rfl ?_
            refine zz_istore [some (.ref 1076), some (zi 0), some (zi 1), some (zi 1), some (zi 2), some (zi 1), some (zi (S0 1076 12))] zd_3_4_88 (by decide) rfl ?_
            refine zz_aload_n (x := 1076) rfl zd_3_4_90 ?_
            refine zz_iconst zd_3_4_91 ?_
            refine zz_puti zd_3_4_92 zf_Compiler_106 zT_1076 rfl (zz_ltn hn rfl) (fun S19 qS19 => ?_)
            have G_S19 := zz_G.put G_S0 qS19 (-2147483648) 2147483647 rfl (by omega)
            have F_S19 := zz_fr.puts F_S0 qS19 rfl
            have e20 : S19 1076 13 = 0 := (zz_rs qS19)
            have g21 := zz_G.r G_S0 1076 1 0 1000000 rfl rfl
            have e22 : S19 1076 1 = S0 1076 1 := (zz_ro qS19 (fun h => absurd h.2 (by decide)) rfl)
            refine zz_less (ls1 := [some (.ref 1076), some (zi 0), none, some (zi 1), some (zi 2), some (zi 1), some (zi (S0 1076 12))]) ⟨rfl, ⟨rfl, ⟨rfl, ⟨rfl, ⟨rfl, ⟨rfl, trivial⟩⟩⟩⟩⟩⟩ ?_
            exact k95 0 1 2 1 S19 G_S19 F_S19 (by omega) (by omega) (by omega) (by omega) (by omega) (by omega)
          · exfalso; omega
  · refine zz_iconst zd_3_4_11 ?_
    refine zz_goto zd_3_4_12 ?_
    refine zz_istore_n [some (.ref 1076), some (zi 1)] zd_3_4_16 (by decide) rfl ?_
    refine zz_aload_n (x := 1076) rfl zd_3_4_17 ?_
    refine zz_getr (kd := 4) (z := S0 1076 3) zd_3_4_18 zf_Compiler_51 zT_1076 rfl (zz_ltn hn rfl) rfl (by omega) (zz_rf 6 (S0 1076 3)) rfl ?_
    refine zz_geti (z := S0 (zz_rf 6 (S0 1076 3)) 0) zd_3_4_21 zf_Compiler_61 (zT_k6 (by omega)) rfl (zN_k6 hn (by omega)) rfl ?_
    refine zz_iconst zd_3_4_24 ?_
    refine zz_icmp_ne (by omega) (by omega) zd_3_4_25 (fun c23 => ?_) (fun c23 => ?_)
    · refine zz_iconst zd_3_4_32 ?_
      refine zz_istore_n [some (.ref 1076), some (zi 1), some (zi 0)] zd_3_4_33 (by decide) rfl ?_
      refine zz_iload_n (x := 0) rfl zd_3_4_34 ?_
      refine zz_if_eq (by omega) zd_3_4_35 (fun c24 => ?_) (fun c24 => ?_)
      · refine zz_aload_n (x := 1076) rfl zd_3_4_42 ?_
        refine zz_getr (kd := 4) (z := S0 1076 3) zd_3_4_43 zf_Compiler_51 zT_1076 rfl (zz_ltn hn rfl) rfl (by omega) (zz_rf 6 (S0 1076 3)) rfl ?_
        have g25 := zz_G.r G_S0 (zz_rf 6 (S0 1076 3)) 3 (-2147483648) 2147483647 (zR_k6_3 (by omega)) (zB_k6 (by omega))
        refine zz_geti (z := S0 (zz_rf 6 (S0 1076 3)) 3) zd_3_4_46 zf_Compiler_100 (zT_k6 (by omega)) rfl (zN_k6 hn (by omega)) rfl ?_
        refine zz_istore_n [some (.ref 1076), some (zi 1), some (zi 0), some (zi (S0 (zz_rf 6 (S0 1076 3)) 3))] zd_3_4_49 (by decide) rfl ?_
        refine zz_iload_n (x := 0) rfl zd_3_4_50 ?_
        refine zz_if_eq (by omega) zd_3_4_51 (fun c26 => ?_) (fun c26 => ?_)
        · refine zz_aload_n (x := 1076) rfl zd_3_4_58 ?_
          refine zz_getr (kd := 4) (z := S0 1076 3) zd_3_4_59 zf_Compiler_51 zT_1076 rfl (zz_ltn hn rfl) rfl (by omega) (zz_rf 6 (S0 1076 3)) rfl ?_
          have g27 := zz_G.r G_S0 (zz_rf 6 (S0 1076 3)) 4 (-2147483648) 2147483647 (zR_k6_4 (by omega)) (zB_k6 (by omega))
          refine zz_geti (z := S0 (zz_rf 6 (S0 1076 3)) 4) zd_3_4_62 zf_Compiler_103 (zT_k6 (by omega)) rfl (zN_k6 hn (by omega)) rfl ?_
          refine zz_istore [some (.ref 1076), some (zi 1), some (zi 0), some (zi (S0 (zz_rf 6 (S0 1076 3)) 3)), some (zi (S0 (zz_rf 6 (S0 1076 3)) 4))] zd_3_4_65 (by decide) rfl ?_
          refine zz_iload_n (x := 1) rfl zd_3_4_67 ?_
          refine zz_if_eq (by omega) zd_3_4_68 (fun c28 => ?_) (fun c28 => ?_)
          · exfalso; omega
          · refine zz_aload_n (x := 1076) rfl zd_3_4_71 ?_
            have g29 := zz_G.r G_S0 1076 4 (-1) 23 rfl rfl
            refine zz_getr (kd := 4) (z := S0 1076 4) zd_3_4_72 zf_Compiler_55 zT_1076 rfl (zz_ltn hn rfl) rfl (by omega) (zz_rf 6 (S0 1076 4)) rfl ?_
            have g30 := zz_G.r G_S0 (zz_rf 6 (S0 1076 4)) 12 (-2147483648) 2147483647 (zR_k6_12 (by omega)) (zB_k6 (by omega))
            refine zz_geti (z := S0 (zz_rf 6 (S0 1076 4)) 12) zd_3_4_75 zf_Compiler_79 (zT_k6 (by omega)) rfl (zN_k6 hn (by omega)) rfl ?_
            refine zz_goto zd_3_4_78 ?_
            refine zz_istore [some (.ref 1076), some (zi 1), some (zi 0), some (zi (S0 (zz_rf 6 (S0 1076 3)) 3)), some (zi (S0 (zz_rf 6 (S0 1076 3)) 4)), some (zi (S0 (zz_rf 6 (S0 1076 4)) 12))] zd_3_4_82 (by decide) rfl ?_
            refine zz_aload_n (x := 1076) rfl zd_3_4_84 ?_
            have g31 := zz_G.r G_S0 1076 12 (-2147483648) 2147483647 rfl rfl
            refine zz_geti (z := S0 1076 12) zd_3_4_85 zf_Compiler_73 zT_1076 rfl (zz_ltn hn rfl) rfl ?_
            refine zz_istore [some (.ref 1076), some (zi 1), some (zi 0), some (zi (S0 (zz_rf 6 (S0 1076 3)) 3)), some (zi (S0 (zz_rf 6 (S0 1076 3)) 4)), some (zi (S0 (zz_rf 6 (S0 1076 4)) 12)), some (zi (S0 1076 12))] zd_3_4_88 (by decide) rfl ?_
            refine zz_aload_n (x := 1076) rfl zd_3_4_90 ?_
            refine zz_iconst zd_3_4_91 ?_
            refine zz_puti zd_3_4_92 zf_Compiler_106 zT_1076 rfl (zz_ltn hn rfl) (fun S32 qS32 => ?_)
            have G_S32 := zz_G.put G_S0 qS32 (-2147483648) 2147483647 rfl (by omega)
            have F_S32 := zz_fr.puts F_S0 qS32 rfl
            have e33 : S32 1076 13 = 0 := (zz_rs qS32)
            have g34 := zz_G.r G_S0 1076 1 0 1000000 rfl rfl
            have e35 : S32 1076 1 = S0 1076 1 := (zz_ro qS32 (fun h => absurd h.2 (by decide)) rfl)
            refine zz_less (ls1 := [some (.ref 1076), some (zi 1), none, some (zi (S0 (zz_rf 6 (S0 1076 3)) 3)), some (zi (S0 (zz_rf 6 (S0 1076 3)) 4)), some (zi (S0 (zz_rf 6 (S0 1076 4)) 12)), some (zi (S0 1076 12))]) ⟨rfl, ⟨rfl, ⟨rfl, ⟨rfl, ⟨rfl, ⟨rfl, trivial⟩⟩⟩⟩⟩⟩ ?_
            exact k95 1 (S0 (zz_rf 6 (S0 1076 3)) 3) (S0 (zz_rf 6 (S0 1076 3)) 4) (S0 (zz_rf 6 (S0 1076 4)) 12) S32 G_S32 F_S32 (by omega) (by omega) (by omega) (by omega) (by omega) (by omega)
        · exfalso; omega
      · exfalso; omega
    · exfalso; omega
theorem zk_Compiler_94 : mm_Vl "TensorForge$Compiler" 94 9 0 zy_makeTile_3_4 := ⟨zyw_makeTile_3_4, (R_Compiler, F_Compiler, 17), rfl, mm_tb_1 1416 (by decide +kernel) rfl, mm_tb_1 1418 (by decide +kernel) rfl, mm_tb_s 63 (by decide +kernel) rfl⟩
theorem zd_3_3_274 : zz_D zy_makeLayer_3_3 274 (.aload_n 0) 1 275 := ⟨by decide +kernel, rfl⟩
theorem zd_3_3_275 : zz_D zy_makeLayer_3_3 275 (.dup) 1 276 := ⟨by decide +kernel, rfl⟩
theorem zd_3_3_276 : zz_D zy_makeLayer_3_3 276 (.getfield 88) 3 279 := ⟨by decide +kernel, rfl⟩
theorem zd_3_3_279 : zz_D zy_makeLayer_3_3 279 (.iload 6) 2 281 := ⟨by decide +kernel, rfl⟩
theorem zd_3_3_281 : zz_D zy_makeLayer_3_3 281 (.iadd) 1 282 := ⟨by decide +kernel, rfl⟩
theorem zd_3_3_282 : zz_D zy_makeLayer_3_3 282 (.putfield 88) 3 285 := ⟨by decide +kernel, rfl⟩
theorem zd_3_3_285 : zz_B zy_makeLayer_3_3 285 Instr.goto 234 288 := ⟨(-51), by decide +kernel, rfl, rfl⟩
theorem zd_3_3_253 : zz_D zy_makeLayer_3_3 253 (.return_) 1 254 := ⟨by decide +kernel, rfl⟩

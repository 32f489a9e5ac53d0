-- TensorForge stopped (I)I
abbrev zr_stopped_1_16 : Room := { frames := 6, cells := 1, slots := 6, locals := 82 }
def zp_stopped_1_16 (p0 : Int) (S0 : zz_S) : Int → zz_S → Prop := fun r S => S0 = S ∧ ((-2147483648) ≤ r ∧ r ≤ 2147483647)
def zx_stopped_1_16 (p0 : Int) (S0 : zz_S) : Nat → zz_S → Prop := fun i S => S0 = S ∧ (i < 4) ∧ (i = 0)
theorem zc_stopped_1_16 {g : mm_G} {l : Launch} (p0 : Int) (S0 : zz_S) (n : Nat) (hn : zz_end ≤ n) (hfl : l.flags = flags0) (G_S0 : zz_G S0) (hp0 : (-2147483648) ≤ p0 ∧ p0 ≤ 2147483647) : mm_Met g l zy_stopped_1_16 zr_stopped_1_16 [.ref 1000, zi p0] (zz_M S0 n) n (zz_XI n (zp_stopped_1_16 p0 S0) (zx_stopped_1_16 p0 S0)) := by
  refine zz_enter (by decide) (Nat.le_of_ble_eq_true rfl) (zz_less (ls1 := [some (.ref 1000), some (zi p0)]) ⟨rfl, ⟨rfl, trivial⟩⟩ ?_)
  refine zz_iload_n (x := p0) rfl zd_1_16_0 ?_
  refine zz_if_lt (by omega) zd_1_16_1 (fun c1 => ?_) (fun c1 => ?_)
  · exact zz_throw (i := 0) hfl hn zt_1_16_10 zyw_stopped_1_16 zxl_TF_87_189_91 (Nat.le_of_ble_eq_true rfl) (Nat.le_of_ble_eq_true rfl) ⟨Nat.le_of_ble_eq_true rfl, Nat.le_of_ble_eq_true rfl⟩ (Or.inr ⟨_, _, rfl, rfl, by omega, by omega⟩)
  · refine zz_iload_n (x := p0) rfl zd_1_16_4 ?_
    refine zz_bipush (by decide) zd_1_16_5 ?_
    refine zz_icmp_lt (by omega) (by omega) zd_1_16_7 (fun c2 => ?_) (fun c2 => ?_)
    · refine zz_aload_n (x := 1000) rfl zd_1_16_20 ?_
      refine zz_getr (kd := 0) (z := 1042) zd_1_16_21 zf_TF_42 zT_1000 rfl (zz_ltn hn rfl) (zz_G.eq G_S0 1000 1 1042 rfl rfl) (by decide) 1042 rfl ?_
      refine zz_getr (kd := 0) (z := 1043) zd_1_16_24 zf_TF_186 zT_1042 rfl (zz_ltn hn rfl) (zz_G.eq G_S0 1042 1 1043 rfl rfl) (by decide) 1043 rfl ?_
      refine zz_iload_n (x := p0) rfl zd_1_16_27 ?_
      have g3 := zz_G.r G_S0 1043 p0.toNat (-2147483648) 2147483647 rfl rfl
      refine zz_iald (z := S0 1043 p0.toNat) zd_1_16_28 zT_1043 rfl (zz_ltn hn rfl) (by decide) (by omega) rfl ?_
      exact zz_iret zd_1_16_29 rfl (Nat.le_of_ble_eq_true rfl) (Nat.le_of_ble_eq_true rfl) (Or.inl ⟨_, _, rfl, rfl, by omega⟩)
    · exact zz_throw (i := 0) hfl hn zt_1_16_10 zyw_stopped_1_16 zxl_TF_87_189_91 (Nat.le_of_ble_eq_true rfl) (Nat.le_of_ble_eq_true rfl) ⟨Nat.le_of_ble_eq_true rfl, Nat.le_of_ble_eq_true rfl⟩ (Or.inr ⟨_, _, rfl, rfl, by omega, by omega⟩)
abbrev zy_instruction_1_17 : mm_Y := (⟨"TensorForge", "instruction", "(II)I"⟩, prog_1_method_17_code, 3, (some .int))
theorem zyw_instruction_1_17 : mm_Yw zy_instruction_1_17 2 := ⟨mm_tb_1 1319 (by decide +kernel) rfl, mm_tb_1 1 (by decide +kernel) rfl, ⟨by decide, by decide⟩, by decide +kernel⟩
abbrev zy_needRun_1_32 : mm_Y := (⟨"TensorForge", "needRun", "()V"⟩, prog_1_method_32_code, 2, none)
theorem zyw_needRun_1_32 : mm_Yw zy_needRun_1_32 0 := ⟨mm_tb_1 1323 (by decide +kernel) rfl, mm_tb_1 1 (by decide +kernel) rfl, ⟨by decide, by decide⟩, by decide +kernel⟩
theorem zt_1_32_19 : zz_ThrW zy_needRun_1_32 19 333 335 337 := ⟨by decide +kernel, by decide +kernel, by decide +kernel, by decide +kernel, by decide +kernel⟩
theorem zxa_TF_337 : ∀ w ∈ Bundle.ownAtoms "TensorForge" 337 (mm_xn 3) ["java/lang/RuntimeException", "java/lang/Exception"], (goodWord w = true ∧ w ∈ tables_1) ∨ w ∈ mm_xs := by decide +kernel
theorem zxl_TF_333_335_337 : mm_Xl "TensorForge" 333 335 337 3 := ⟨mm_tb_1 1324 (by decide +kernel) rfl, mm_tb_1 1325 (by decide +kernel) rfl, mm_tb_1 27 (by decide +kernel) rfl, ⟨47, by decide +kernel⟩, zxa_TF_337⟩
theorem zg_1_17_0 : zq_at zy_instruction_1_17.2.1 0 42 ∧ zq_at zy_instruction_1_17.2.1 1 182 ∧ zq_at zy_instruction_1_17.2.1 2 0 ∧ zq_at zy_instruction_1_17.2.1 3 191 := by decide +kernel
theorem zd_1_17_0 : zz_D zy_instruction_1_17 0 (.aload_n 0) 1 1 := ⟨zq_42 zg_1_17_0.1, rfl⟩
theorem zd_1_17_1 : zz_D zy_instruction_1_17 1 (.invokevirtual 191) 3 4 := ⟨zq_182 zg_1_17_0.2.1 zg_1_17_0.2.2.1 zg_1_17_0.2.2.2 rfl, rfl⟩
theorem zg_1_32_0 : zq_at zy_needRun_1_32.2.1 0 42 ∧ zq_at zy_needRun_1_32.2.1 1 180 ∧ zq_at zy_needRun_1_32.2.1 2 0 ∧ zq_at zy_needRun_1_32.2.1 3 42 ∧ zq_at zy_needRun_1_32.2.1 4 180 ∧ zq_at zy_needRun_1_32.2.1 5 0 ∧ zq_at zy_needRun_1_32.2.1 6 186 ∧ zq_at zy_needRun_1_32.2.1 7 3 ∧ zq_at zy_needRun_1_32.2.1 8 46 ∧ zq_at zy_needRun_1_32.2.1 9 60 ∧ zq_at zy_needRun_1_32.2.1 10 27 ∧ zq_at zy_needRun_1_32.2.1 11 153 ∧ zq_at zy_needRun_1_32.2.1 12 0 ∧ zq_at zy_needRun_1_32.2.1 13 8 ∧ zq_at zy_needRun_1_32.2.1 14 27 ∧ zq_at zy_needRun_1_32.2.1 15 5 ∧ zq_at zy_needRun_1_32.2.1 16 160 ∧ zq_at zy_needRun_1_32.2.1 17 0 ∧ zq_at zy_needRun_1_32.2.1 18 14 ∧ zq_at zy_needRun_1_32.2.1 30 177 := by decide +kernel
theorem zd_1_32_0 : zz_D zy_needRun_1_32 0 (.aload_n 0) 1 1 := ⟨zq_42 zg_1_32_0.1, rfl⟩
theorem zd_1_32_1 : zz_D zy_needRun_1_32 1 (.getfield 42) 3 4 := ⟨zq_180 zg_1_32_0.2.1 zg_1_32_0.2.2.1 zg_1_32_0.2.2.2.1 rfl, rfl⟩
theorem zd_1_32_4 : zz_D zy_needRun_1_32 4 (.getfield 186) 3 7 := ⟨zq_180 zg_1_32_0.2.2.2.2.1 zg_1_32_0.2.2.2.2.2.1 zg_1_32_0.2.2.2.2.2.2.1 rfl, rfl⟩
theorem zd_1_32_7 : zz_D zy_needRun_1_32 7 (.iconst 0) 1 8 := ⟨zq_3 zg_1_32_0.2.2.2.2.2.2.2.1, rfl⟩
theorem zd_1_32_8 : zz_D zy_needRun_1_32 8 (.iaload) 1 9 := ⟨zq_46 zg_1_32_0.2.2.2.2.2.2.2.2.1, rfl⟩
theorem zd_1_32_9 : zz_D zy_needRun_1_32 9 (.istore_n 1) 1 10 := ⟨zq_60 zg_1_32_0.2.2.2.2.2.2.2.2.2.1, rfl⟩
theorem zd_1_32_10 : zz_D zy_needRun_1_32 10 (.iload_n 1) 1 11 := ⟨zq_27 zg_1_32_0.2.2.2.2.2.2.2.2.2.2.1, rfl⟩
theorem zd_1_32_11 : zz_B zy_needRun_1_32 11 (Instr.ifCond .eq) 19 14 := ⟨8, zq_153 zg_1_32_0.2.2.2.2.2.2.2.2.2.2.2.1 zg_1_32_0.2.2.2.2.2.2.2.2.2.2.2.2.1 zg_1_32_0.2.2.2.2.2.2.2.2.2.2.2.2.2.1 (by decide), rfl, rfl⟩
theorem zd_1_32_14 : zz_D zy_needRun_1_32 14 (.iload_n 1) 1 15 := ⟨zq_27 zg_1_32_0.2.2.2.2.2.2.2.2.2.2.2.2.2.2.1, rfl⟩
theorem zd_1_32_15 : zz_D zy_needRun_1_32 15 (.iconst 2) 1 16 := ⟨zq_5 zg_1_32_0.2.2.2.2.2.2.2.2.2.2.2.2.2.2.2.1, rfl⟩
theorem zd_1_32_16 : zz_B zy_needRun_1_32 16 (Instr.if_icmp .ne) 30 19 := ⟨14, zq_160 zg_1_32_0.2.2.2.2.2.2.2.2.2.2.2.2.2.2.2.2.1 zg_1_32_0.2.2.2.2.2.2.2.2.2.2.2.2.2.2.2.2.2.1 zg_1_32_0.2.2.2.2.2.2.2.2.2.2.2.2.2.2.2.2.2.2.1 (by decide), rfl, rfl⟩
theorem zd_1_32_30 : zz_D zy_needRun_1_32 30 (.return_) 1 31 := ⟨zq_177 zg_1_32_0.2.2.2.2.2.2.2.2.2.2.2.2.2.2.2.2.2.2.2, rfl⟩
-- TensorForge needRun ()V
abbrev zr_needRun_1_32 : Room := { frames := 6, cells := 1, slots := 6, locals := 82 }
def zp_needRun_1_32  (S0 : zz_S) : zz_S → Prop := fun S => S0 = S
def zx_needRun_1_32  (S0 : zz_S) : Nat → zz_S → Prop := fun i S => S0 = S ∧ (i < 4) ∧ (i = 3)
theorem zc_needRun_1_32 {g : mm_G} {l : Launch}  (S0 : zz_S) (n : Nat) (hn : zz_end ≤ n) (hfl : l.flags = flags0) (G_S0 : zz_G S0)  : mm_Met g l zy_needRun_1_32 zr_needRun_1_32 [.ref 1000] (zz_M S0 n) n (zz_XV n (zp_needRun_1_32  S0) (zx_needRun_1_32  S0)) := by
  refine zz_enter (by decide) (Nat.le_of_ble_eq_true rfl) (zz_less (ls1 := [some (.ref 1000)]) ⟨rfl, trivial⟩ ?_)
  refine zz_aload_n (x := 1000) rfl zd_1_32_0 ?_
  refine zz_getr (kd := 0) (z := 1042) zd_1_32_1 zf_TF_42 zT_1000 rfl (zz_ltn hn rfl) (zz_G.eq G_S0 1000 1 1042 rfl rfl) (by decide) 1042 rfl ?_
  refine zz_getr (kd := 0) (z := 1043) zd_1_32_4 zf_TF_186 zT_1042 rfl (zz_ltn hn rfl) (zz_G.eq G_S0 1042 1 1043 rfl rfl) (by decide) 1043 rfl ?_
  refine zz_iconst zd_1_32_7 ?_
  have g1 := zz_G.r G_S0 1043 0 (-2147483648) 2147483647 rfl rfl
  refine zz_iald (z := S0 1043 0) zd_1_32_8 zT_1043 rfl (zz_ltn hn rfl) (by decide) (by decide) rfl ?_
  refine zz_istore_n [some (.ref 1000), some (zi (S0 1043 0))] zd_1_32_9 (by decide) rfl ?_
  refine zz_iload_n (x := S0 1043 0) rfl zd_1_32_10 ?_
  refine zz_if_eq (by omega) zd_1_32_11 (fun c2 => ?_) (fun c2 => ?_)
  · exact zz_throwW (i := 3) hfl hn zt_1_32_19 zyw_needRun_1_32 zxl_TF_333_335_337 (Nat.le_of_ble_eq_true rfl) (Nat.le_of_ble_eq_true rfl) ⟨Nat.le_of_ble_eq_true rfl, Nat.le_of_ble_eq_true rfl⟩ (Or.inr ⟨_, _, rfl, rfl, by omega, by omega⟩)
  · refine zz_iload_n (x := S0 1043 0) rfl zd_1_32_14 ?_
    refine zz_iconst zd_1_32_15 ?_
    refine zz_icmp_ne (by omega) (by omega) zd_1_32_16 (fun c3 => ?_) (fun c3 => ?_)
    · exact zz_vret zd_1_32_30 rfl (Nat.le_of_ble_eq_true rfl) (Nat.le_of_ble_eq_true rfl) (Or.inl ⟨_, rfl, rfl⟩)
    · exact zz_throwW (i := 3) hfl hn zt_1_32_19 zyw_needRun_1_32 zxl_TF_333_335_337 (Nat.le_of_ble_eq_true rfl) (Nat.le_of_ble_eq_true rfl) ⟨Nat.le_of_ble_eq_true rfl, Nat.le_of_ble_eq_true rfl⟩ (Or.inr ⟨_, _, rfl, rfl, by omega, by omega⟩)
theorem zk_TF_191 : mm_Vl "TensorForge" 191 0 0 zy_needRun_1_32 := ⟨zyw_needRun_1_32, (R_TF, F_TF, 12), rfl, mm_tb_1 1320 (by decide +kernel) rfl, mm_tb_1 1322 (by decide +kernel) rfl, mm_tb_s 61 (by decide +kernel) rfl⟩
theorem zt_1_17_19 : zz_Thr zy_instruction_1_17 19 101 195 105 := ⟨by decide +kernel, by decide +kernel, by decide +kernel, by decide +kernel, by decide +kernel⟩
theorem zxl_TF_101_195_105 : mm_Xl "TensorForge" 101 195 105 1 := ⟨mm_tb_1 1133 (by decide +kernel) rfl, mm_tb_1 1134 (by decide +kernel) rfl, mm_tb_1 18 (by decide +kernel) rfl, ⟨48, by decide +kernel⟩, zxa_TF_105⟩
theorem zf_TF_194 : mm_Fl "TensorForge" 194 5 9 .int false := ⟨R_Run, F_Run, 10, t_Run, rfl, i_Run, by decide, mm_tb_1 253 (by decide +kernel) rfl, rfl, t_Run_ok, n_Run, rfl, by decide +kernel⟩
theorem zt_1_17_38 : zz_Thr zy_instruction_1_17 38 87 197 91 := ⟨by decide +kernel, by decide +kernel, by decide +kernel, by decide +kernel, by decide +kernel⟩
theorem zxl_TF_87_197_91 : mm_Xl "TensorForge" 87 197 91 0 := ⟨mm_tb_1 1048 (by decide +kernel) rfl, mm_tb_1 1049 (by decide +kernel) rfl, mm_tb_1 16 (by decide +kernel) rfl, ⟨49, by decide +kernel⟩, zxa_TF_91⟩
theorem zf_TF_207 : mm_Fl "TensorForge" 207 5 4 (.array .int) true := ⟨R_Run, F_Run, 10, t_Run, rfl, i_Run, by decide, mm_tb_1 247 (by decide +kernel) rfl, rfl, t_Run_ok, n_Run, rfl, by decide +kernel⟩
theorem zf_TF_204 : mm_Fl "TensorForge" 204 5 3 (.array .int) true := ⟨R_Run, F_Run, 10, t_Run, rfl, i_Run, by decide, mm_tb_1 245 (by decide +kernel) rfl, rfl, t_Run_ok, n_Run, rfl, by decide +kernel⟩
theorem zf_TF_199 : mm_Fl "TensorForge" 199 5 2 (.array .long) true := ⟨R_Run, F_Run, 10, t_Run, rfl, i_Run, by decide, mm_tb_1 243 (by decide +kernel) rfl, rfl, t_Run_ok, n_Run, rfl, by decide +kernel⟩
theorem zk_TF_200 : mm_Sl "TensorForge" 200 1 zy_unitOf_12_10 := ⟨zyw_unitOf_12_10, mm_tb_1 1342 (by decide +kernel) rfl, mm_tb_1 520 (by decide +kernel) rfl⟩
theorem zg_1_17_4 : zq_at zy_instruction_1_17.2.1 4 27 ∧ zq_at zy_instruction_1_17.2.1 5 155 ∧ zq_at zy_instruction_1_17.2.1 6 0 ∧ zq_at zy_instruction_1_17.2.1 7 14 ∧ zq_at zy_instruction_1_17.2.1 8 27 ∧ zq_at zy_instruction_1_17.2.1 9 42 ∧ zq_at zy_instruction_1_17.2.1 10 180 ∧ zq_at zy_instruction_1_17.2.1 11 0 ∧ zq_at zy_instruction_1_17.2.1 12 42 ∧ zq_at zy_instruction_1_17.2.1 13 180 ∧ zq_at zy_instruction_1_17.2.1 14 0 ∧ zq_at zy_instruction_1_17.2.1 15 194 ∧ zq_at zy_instruction_1_17.2.1 16 161 ∧ zq_at zy_instruction_1_17.2.1 17 0 ∧ zq_at zy_instruction_1_17.2.1 18 13 ∧ zq_at zy_instruction_1_17.2.1 29 28 ∧ zq_at zy_instruction_1_17.2.1 30 155 ∧ zq_at zy_instruction_1_17.2.1 31 0 ∧ zq_at zy_instruction_1_17.2.1 32 8 ∧ zq_at zy_instruction_1_17.2.1 33 28 ∧ zq_at zy_instruction_1_17.2.1 34 5 ∧ zq_at zy_instruction_1_17.2.1 35 164 ∧ zq_at zy_instruction_1_17.2.1 36 0 ∧ zq_at zy_instruction_1_17.2.1 37 13 := by decide +kernel
theorem zd_1_17_4 : zz_D zy_instruction_1_17 4 (.iload_n 1) 1 5 := ⟨zq_27 zg_1_17_4.1, rfl⟩
theorem zd_1_17_5 : zz_B zy_instruction_1_17 5 (Instr.ifCond .lt) 19 8 := ⟨14, zq_155 zg_1_17_4.2.1 zg_1_17_4.2.2.1 zg_1_17_4.2.2.2.1 (by decide), rfl, rfl⟩
theorem zd_1_17_8 : zz_D zy_instruction_1_17 8 (.iload_n 1) 1 9 := ⟨zq_27 zg_1_17_4.2.2.2.2.1, rfl⟩
theorem zd_1_17_9 : zz_D zy_instruction_1_17 9 (.aload_n 0) 1 10 := ⟨zq_42 zg_1_17_4.2.2.2.2.2.1, rfl⟩
theorem zd_1_17_10 : zz_D zy_instruction_1_17 10 (.getfield 42) 3 13 := ⟨zq_180 zg_1_17_4.2.2.2.2.2.2.1 zg_1_17_4.2.2.2.2.2.2.2.1 zg_1_17_4.2.2.2.2.2.2.2.2.1 rfl, rfl⟩
theorem zd_1_17_13 : zz_D zy_instruction_1_17 13 (.getfield 194) 3 16 := ⟨zq_180 zg_1_17_4.2.2.2.2.2.2.2.2.2.1 zg_1_17_4.2.2.2.2.2.2.2.2.2.2.1 zg_1_17_4.2.2.2.2.2.2.2.2.2.2.2.1 rfl, rfl⟩
theorem zd_1_17_16 : zz_B zy_instruction_1_17 16 (Instr.if_icmp .lt) 29 19 := ⟨13, zq_161 zg_1_17_4.2.2.2.2.2.2.2.2.2.2.2.2.1 zg_1_17_4.2.2.2.2.2.2.2.2.2.2.2.2.2.1 zg_1_17_4.2.2.2.2.2.2.2.2.2.2.2.2.2.2.1 (by decide), rfl, rfl⟩
theorem zd_1_17_29 : zz_D zy_instruction_1_17 29 (.iload_n 2) 1 30 := ⟨zq_28 zg_1_17_4.2.2.2.2.2.2.2.2.2.2.2.2.2.2.2.1, rfl⟩
theorem zd_1_17_30 : zz_B zy_instruction_1_17 30 (Instr.ifCond .lt) 38 33 := ⟨8, zq_155 zg_1_17_4.2.2.2.2.2.2.2.2.2.2.2.2.2.2.2.2.1 zg_1_17_4.2.2.2.2.2.2.2.2.2.2.2.2.2.2.2.2.2.1 zg_1_17_4.2.2.2.2.2.2.2.2.2.2.2.2.2.2.2.2.2.2.1 (by decide), rfl, rfl⟩
theorem zd_1_17_33 : zz_D zy_instruction_1_17 33 (.iload_n 2) 1 34 := ⟨zq_28 zg_1_17_4.2.2.2.2.2.2.2.2.2.2.2.2.2.2.2.2.2.2.2.1, rfl⟩
theorem zd_1_17_34 : zz_D zy_instruction_1_17 34 (.iconst 2) 1 35 := ⟨zq_5 zg_1_17_4.2.2.2.2.2.2.2.2.2.2.2.2.2.2.2.2.2.2.2.2.1, rfl⟩
theorem zd_1_17_35 : zz_B zy_instruction_1_17 35 (Instr.if_icmp .le) 48 38 := ⟨13, zq_164 zg_1_17_4.2.2.2.2.2.2.2.2.2.2.2.2.2.2.2.2.2.2.2.2.2.1 zg_1_17_4.2.2.2.2.2.2.2.2.2.2.2.2.2.2.2.2.2.2.2.2.2.2.1 zg_1_17_4.2.2.2.2.2.2.2.2.2.2.2.2.2.2.2.2.2.2.2.2.2.2.2 (by decide), rfl, rfl⟩
theorem zg_1_17_48 : zq_at zy_instruction_1_17.2.1 48 28 ∧ zq_at zy_instruction_1_17.2.1 49 154 ∧ zq_at zy_instruction_1_17.2.1 50 0 ∧ zq_at zy_instruction_1_17.2.1 51 16 ∧ zq_at zy_instruction_1_17.2.1 65 28 ∧ zq_at zy_instruction_1_17.2.1 66 4 ∧ zq_at zy_instruction_1_17.2.1 67 160 ∧ zq_at zy_instruction_1_17.2.1 68 0 ∧ zq_at zy_instruction_1_17.2.1 69 15 ∧ zq_at zy_instruction_1_17.2.1 82 42 ∧ zq_at zy_instruction_1_17.2.1 83 180 ∧ zq_at zy_instruction_1_17.2.1 84 0 ∧ zq_at zy_instruction_1_17.2.1 85 42 ∧ zq_at zy_instruction_1_17.2.1 86 180 ∧ zq_at zy_instruction_1_17.2.1 87 0 ∧ zq_at zy_instruction_1_17.2.1 88 207 ∧ zq_at zy_instruction_1_17.2.1 89 27 ∧ zq_at zy_instruction_1_17.2.1 90 46 ∧ zq_at zy_instruction_1_17.2.1 91 172 ∧ zq_at zy_instruction_1_17.2.1 70 42 ∧ zq_at zy_instruction_1_17.2.1 71 180 ∧ zq_at zy_instruction_1_17.2.1 72 0 ∧ zq_at zy_instruction_1_17.2.1 73 42 := by decide +kernel
theorem zd_1_17_48 : zz_D zy_instruction_1_17 48 (.iload_n 2) 1 49 := ⟨zq_28 zg_1_17_48.1, rfl⟩
theorem zd_1_17_49 : zz_B zy_instruction_1_17 49 (Instr.ifCond .ne) 65 52 := ⟨16, zq_154 zg_1_17_48.2.1 zg_1_17_48.2.2.1 zg_1_17_48.2.2.2.1 (by decide), rfl, rfl⟩
theorem zd_1_17_65 : zz_D zy_instruction_1_17 65 (.iload_n 2) 1 66 := ⟨zq_28 zg_1_17_48.2.2.2.2.1, rfl⟩
theorem zd_1_17_66 : zz_D zy_instruction_1_17 66 (.iconst 1) 1 67 := ⟨zq_4 zg_1_17_48.2.2.2.2.2.1, rfl⟩
theorem zd_1_17_67 : zz_B zy_instruction_1_17 67 (Instr.if_icmp .ne) 82 70 := ⟨15, zq_160 zg_1_17_48.2.2.2.2.2.2.1 zg_1_17_48.2.2.2.2.2.2.2.1 zg_1_17_48.2.2.2.2.2.2.2.2.1 (by decide), rfl, rfl⟩
theorem zd_1_17_82 : zz_D zy_instruction_1_17 82 (.aload_n 0) 1 83 := ⟨zq_42 zg_1_17_48.2.2.2.2.2.2.2.2.2.1, rfl⟩
theorem zd_1_17_83 : zz_D zy_instruction_1_17 83 (.getfield 42) 3 86 := ⟨zq_180 zg_1_17_48.2.2.2.2.2.2.2.2.2.2.1 zg_1_17_48.2.2.2.2.2.2.2.2.2.2.2.1 zg_1_17_48.2.2.2.2.2.2.2.2.2.2.2.2.1 rfl, rfl⟩
theorem zd_1_17_86 : zz_D zy_instruction_1_17 86 (.getfield 207) 3 89 := ⟨zq_180 zg_1_17_48.2.2.2.2.2.2.2.2.2.2.2.2.2.1 zg_1_17_48.2.2.2.2.2.2.2.2.2.2.2.2.2.2.1 zg_1_17_48.2.2.2.2.2.2.2.2.2.2.2.2.2.2.2.1 rfl, rfl⟩
theorem zd_1_17_89 : zz_D zy_instruction_1_17 89 (.iload_n 1) 1 90 := ⟨zq_27 zg_1_17_48.2.2.2.2.2.2.2.2.2.2.2.2.2.2.2.2.1, rfl⟩
theorem zd_1_17_90 : zz_D zy_instruction_1_17 90 (.iaload) 1 91 := ⟨zq_46 zg_1_17_48.2.2.2.2.2.2.2.2.2.2.2.2.2.2.2.2.2.1, rfl⟩
theorem zd_1_17_91 : zz_D zy_instruction_1_17 91 (.ireturn) 1 92 := ⟨zq_172 zg_1_17_48.2.2.2.2.2.2.2.2.2.2.2.2.2.2.2.2.2.2.1, rfl⟩
theorem zd_1_17_70 : zz_D zy_instruction_1_17 70 (.aload_n 0) 1 71 := ⟨zq_42 zg_1_17_48.2.2.2.2.2.2.2.2.2.2.2.2.2.2.2.2.2.2.2.1, rfl⟩
theorem zd_1_17_71 : zz_D zy_instruction_1_17 71 (.getfield 42) 3 74 := ⟨zq_180 zg_1_17_48.2.2.2.2.2.2.2.2.2.2.2.2.2.2.2.2.2.2.2.2.1 zg_1_17_48.2.2.2.2.2.2.2.2.2.2.2.2.2.2.2.2.2.2.2.2.2.1 zg_1_17_48.2.2.2.2.2.2.2.2.2.2.2.2.2.2.2.2.2.2.2.2.2.2 rfl, rfl⟩
theorem zg_1_17_74 : zq_at zy_instruction_1_17.2.1 74 180 ∧ zq_at zy_instruction_1_17.2.1 75 0 ∧ zq_at zy_instruction_1_17.2.1 76 204 ∧ zq_at zy_instruction_1_17.2.1 77 27 ∧ zq_at zy_instruction_1_17.2.1 78 46 ∧ zq_at zy_instruction_1_17.2.1 79 167 ∧ zq_at zy_instruction_1_17.2.1 80 0 ∧ zq_at zy_instruction_1_17.2.1 81 12 ∧ zq_at zy_instruction_1_17.2.1 52 42 ∧ zq_at zy_instruction_1_17.2.1 53 180 ∧ zq_at zy_instruction_1_17.2.1 54 0 ∧ zq_at zy_instruction_1_17.2.1 55 42 ∧ zq_at zy_instruction_1_17.2.1 56 180 ∧ zq_at zy_instruction_1_17.2.1 57 0 ∧ zq_at zy_instruction_1_17.2.1 58 199 ∧ zq_at zy_instruction_1_17.2.1 59 27 ∧ zq_at zy_instruction_1_17.2.1 60 47 ∧ zq_at zy_instruction_1_17.2.1 61 184 ∧ zq_at zy_instruction_1_17.2.1 62 0 ∧ zq_at zy_instruction_1_17.2.1 63 200 ∧ zq_at zy_instruction_1_17.2.1 64 172 := by decide +kernel
theorem zd_1_17_74 : zz_D zy_instruction_1_17 74 (.getfield 204) 3 77 := ⟨zq_180 zg_1_17_74.1 zg_1_17_74.2.1 zg_1_17_74.2.2.1 rfl, rfl⟩
theorem zd_1_17_77 : zz_D zy_instruction_1_17 77 (.iload_n 1) 1 78 := ⟨zq_27 zg_1_17_74.2.2.2.1, rfl⟩
theorem zd_1_17_78 : zz_D zy_instruction_1_17 78 (.iaload) 1 79 := ⟨zq_46 zg_1_17_74.2.2.2.2.1, rfl⟩
theorem zd_1_17_79 : zz_B zy_instruction_1_17 79 Instr.goto 91 82 := ⟨12, zq_167 zg_1_17_74.2.2.2.2.2.1 zg_1_17_74.2.2.2.2.2.2.1 zg_1_17_74.2.2.2.2.2.2.2.1 (by decide), rfl, rfl⟩
theorem zd_1_17_52 : zz_D zy_instruction_1_17 52 (.aload_n 0) 1 53 := ⟨zq_42 zg_1_17_74.2.2.2.2.2.2.2.2.1, rfl⟩
theorem zd_1_17_53 : zz_D zy_instruction_1_17 53 (.getfield 42) 3 56 := ⟨zq_180 zg_1_17_74.2.2.2.2.2.2.2.2.2.1 zg_1_17_74.2.2.2.2.2.2.2.2.2.2.1 zg_1_17_74.2.2.2.2.2.2.2.2.2.2.2.1 rfl, rfl⟩
theorem zd_1_17_56 : zz_D zy_instruction_1_17 56 (.getfield 199) 3 59 := ⟨zq_180 zg_1_17_74.2.2.2.2.2.2.2.2.2.2.2.2.1 zg_1_17_74.2.2.2.2.2.2.2.2.2.2.2.2.2.1 zg_1_17_74.2.2.2.2.2.2.2.2.2.2.2.2.2.2.1 rfl, rfl⟩
theorem zd_1_17_59 : zz_D zy_instruction_1_17 59 (.iload_n 1) 1 60 := ⟨zq_27 zg_1_17_74.2.2.2.2.2.2.2.2.2.2.2.2.2.2.2.1, rfl⟩
theorem zd_1_17_60 : zz_D zy_instruction_1_17 60 (.laload) 1 61 := ⟨zq_47 zg_1_17_74.2.2.2.2.2.2.2.2.2.2.2.2.2.2.2.2.1, rfl⟩
theorem zd_1_17_61 : zz_D zy_instruction_1_17 61 (.invokestatic 200) 3 64 := ⟨zq_184 zg_1_17_74.2.2.2.2.2.2.2.2.2.2.2.2.2.2.2.2.2.1 zg_1_17_74.2.2.2.2.2.2.2.2.2.2.2.2.2.2.2.2.2.2.1 zg_1_17_74.2.2.2.2.2.2.2.2.2.2.2.2.2.2.2.2.2.2.2.1 rfl, rfl⟩
theorem zd_1_17_64 : zz_D zy_instruction_1_17 64 (.ireturn) 1 65 := ⟨zq_172 zg_1_17_74.2.2.2.2.2.2.2.2.2.2.2.2.2.2.2.2.2.2.2.2, rfl⟩
-- TensorForge instruction (II)I
abbrev zr_instruction_1_17 : Room := { frames := 7, cells := 2, slots := 12, locals := 95 }
def zp_instruction_1_17 (p0 : Int) (p1 : Int) (S0 : zz_S) : Int → zz_S → Prop := fun r S => S0 = S ∧ ((-2147483648) ≤ r ∧ r ≤ 2147483647)
def zx_instruction_1_17 (p0 : Int) (p1 : Int) (S0 : zz_S) : Nat → zz_S → Prop := fun i S => S0 = S ∧ (i < 4) ∧ (i = 0 ∨ i = 1 ∨ i = 3)
theorem zc_instruction_1_17 {g : mm_G} {l : Launch} (p0 : Int) (p1 : Int) (S0 : zz_S) (n : Nat) (hn : zz_end ≤ n) (hfl : l.flags = flags0) (G_S0 : zz_G S0) (hp0 : (-2147483648) ≤ p0 ∧ p0 ≤ 2147483647) (hp1 : (-2147483648) ≤ p1 ∧ p1 ≤ 2147483647) : mm_Met g l zy_instruction_1_17 zr_instruction_1_17 [.ref 1000, zi p0, zi p1] (zz_M S0 n) n (zz_XI n (zp_instruction_1_17 p0 p1 S0) (zx_instruction_1_17 p0 p1 S0)) := by
  refine zz_enter (by decide) (Nat.le_of_ble_eq_true rfl) (zz_less (ls1 := [some (.ref 1000), some (zi p0), some (zi p1)]) ⟨rfl, ⟨rfl, ⟨rfl, trivial⟩⟩⟩ ?_)
  refine zz_aload_n (x := 1000) rfl zd_1_17_0 ?_
  refine zz_callVXV [] zd_1_17_1 zk_TF_191 zT_1000 (zz_ltn hn rfl) rfl rfl ⟨Nat.le_of_ble_eq_true rfl, Nat.le_of_ble_eq_true rfl⟩ (Nat.le_of_ble_eq_true rfl) (Nat.le_of_ble_eq_true rfl) (zc_needRun_1_32  S0 n hn hfl G_S0 ) zyw_instruction_1_17 (fun i SX hX => by obtain ⟨rfl, x0, x1⟩ := hX; exact Or.inr ⟨_, _, rfl, rfl, by omega, by omega⟩) (fun S3 hP => ?_)
  obtain ⟨rfl⟩ := hP
  refine zz_iload_n (x := p0) rfl zd_1_17_4 ?_
  refine zz_if_lt (by omega) zd_1_17_5 (fun c5 => ?_) (fun c5 => ?_)
  · exact zz_throw (i := 1) hfl hn zt_1_17_19 zyw_instruction_1_17 zxl_TF_101_195_105 (Nat.le_of_ble_eq_true rfl) (Nat.le_of_ble_eq_true rfl) ⟨Nat.le_of_ble_eq_true rfl, Nat.le_of_ble_eq_true rfl⟩ (Or.inr ⟨_, _, rfl, rfl, by omega, by omega⟩)
  · refine zz_iload_n (x := p0) rfl zd_1_17_8 ?_
    refine zz_aload_n (x := 1000) rfl zd_1_17_9 ?_
    refine zz_getr (kd := 0) (z := 1042) zd_1_17_10 zf_TF_42 zT_1000 rfl (zz_ltn hn rfl) (zz_G.eq G_S0 1000 1 1042 rfl rfl) (by decide) 1042 rfl ?_
    have g6 := zz_G.r G_S0 1042 9 0 600 rfl rfl
    refine zz_geti (z := S0 1042 9) zd_1_17_13 zf_TF_194 zT_1042 rfl (zz_ltn hn rfl) rfl ?_
    refine zz_icmp_lt (by omega) (by omega) zd_1_17_16 (fun c7 => ?_) (fun c7 => ?_)
    · refine zz_iload_n (x := p1) rfl zd_1_17_29 ?_
      refine zz_if_lt (by omega) zd_1_17_30 (fun c8 => ?_) (fun c8 => ?_)
      · exact zz_throw (i := 0) hfl hn zt_1_17_38 zyw_instruction_1_17 zxl_TF_87_197_91 (Nat.le_of_ble_eq_true rfl) (Nat.le_of_ble_eq_true rfl) ⟨Nat.le_of_ble_eq_true rfl, Nat.le_of_ble_eq_true rfl⟩ (Or.inr ⟨_, _, rfl, rfl, by omega, by omega⟩)
      · refine zz_iload_n (x := p1) rfl zd_1_17_33 ?_
        refine zz_iconst zd_1_17_34 ?_
        refine zz_icmp_le (by omega) (by omega) zd_1_17_35 (fun c9 => ?_) (fun c9 => ?_)
        · refine zz_iload_n (x := p1) rfl zd_1_17_48 ?_
          refine zz_if_ne (by omega) zd_1_17_49 (fun c10 => ?_) (fun c10 => ?_)
          · refine zz_iload_n (x := p1) rfl zd_1_17_65 ?_
            refine zz_iconst zd_1_17_66 ?_
            refine zz_icmp_ne (by omega) (by omega) zd_1_17_67 (fun c11 => ?_) (fun c11 => ?_)
            · refine zz_aload_n (x := 1000) rfl zd_1_17_82 ?_
              refine zz_getr (kd := 0) (z := 1042) zd_1_17_83 zf_TF_42 zT_1000 rfl (zz_ltn hn rfl) (zz_G.eq G_S0 1000 1 1042 rfl rfl) (by decide) 1042 rfl ?_
              refine zz_getr (kd := 0) (z := 1046) zd_1_17_86 zf_TF_207 zT_1042 rfl (zz_ltn hn rfl) (zz_G.eq G_S0 1042 4 1046 rfl rfl) (by decide) 1046 rfl ?_
              refine zz_iload_n (x := p0) rfl zd_1_17_89 ?_
              have g12 := zz_G.r G_S0 1046 p0.toNat (-2147483648) 2147483647 rfl rfl
              refine zz_iald (z := S0 1046 p0.toNat) zd_1_17_90 zT_1046 rfl (zz_ltn hn rfl) (by decide) (by omega) rfl ?_
              exact zz_iret zd_1_17_91 rfl (Nat.le_of_ble_eq_true rfl) (Nat.le_of_ble_eq_true rfl) (Or.inl ⟨_, _, rfl, rfl, by omega⟩)
            · refine zz_aload_n (x := 1000) rfl zd_1_17_70 ?_
              refine zz_getr (kd := 0) (z := 1042) zd_1_17_71 zf_TF_42 zT_1000 rfl (zz_ltn hn rfl) (zz_G.eq G_S0 1000 1 1042 rfl rfl) (by decide) 1042 rfl ?_
              refine zz_getr (kd := 0) (z := 1045) zd_1_17_74 zf_TF_204 zT_1042 rfl (zz_ltn hn rfl) (zz_G.eq G_S0 1042 3 1045 rfl rfl) (by decide) 1045 rfl ?_
              refine zz_iload_n (x := p0) rfl zd_1_17_77 ?_
              have g13 := zz_G.r G_S0 1045 p0.toNat (-2147483648) 2147483647 rfl rfl
              refine zz_iald (z := S0 1045 p0.toNat) zd_1_17_78 zT_1045 rfl (zz_ltn hn rfl) (by decide) (by omega) rfl ?_
              refine zz_goto zd_1_17_79 ?_
              exact zz_iret zd_1_17_91 rfl (Nat.le_of_ble_eq_true rfl) (Nat.le_of_ble_eq_true rfl) (Or.inl ⟨_, _, rfl, rfl, by omega⟩)
          · refine zz_aload_n (x := 1000) rfl zd_1_17_52 ?_
            refine zz_getr (kd := 0) (z := 1042) zd_1_17_53 zf_TF_42 zT_1000 rfl (zz_ltn hn rfl) (zz_G.eq G_S0 1000 1 1042 rfl rfl) (by decide) 1042 rfl ?_
            refine zz_getr (kd := 0) (z := 1044) zd_1_17_56 zf_TF_199 zT_1042 rfl (zz_ltn hn rfl) (zz_G.eq G_S0 1042 2 1044 rfl rfl) (by decide) 1044 rfl ?_
            refine zz_iload_n (x := p0) rfl zd_1_17_59 ?_
            have g14 := zz_G.r G_S0 1044 p0.toNat (-9223372036854775808) 9223372036854775807 rfl rfl
            refine zz_lald (z := S0 1044 p0.toNat) zd_1_17_60 zT_1044 rfl (zz_ltn hn rfl) (by decide) (by omega) rfl ?_
            refine zz_callSI [zl (S0 1044 p0.toNat)] zd_1_17_61 zk_TF_200 rfl rfl ⟨Nat.le_of_ble_eq_true rfl, Nat.le_of_ble_eq_true rfl⟩ ⟨rfl, rfl⟩ (Nat.le_of_ble_eq_true rfl) (Nat.le_of_ble_eq_true rfl) (zc_unitOf_12_10 (S0 1044 p0.toNat) S0 n hn G_S0 (by omega)) (fun v16 S15 hP => ?_)
            obtain ⟨rfl, o17, o18⟩ := hP
            exact zz_iret zd_1_17_64 rfl (Nat.le_of_ble_eq_true rfl) (Nat.le_of_ble_eq_true rfl) (Or.inl ⟨_, _, rfl, rfl, by omega⟩)
        · exact zz_throw (i := 0) hfl hn zt_1_17_38 zyw_instruction_1_17 zxl_TF_87_197_91 (Nat.le_of_ble_eq_true rfl) (Nat.le_of_ble_eq_true rfl) ⟨Nat.le_of_ble_eq_true rfl, Nat.le_of_ble_eq_true rfl⟩ (Or.inr ⟨_, _, rfl, rfl, by omega, by omega⟩)
    · exact zz_throw (i := 1) hfl hn zt_1_17_19 zyw_instruction_1_17 zxl_TF_101_195_105 (Nat.le_of_ble_eq_true rfl) (Nat.le_of_ble_eq_true rfl) ⟨Nat.le_of_ble_eq_true rfl, Nat.le_of_ble_eq_true rfl⟩ (Or.inr ⟨_, _, rfl, rfl, by omega, by omega⟩)
abbrev zy_input_1_18 : mm_Y := (⟨"TensorForge", "input", "(III)V"⟩, prog_1_method_18_code, 4, none)
theorem zyw_input_1_18 : mm_Yw zy_input_1_18 3 := ⟨mm_tb_1 1349 (by decide +kernel) rfl, mm_tb_1 1 (by decide +kernel) rfl, ⟨by decide, by decide⟩, by decide +kernel⟩
abbrev zy_inputFits_7_2 : mm_Y := (⟨"TensorForge$Network", "inputFits", "(III)Z"⟩, prog_7_method_2_code, 3, (some .boolean))
theorem zyw_inputFits_7_2 : mm_Yw zy_inputFits_7_2 3 := ⟨mm_tb_1 1024 (by decide +kernel) rfl, mm_tb_1 2 (by decide +kernel) rfl, ⟨by decide, by decide⟩, by decide +kernel⟩
abbrev zy_isWithin_4_9 : mm_Y := (⟨"TensorForge$Layer", "isWithin", "(III)Z"⟩, prog_4_method_9_code, 3, (some .boolean))
theorem zyw_isWithin_4_9 : mm_Yw zy_isWithin_4_9 3 := ⟨mm_tb_1 1000 (by decide +kernel) rfl, mm_tb_1 3 (by decide +kernel) rfl, ⟨by decide, by decide⟩, by decide +kernel⟩
theorem zg_1_18_0 : zq_at zy_input_1_18.2.1 0 27 ∧ zq_at zy_input_1_18.2.1 1 28 ∧ zq_at zy_input_1_18.2.1 2 29 ∧ zq_at zy_input_1_18.2.1 3 184 ∧ zq_at zy_input_1_18.2.1 4 0 ∧ zq_at zy_input_1_18.2.1 5 210 := by decide +kernel
theorem zd_1_18_0 : zz_D zy_input_1_18 0 (.iload_n 1) 1 1 := ⟨zq_27 zg_1_18_0.1, rfl⟩
theorem zd_1_18_1 : zz_D zy_input_1_18 1 (.iload_n 2) 1 2 := ⟨zq_28 zg_1_18_0.2.1, rfl⟩
theorem zd_1_18_2 : zz_D zy_input_1_18 2 (.iload_n 3) 1 3 := ⟨zq_29 zg_1_18_0.2.2.1, rfl⟩
theorem zd_1_18_3 : zz_D zy_input_1_18 3 (.invokestatic 210) 3 6 := ⟨zq_184 zg_1_18_0.2.2.2.1 zg_1_18_0.2.2.2.2.1 zg_1_18_0.2.2.2.2.2 rfl, rfl⟩
theorem zg_7_2_0 : zq_at zy_inputFits_7_2.2.1 0 26 ∧ zq_at zy_inputFits_7_2.2.1 1 4 ∧ zq_at zy_inputFits_7_2.2.1 2 16 ∧ zq_at zy_inputFits_7_2.2.1 3 63 ∧ zq_at zy_inputFits_7_2.2.1 4 184 ∧ zq_at zy_inputFits_7_2.2.1 5 0 ∧ zq_at zy_inputFits_7_2.2.1 6 20 := by decide +kernel
theorem zd_7_2_0 : zz_D zy_inputFits_7_2 0 (.iload_n 0) 1 1 := ⟨zq_26 zg_7_2_0.1, rfl⟩
theorem zd_7_2_1 : zz_D zy_inputFits_7_2 1 (.iconst 1) 1 2 := ⟨zq_4 zg_7_2_0.2.1, rfl⟩
theorem zd_7_2_2 : zz_D zy_inputFits_7_2 2 (.bipush 63) 2 4 := ⟨zq_16 zg_7_2_0.2.2.1 zg_7_2_0.2.2.2.1 (by decide), rfl⟩
theorem zd_7_2_4 : zz_D zy_inputFits_7_2 4 (.invokestatic 20) 3 7 := ⟨zq_184 zg_7_2_0.2.2.2.2.1 zg_7_2_0.2.2.2.2.2.1 zg_7_2_0.2.2.2.2.2.2 rfl, rfl⟩
theorem zg_4_9_0 : zq_at zy_isWithin_4_9.2.1 0 26 ∧ zq_at zy_isWithin_4_9.2.1 1 27 ∧ zq_at zy_isWithin_4_9.2.1 2 161 ∧ zq_at zy_isWithin_4_9.2.1 3 0 ∧ zq_at zy_isWithin_4_9.2.1 4 12 ∧ zq_at zy_isWithin_4_9.2.1 14 3 ∧ zq_at zy_isWithin_4_9.2.1 15 172 ∧ zq_at zy_isWithin_4_9.2.1 5 26 ∧ zq_at zy_isWithin_4_9.2.1 6 28 ∧ zq_at zy_isWithin_4_9.2.1 7 163 ∧ zq_at zy_isWithin_4_9.2.1 8 0 ∧ zq_at zy_isWithin_4_9.2.1 9 7 ∧ zq_at zy_isWithin_4_9.2.1 10 4 ∧ zq_at zy_isWithin_4_9.2.1 11 167 ∧ zq_at zy_isWithin_4_9.2.1 12 0 ∧ zq_at zy_isWithin_4_9.2.1 13 4 := by decide +kernel
theorem zd_4_9_0 : zz_D zy_isWithin_4_9 0 (.iload_n 0) 1 1 := ⟨zq_26 zg_4_9_0.1, rfl⟩
theorem zd_4_9_1 : zz_D zy_isWithin_4_9 1 (.iload_n 1) 1 2 := ⟨zq_27 zg_4_9_0.2.1, rfl⟩
theorem zd_4_9_2 : zz_B zy_isWithin_4_9 2 (Instr.if_icmp .lt) 14 5 := ⟨12, zq_161 zg_4_9_0.2.2.1 zg_4_9_0.2.2.2.1 zg_4_9_0.2.2.2.2.1 (by decide), rfl, rfl⟩
theorem zd_4_9_14 : zz_D zy_isWithin_4_9 14 (.iconst 0) 1 15 := ⟨zq_3 zg_4_9_0.2.2.2.2.2.1, rfl⟩
theorem zd_4_9_15 : zz_D zy_isWithin_4_9 15 (.ireturn) 1 16 := ⟨zq_172 zg_4_9_0.2.2.2.2.2.2.1, rfl⟩
theorem zd_4_9_5 : zz_D zy_isWithin_4_9 5 (.iload_n 0) 1 6 := ⟨zq_26 zg_4_9_0.2.2.2.2.2.2.2.1, rfl⟩
theorem zd_4_9_6 : zz_D zy_isWithin_4_9 6 (.iload_n 2) 1 7 := ⟨zq_28 zg_4_9_0.2.2.2.2.2.2.2.2.1, rfl⟩
theorem zd_4_9_7 : zz_B zy_isWithin_4_9 7 (Instr.if_icmp .gt) 14 10 := ⟨7, zq_163 zg_4_9_0.2.2.2.2.2.2.2.2.2.1 zg_4_9_0.2.2.2.2.2.2.2.2.2.2.1 zg_4_9_0.2.2.2.2.2.2.2.2.2.2.2.1 (by decide), rfl, rfl⟩
theorem zd_4_9_10 : zz_D zy_isWithin_4_9 10 (.iconst 1) 1 11 := ⟨zq_4 zg_4_9_0.2.2.2.2.2.2.2.2.2.2.2.2.1, rfl⟩
theorem zd_4_9_11 : zz_B zy_isWithin_4_9 11 Instr.goto 15 14 := ⟨4, zq_167 zg_4_9_0.2.2.2.2.2.2.2.2.2.2.2.2.2.1 zg_4_9_0.2.2.2.2.2.2.2.2.2.2.2.2.2.2.1 zg_4_9_0.2.2.2.2.2.2.2.2.2.2.2.2.2.2.2 (by decide), rfl, rfl⟩
-- TensorForge$Layer isWithin (III)Z
abbrev zr_isWithin_4_9 : Room := { frames := 0, cells := 0, slots := 0, locals := 0 }
def zp_isWithin_4_9 (p0 : Int) (p1 : Int) (p2 : Int) (S0 : zz_S) : Int → zz_S → Prop := fun r S => S0 = S ∧ (0 ≤ r ∧ r ≤ 1) ∧ ((r = 1 ∧ p1 ≤ p0 ∧ p0 ≤ p2) ∨ (r = 0 ∧ (p0 < p1 ∨ p2 < p0)))
theorem zc_isWithin_4_9 {g : mm_G} {l : Launch} (p0 : Int) (p1 : Int) (p2 : Int) (S0 : zz_S) (n : Nat) (hn : zz_end ≤ n) (G_S0 : zz_G S0) (hp0 : (-2147483648) ≤ p0 ∧ p0 ≤ 2147483647) (hp1 : (-2147483648) ≤ p1 ∧ p1 ≤ 2147483647) (hp2 : (-2147483648) ≤ p2 ∧ p2 ≤ 2147483647) : mm_Met g l zy_isWithin_4_9 zr_isWithin_4_9 [zi p0, zi p1, zi p2] (zz_M S0 n) n (zz_QI n (zp_isWithin_4_9 p0 p1 p2 S0)) := by
  refine zz_enter (by decide) (Nat.le_of_ble_eq_true rfl) (zz_less (ls1 := [some (zi p0), some (zi p1), some (zi p2)]) ⟨rfl, ⟨rfl, ⟨rfl, trivial⟩⟩⟩ ?_)
  refine zz_iload_n (x := p0) rfl zd_4_9_0 ?_
  refine zz_iload_n (x := p1) rfl zd_4_9_1 ?_
  refine zz_icmp_lt (by omega) (by omega) zd_4_9_2 (fun c1 => ?_) (fun c1 => ?_)
  · refine zz_iconst zd_4_9_14 ?_
    exact zz_zret zd_4_9_15 rfl (by omega) (Nat.zero_le _) (Nat.zero_le _) ⟨_, _, rfl, rfl, by omega, by omega⟩
  · refine zz_iload_n (x := p0) rfl zd_4_9_5 ?_
    refine zz_iload_n (x := p2) rfl zd_4_9_6 ?_
    refine zz_icmp_gt (by omega) (by omega) zd_4_9_7 (fun c2 => ?_) (fun c2 => ?_)
    · refine zz_iconst zd_4_9_14 ?_
      exact zz_zret zd_4_9_15 rfl (by omega) (Nat.zero_le _) (Nat.zero_le _) ⟨_, _, rfl, rfl, by omega, by omega⟩
    · refine zz_iconst zd_4_9_10 ?_
      refine zz_goto zd_4_9_11 ?_
      exact zz_zret zd_4_9_15 rfl (by omega) (Nat.zero_le _) (Nat.zero_le _) ⟨_, _, rfl, rfl, by omega, by omega⟩
theorem zk_Network_20 : mm_Sl "TensorForge$Network" 20 3 zy_isWithin_4_9 := ⟨zyw_isWithin_4_9, mm_tb_1 1025 (by decide +kernel) rfl, mm_tb_1 999 (by decide +kernel) rfl⟩
theorem zg_7_2_7 : zq_at zy_inputFits_7_2.2.1 7 153 ∧ zq_at zy_inputFits_7_2.2.1 8 0 ∧ zq_at zy_inputFits_7_2.2.1 9 38 ∧ zq_at zy_inputFits_7_2.2.1 45 3 ∧ zq_at zy_inputFits_7_2.2.1 46 172 ∧ zq_at zy_inputFits_7_2.2.1 10 27 ∧ zq_at zy_inputFits_7_2.2.1 11 4 ∧ zq_at zy_inputFits_7_2.2.1 12 16 ∧ zq_at zy_inputFits_7_2.2.1 13 63 ∧ zq_at zy_inputFits_7_2.2.1 14 184 ∧ zq_at zy_inputFits_7_2.2.1 15 0 ∧ zq_at zy_inputFits_7_2.2.1 16 20 ∧ zq_at zy_inputFits_7_2.2.1 17 153 ∧ zq_at zy_inputFits_7_2.2.1 18 0 ∧ zq_at zy_inputFits_7_2.2.1 19 28 ∧ zq_at zy_inputFits_7_2.2.1 20 28 ∧ zq_at zy_inputFits_7_2.2.1 21 4 ∧ zq_at zy_inputFits_7_2.2.1 22 16 ∧ zq_at zy_inputFits_7_2.2.1 23 63 ∧ zq_at zy_inputFits_7_2.2.1 24 184 ∧ zq_at zy_inputFits_7_2.2.1 25 0 ∧ zq_at zy_inputFits_7_2.2.1 26 20 := by decide +kernel
theorem zd_7_2_7 : zz_B zy_inputFits_7_2 7 (Instr.ifCond .eq) 45 10 := ⟨38, zq_153 zg_7_2_7.1 zg_7_2_7.2.1 zg_7_2_7.2.2.1 (by decide), rfl, rfl⟩
theorem zd_7_2_45 : zz_D zy_inputFits_7_2 45 (.iconst 0) 1 46 := ⟨zq_3 zg_7_2_7.2.2.2.1, rfl⟩
theorem zd_7_2_46 : zz_D zy_inputFits_7_2 46 (.ireturn) 1 47 := ⟨zq_172 zg_7_2_7.2.2.2.2.1, rfl⟩
theorem zd_7_2_10 : zz_D zy_inputFits_7_2 10 (.iload_n 1) 1 11 := ⟨zq_27 zg_7_2_7.2.2.2.2.2.1, rfl⟩
theorem zd_7_2_11 : zz_D zy_inputFits_7_2 11 (.iconst 1) 1 12 := ⟨zq_4 zg_7_2_7.2.2.2.2.2.2.1, rfl⟩
theorem zd_7_2_12 : zz_D zy_inputFits_7_2 12 (.bipush 63) 2 14 := ⟨zq_16 zg_7_2_7.2.2.2.2.2.2.2.1 zg_7_2_7.2.2.2.2.2.2.2.2.1 (by decide), rfl⟩
theorem zd_7_2_14 : zz_D zy_inputFits_7_2 14 (.invokestatic 20) 3 17 := ⟨zq_184 zg_7_2_7.2.2.2.2.2.2.2.2.2.1 zg_7_2_7.2.2.2.2.2.2.2.2.2.2.1 zg_7_2_7.2.2.2.2.2.2.2.2.2.2.2.1 rfl, rfl⟩
theorem zd_7_2_17 : zz_B zy_inputFits_7_2 17 (Instr.ifCond .eq) 45 20 := ⟨28, zq_153 zg_7_2_7.2.2.2.2.2.2.2.2.2.2.2.2.1 zg_7_2_7.2.2.2.2.2.2.2.2.2.2.2.2.2.1 zg_7_2_7.2.2.2.2.2.2.2.2.2.2.2.2.2.2.1 (by decide), rfl, rfl⟩
theorem zd_7_2_20 : zz_D zy_inputFits_7_2 20 (.iload_n 2) 1 21 := ⟨zq_28 zg_7_2_7.2.2.2.2.2.2.2.2.2.2.2.2.2.2.2.1, rfl⟩
theorem zd_7_2_21 : zz_D zy_inputFits_7_2 21 (.iconst 1) 1 22 := ⟨zq_4 zg_7_2_7.2.2.2.2.2.2.2.2.2.2.2.2.2.2.2.2.1, rfl⟩
theorem zd_7_2_22 : zz_D zy_inputFits_7_2 22 (.bipush 63) 2 24 := ⟨zq_16 zg_7_2_7.2.2.2.2.2.2.2.2.2.2.2.2.2.2.2.2.2.1 zg_7_2_7.2.2.2.2.2.2.2.2.2.2.2.2.2.2.2.2.2.2.1 (by decide), rfl⟩
theorem zd_7_2_24 : zz_D zy_inputFits_7_2 24 (.invokestatic 20) 3 27 := ⟨zq_184 zg_7_2_7.2.2.2.2.2.2.2.2.2.2.2.2.2.2.2.2.2.2.2.1 zg_7_2_7.2.2.2.2.2.2.2.2.2.2.2.2.2.2.2.2.2.2.2.2.1 zg_7_2_7.2.2.2.2.2.2.2.2.2.2.2.2.2.2.2.2.2.2.2.2.2 rfl, rfl⟩
theorem zg_7_2_27 : zq_at zy_inputFits_7_2.2.1 27 153 ∧ zq_at zy_inputFits_7_2.2.1 28 0 ∧ zq_at zy_inputFits_7_2.2.1 29 18 ∧ zq_at zy_inputFits_7_2.2.1 30 26 ∧ zq_at zy_inputFits_7_2.2.1 31 27 ∧ zq_at zy_inputFits_7_2.2.1 32 104 ∧ zq_at zy_inputFits_7_2.2.1 33 28 ∧ zq_at zy_inputFits_7_2.2.1 34 104 ∧ zq_at zy_inputFits_7_2.2.1 35 17 ∧ zq_at zy_inputFits_7_2.2.1 36 8 ∧ zq_at zy_inputFits_7_2.2.1 37 0 ∧ zq_at zy_inputFits_7_2.2.1 38 163 ∧ zq_at zy_inputFits_7_2.2.1 39 0 ∧ zq_at zy_inputFits_7_2.2.1 40 7 ∧ zq_at zy_inputFits_7_2.2.1 41 4 ∧ zq_at zy_inputFits_7_2.2.1 42 167 ∧ zq_at zy_inputFits_7_2.2.1 43 0 ∧ zq_at zy_inputFits_7_2.2.1 44 4 := by decide +kernel
theorem zd_7_2_27 : zz_B zy_inputFits_7_2 27 (Instr.ifCond .eq) 45 30 := ⟨18, zq_153 zg_7_2_27.1 zg_7_2_27.2.1 zg_7_2_27.2.2.1 (by decide), rfl, rfl⟩
theorem zd_7_2_30 : zz_D zy_inputFits_7_2 30 (.iload_n 0) 1 31 := ⟨zq_26 zg_7_2_27.2.2.2.1, rfl⟩
theorem zd_7_2_31 : zz_D zy_inputFits_7_2 31 (.iload_n 1) 1 32 := ⟨zq_27 zg_7_2_27.2.2.2.2.1, rfl⟩
theorem zd_7_2_32 : zz_D zy_inputFits_7_2 32 (.imul) 1 33 := ⟨zq_104 zg_7_2_27.2.2.2.2.2.1, rfl⟩
theorem zd_7_2_33 : zz_D zy_inputFits_7_2 33 (.iload_n 2) 1 34 := ⟨zq_28 zg_7_2_27.2.2.2.2.2.2.1, rfl⟩
theorem zd_7_2_34 : zz_D zy_inputFits_7_2 34 (.imul) 1 35 := ⟨zq_104 zg_7_2_27.2.2.2.2.2.2.2.1, rfl⟩
theorem zd_7_2_35 : zz_D zy_inputFits_7_2 35 (.sipush 2048) 3 38 := ⟨zq_17 zg_7_2_27.2.2.2.2.2.2.2.2.1 zg_7_2_27.2.2.2.2.2.2.2.2.2.1 zg_7_2_27.2.2.2.2.2.2.2.2.2.2.1 (by decide), rfl⟩
theorem zd_7_2_38 : zz_B zy_inputFits_7_2 38 (Instr.if_icmp .gt) 45 41 := ⟨7, zq_163 zg_7_2_27.2.2.2.2.2.2.2.2.2.2.2.1 zg_7_2_27.2.2.2.2.2.2.2.2.2.2.2.2.1 zg_7_2_27.2.2.2.2.2.2.2.2.2.2.2.2.2.1 (by decide), rfl, rfl⟩
theorem zd_7_2_41 : zz_D zy_inputFits_7_2 41 (.iconst 1) 1 42 := ⟨zq_4 zg_7_2_27.2.2.2.2.2.2.2.2.2.2.2.2.2.2.1, rfl⟩
theorem zd_7_2_42 : zz_B zy_inputFits_7_2 42 Instr.goto 46 45 := ⟨4, zq_167 zg_7_2_27.2.2.2.2.2.2.2.2.2.2.2.2.2.2.2.1 zg_7_2_27.2.2.2.2.2.2.2.2.2.2.2.2.2.2.2.2.1 zg_7_2_27.2.2.2.2.2.2.2.2.2.2.2.2.2.2.2.2.2 (by decide), rfl, rfl⟩
-- TensorForge$Network inputFits (III)Z
abbrev zr_inputFits_7_2 : Room := { frames := 1, cells := 0, slots := 0, locals := 14 }
def zp_inputFits_7_2 (p0 : Int) (p1 : Int) (p2 : Int) (S0 : zz_S) : Int → zz_S → Prop := fun r S => S0 = S ∧ (0 ≤ r ∧ r ≤ 1) ∧ ((r = 1 ∧ 1 ≤ p0 ∧ p0 ≤ 63 ∧ 1 ≤ p1 ∧ p1 ≤ 63 ∧ 1 ≤ p2 ∧ p2 ≤ 63 ∧ (p0 * p1) * p2 ≤ 2048) ∨ (r = 0 ∧ (p0 < 1 ∨ 63 < p0 ∨ p1 < 1 ∨ 63 < p1 ∨ p2 < 1 ∨ 63 < p2 ∨ 2048 < (p0 * p1) * p2)))
theorem zc_inputFits_7_2 {g : mm_G} {l : Launch} (p0 : Int) (p1 : Int) (p2 : Int) (S0 : zz_S) (n : Nat) (hn : zz_end ≤ n) (G_S0 : zz_G S0) (hp0 : (-2147483648) ≤ p0 ∧ p0 ≤ 2147483647) (hp1 : (-2147483648) ≤ p1 ∧ p1 ≤ 2147483647) (hp2 : (-2147483648) ≤ p2 ∧ p2 ≤ 2147483647) : mm_Met g l zy_inputFits_7_2 zr_inputFits_7_2 [zi p0, zi p1, zi p2] (zz_M S0 n) n (zz_QI n (zp_inputFits_7_2 p0 p1 p2 S0)) := by
  refine zz_enter (by decide) (Nat.le_of_ble_eq_true rfl) (zz_less (ls1 := [some (zi p0), some (zi p1), some (zi p2)]) ⟨rfl, ⟨rfl, ⟨rfl, trivial⟩⟩⟩ ?_)
  refine zz_iload_n (x := p0) rfl zd_7_2_0 ?_
  refine zz_iconst zd_7_2_1 ?_
  refine zz_bipush (by decide) zd_7_2_2 ?_
  refine zz_callSI [zi p0, zi 1, zi 63] zd_7_2_4 zk_Network_20 rfl rfl ⟨Nat.le_of_ble_eq_true rfl, Nat.le_of_ble_eq_true rfl⟩ ⟨rfl, rfl⟩ (Nat.zero_le _) (Nat.zero_le _) (zc_isWithin_4_9 p0 1 63 S0 n hn G_S0 (by omega) (by omega) (by omega)) (fun v2 S1 hP => ?_)
  obtain ⟨rfl, o3, o4⟩ := hP
  rcases (by omega : v2 = 0 ∨ v2 = 1) with rfl | rfl
  · refine zz_if_eq (by omega) zd_7_2_7 (fun c5 => ?_) (fun c5 => ?_)
    · refine zz_iconst zd_7_2_45 ?_
      exact zz_zret zd_7_2_46 rfl (by omega) (Nat.zero_le _) (Nat.zero_le _) ⟨_, _, rfl, rfl, by omega, by omega⟩
    · exfalso; omega
  · refine zz_if_eq (by omega) zd_7_2_7 (fun c6 => ?_) (fun c6 => ?_)
    · exfalso; omega
    · refine zz_iload_n (x := p1) rfl zd_7_2_10 ?_
      refine zz_iconst zd_7_2_11 ?_
      refine zz_bipush (by decide) zd_7_2_12 ?_
      refine zz_callSI [zi p1, zi 1, zi 63] zd_7_2_14 zk_Network_20 rfl rfl ⟨Nat.le_of_ble_eq_true rfl, Nat.le_of_ble_eq_true rfl⟩ ⟨rfl, rfl⟩ (Nat.zero_le _) (Nat.zero_le _) (zc_isWithin_4_9 p1 1 63 S0 n hn G_S0 (by omega) (by omega) (by omega)) (fun v8 S7 hP => ?_)
      obtain ⟨rfl, o9, o10⟩ := hP
      rcases (by omega : v8 = 0 ∨ v8 = 1) with rfl | rfl
      · refine zz_if_eq (by omega) zd_7_2_17 (fun c11 => ?_) (fun c11 => ?_)
        · refine zz_iconst zd_7_2_45 ?_
          exact zz_zret zd_7_2_46 rfl (by omega) (Nat.zero_le _) (Nat.zero_le _) ⟨_, _, rfl, rfl, by omega, by omega⟩
        · exfalso; omega
      · refine zz_if_eq (by omega) zd_7_2_17 (fun c12 => ?_) (fun c12 => ?_)
        · exfalso; omega
        · refine zz_iload_n (x := p2) rfl zd_7_2_20 ?_
          refine zz_iconst zd_7_2_21 ?_
          refine zz_bipush (by decide) zd_7_2_22 ?_
          refine zz_callSI [zi p2, zi 1, zi 63] zd_7_2_24 zk_Network_20 rfl rfl ⟨Nat.le_of_ble_eq_true rfl, Nat.le_of_ble_eq_true rfl⟩ ⟨rfl, rfl⟩ (Nat.zero_le _) (Nat.zero_le _) (zc_isWithin_4_9 p2 1 63 S0 n hn G_S0 (by omega) (by omega) (by omega)) (fun v14 S13 hP => ?_)
          obtain ⟨rfl, o15, o16⟩ := hP
          rcases (by omega : v14 = 0 ∨ v14 = 1) with rfl | rfl
          · refine zz_if_eq (by omega) zd_7_2_27 (fun c17 => ?_) (fun c17 => ?_)
            · refine zz_iconst zd_7_2_45 ?_
              exact zz_zret zd_7_2_46 rfl (by omega) (Nat.zero_le _) (Nat.zero_le _) ⟨_, _, rfl, rfl, by omega, by omega⟩
            · exfalso; omega
          · refine zz_if_eq (by omega) zd_7_2_27 (fun c18 => ?_) (fun c18 => ?_)
            · exfalso; omega
            · skip
              refine zz_iload_n (x := p0) rfl zd_7_2_30 ?_
              refine zz_iload_n (x := p1) rfl zd_7_2_31 ?_
              refine zz_imul zd_7_2_32 ?_
              have m19 := zz_mulb (a := p0) (b := p1) 63 63 3969 (by omega) (by omega) (by decide)
              refine zz_iload_n (x := p2) rfl zd_7_2_33 ?_
              refine zz_imul zd_7_2_34 ?_
              have m20 := zz_mulb (a := p0 * p1) (b := p2) 3969 63 250047 (by omega) (by omega) (by decide)
              refine zz_sipush (by decide) zd_7_2_35 ?_
              refine zz_icmp_gt (by omega) (by omega) zd_7_2_38 (fun c21 => ?_) (fun c21 => ?_)
              · refine zz_iconst zd_7_2_45 ?_
                exact zz_zret zd_7_2_46 rfl (by omega) (Nat.zero_le _) (Nat.zero_le _) ⟨_, _, rfl, rfl, by omega, by omega⟩
              · refine zz_iconst zd_7_2_41 ?_
                refine zz_goto zd_7_2_42 ?_
                exact zz_zret zd_7_2_46 rfl (by omega) (Nat.zero_le _) (Nat.zero_le _) ⟨_, _, rfl, rfl, by omega, by omega⟩
theorem zk_TF_210 : mm_Sl "TensorForge" 210 3 zy_inputFits_7_2 := ⟨zyw_inputFits_7_2, mm_tb_1 1350 (by decide +kernel) rfl, mm_tb_1 1023 (by decide +kernel) rfl⟩
theorem zt_1_18_9 : zz_Thr zy_input_1_18 9 87 214 91 := ⟨by decide +kernel, by decide +kernel, by decide +kernel, by decide +kernel, by decide +kernel⟩
theorem zxl_TF_87_214_91 : mm_Xl "TensorForge" 87 214 91 0 := ⟨mm_tb_1 1048 (by decide +kernel) rfl, mm_tb_1 1049 (by decide +kernel) rfl, mm_tb_1 16 (by decide +kernel) rfl, ⟨50, by decide +kernel⟩, zxa_TF_91⟩
abbrev zy_beginWith_7_3 : mm_Y := (⟨"TensorForge$Network", "beginWith", "(III)V"⟩, prog_7_method_3_code, 4, none)
theorem zyw_beginWith_7_3 : mm_Yw zy_beginWith_7_3 3 := ⟨mm_tb_1 1029 (by decide +kernel) rfl, mm_tb_1 2 (by decide +kernel) rfl, ⟨by decide, by decide⟩, by decide +kernel⟩
theorem zk_Network_24 : mm_Vl "TensorForge$Network" 24 1 0 zy_dropLayers_7_4 := ⟨zyw_dropLayers_7_4, (R_Network, F_Network, 2), rfl, mm_tb_1 1030 (by decide +kernel) rfl, mm_tb_1 1031 (by decide +kernel) rfl, mm_tb_1 1032 (by decide +kernel) rfl⟩
theorem zg_1_18_6 : zq_at zy_input_1_18.2.1 6 154 ∧ zq_at zy_input_1_18.2.1 7 0 ∧ zq_at zy_input_1_18.2.1 8 13 ∧ zq_at zy_input_1_18.2.1 19 42 ∧ zq_at zy_input_1_18.2.1 20 180 ∧ zq_at zy_input_1_18.2.1 21 0 ∧ zq_at zy_input_1_18.2.1 22 10 ∧ zq_at zy_input_1_18.2.1 23 27 ∧ zq_at zy_input_1_18.2.1 24 28 ∧ zq_at zy_input_1_18.2.1 25 29 ∧ zq_at zy_input_1_18.2.1 26 182 ∧ zq_at zy_input_1_18.2.1 27 0 ∧ zq_at zy_input_1_18.2.1 28 216 := by decide +kernel
theorem zd_1_18_6 : zz_B zy_input_1_18 6 (Instr.ifCond .ne) 19 9 := ⟨13, zq_154 zg_1_18_6.1 zg_1_18_6.2.1 zg_1_18_6.2.2.1 (by decide), rfl, rfl⟩
theorem zd_1_18_19 : zz_D zy_input_1_18 19 (.aload_n 0) 1 20 := ⟨zq_42 zg_1_18_6.2.2.2.1, rfl⟩
theorem zd_1_18_20 : zz_D zy_input_1_18 20 (.getfield 10) 3 23 := ⟨zq_180 zg_1_18_6.2.2.2.2.1 zg_1_18_6.2.2.2.2.2.1 zg_1_18_6.2.2.2.2.2.2.1 rfl, rfl⟩
theorem zd_1_18_23 : zz_D zy_input_1_18 23 (.iload_n 1) 1 24 := ⟨zq_27 zg_1_18_6.2.2.2.2.2.2.2.1, rfl⟩
theorem zd_1_18_24 : zz_D zy_input_1_18 24 (.iload_n 2) 1 25 := ⟨zq_28 zg_1_18_6.2.2.2.2.2.2.2.2.1, rfl⟩
theorem zd_1_18_25 : zz_D zy_input_1_18 25 (.iload_n 3) 1 26 := ⟨zq_29 zg_1_18_6.2.2.2.2.2.2.2.2.2.1, rfl⟩
theorem zd_1_18_26 : zz_D zy_input_1_18 26 (.invokevirtual 216) 3 29 := ⟨zq_182 zg_1_18_6.2.2.2.2.2.2.2.2.2.2.1 zg_1_18_6.2.2.2.2.2.2.2.2.2.2.2.1 zg_1_18_6.2.2.2.2.2.2.2.2.2.2.2.2 rfl, rfl⟩
theorem zg_7_3_0 : zq_at zy_beginWith_7_3.2.1 0 42 ∧ zq_at zy_beginWith_7_3.2.1 1 182 ∧ zq_at zy_beginWith_7_3.2.1 2 0 ∧ zq_at zy_beginWith_7_3.2.1 3 24 ∧ zq_at zy_beginWith_7_3.2.1 4 42 ∧ zq_at zy_beginWith_7_3.2.1 5 180 ∧ zq_at zy_beginWith_7_3.2.1 6 0 ∧ zq_at zy_beginWith_7_3.2.1 7 11 ∧ zq_at zy_beginWith_7_3.2.1 8 3 ∧ zq_at zy_beginWith_7_3.2.1 9 50 ∧ zq_at zy_beginWith_7_3.2.1 10 3 ∧ zq_at zy_beginWith_7_3.2.1 11 3 ∧ zq_at zy_beginWith_7_3.2.1 12 3 ∧ zq_at zy_beginWith_7_3.2.1 13 182 ∧ zq_at zy_beginWith_7_3.2.1 14 0 ∧ zq_at zy_beginWith_7_3.2.1 15 27 := by decide +kernel
theorem zd_7_3_0 : zz_D zy_beginWith_7_3 0 (.aload_n 0) 1 1 := ⟨zq_42 zg_7_3_0.1, rfl⟩
theorem zd_7_3_1 : zz_D zy_beginWith_7_3 1 (.invokevirtual 24) 3 4 := ⟨zq_182 zg_7_3_0.2.1 zg_7_3_0.2.2.1 zg_7_3_0.2.2.2.1 rfl, rfl⟩
theorem zd_7_3_4 : zz_D zy_beginWith_7_3 4 (.aload_n 0) 1 5 := ⟨zq_42 zg_7_3_0.2.2.2.2.1, rfl⟩
theorem zd_7_3_5 : zz_D zy_beginWith_7_3 5 (.getfield 11) 3 8 := ⟨zq_180 zg_7_3_0.2.2.2.2.2.1 zg_7_3_0.2.2.2.2.2.2.1 zg_7_3_0.2.2.2.2.2.2.2.1 rfl, rfl⟩
theorem zd_7_3_8 : zz_D zy_beginWith_7_3 8 (.iconst 0) 1 9 := ⟨zq_3 zg_7_3_0.2.2.2.2.2.2.2.2.1, rfl⟩
theorem zd_7_3_9 : zz_D zy_beginWith_7_3 9 (.aaload) 1 10 := ⟨zq_50 zg_7_3_0.2.2.2.2.2.2.2.2.2.1, rfl⟩
theorem zd_7_3_10 : zz_D zy_beginWith_7_3 10 (.iconst 0) 1 11 := ⟨zq_3 zg_7_3_0.2.2.2.2.2.2.2.2.2.2.1, rfl⟩
theorem zd_7_3_11 : zz_D zy_beginWith_7_3 11 (.iconst 0) 1 12 := ⟨zq_3 zg_7_3_0.2.2.2.2.2.2.2.2.2.2.2.1, rfl⟩
theorem zd_7_3_12 : zz_D zy_beginWith_7_3 12 (.iconst 0) 1 13 := ⟨zq_3 zg_7_3_0.2.2.2.2.2.2.2.2.2.2.2.2.1, rfl⟩
theorem zd_7_3_13 : zz_D zy_beginWith_7_3 13 (.invokevirtual 27) 3 16 := ⟨zq_182 zg_7_3_0.2.2.2.2.2.2.2.2.2.2.2.2.2.1 zg_7_3_0.2.2.2.2.2.2.2.2.2.2.2.2.2.2.1 zg_7_3_0.2.2.2.2.2.2.2.2.2.2.2.2.2.2.2 rfl, rfl⟩
-- TensorForge$Layer takeForm (III)V
abbrev zr_takeForm_4_3 : Room := { frames := 0, cells := 0, slots := 0, locals := 0 }
def zp_takeForm_4_3 (t : Int) (p0 : Int) (p1 : Int) (p2 : Int) (S0 : zz_S) : zz_S → Prop := fun S => zz_G S ∧ zz_fr [] [] (fun a i => (a = zz_rf 6 t ∧ i = 10) ∨ (a = zz_rf 6 t ∧ i = 11) ∨ (a = zz_rf 6 t ∧ i = 12)) S0 S ∧ (S (zz_rf 6 t) 12 = p2) ∧ (S (zz_rf 6 t) 10 = p0 ∧ S (zz_rf 6 t) 11 = p1)
theorem zc_takeForm_4_3 {g : mm_G} {l : Launch} (t : Int) (p0 : Int) (p1 : Int) (p2 : Int) (S0 : zz_S) (n : Nat) (hn : zz_end ≤ n) (G_S0 : zz_G S0) (ht : 0 ≤ t ∧ t ≤ 23) (hp0 : (-2147483648) ≤ p0 ∧ p0 ≤ 2147483647) (hp1 : (-2147483648) ≤ p1 ∧ p1 ≤ 2147483647) (hp2 : (-2147483648) ≤ p2 ∧ p2 ≤ 2147483647) : mm_Met g l zy_takeForm_4_3 zr_takeForm_4_3 [.ref (zz_rf 6 t), zi p0, zi p1, zi p2] (zz_M S0 n) n (zz_QV n (zp_takeForm_4_3 t p0 p1 p2 S0)) := by
  refine zz_enter (by decide) (Nat.le_of_ble_eq_true rfl) (zz_less (ls1 := [some (.ref (zz_rf 6 t)), some (zi p0), some (zi p1), some (zi p2)]) ⟨rfl, ⟨rfl, ⟨rfl, ⟨rfl, trivial⟩⟩⟩⟩ ?_)
  have F_S0 : zz_fr [] [] (fun a i => (a = zz_rf 6 t ∧ i = 10) ∨ (a = zz_rf 6 t ∧ i = 11) ∨ (a = zz_rf 6 t ∧ i = 12)) S0 S0 := zz_fr.refl
  have b_t := zz_rf6 (z := t) (by omega)
  refine zz_aload_n (x := zz_rf 6 t) rfl zd_4_3_0 ?_
  refine zz_iload_n (x := p0) rfl zd_4_3_1 ?_
  refine zz_puti zd_4_3_2 zf_Layer_54 (zT_k6 (by omega)) rfl (zN_k6 hn (by omega)) (fun S1 qS1 => ?_)
  have G_S1 := zz_G.put G_S0 qS1 (-2147483648) 2147483647 (zR_k6_10 (by omega)) (by omega)
  have F_S1 := zz_fr.putv F_S0 qS1 (Or.inl ⟨rfl, rfl⟩)
  refine zz_aload_n (x := zz_rf 6 t) rfl zd_4_3_5 ?_
  refine zz_iload_n (x := p1) rfl zd_4_3_6 ?_
  refine zz_puti zd_4_3_7 zf_Layer_57 (zT_k6 (by omega)) rfl (zN_k6 hn (by omega)) (fun S2 qS2 => ?_)
  have G_S2 := zz_G.put G_S1 qS2 (-2147483648) 2147483647 (zR_k6_11 (by omega)) (by omega)
  have F_S2 := zz_fr.putv F_S1 qS2 (Or.inr (Or.inl ⟨rfl, rfl⟩))
  refine zz_aload_n (x := zz_rf 6 t) rfl zd_4_3_10 ?_
  refine zz_iload_n (x := p2) rfl zd_4_3_11 ?_
  refine zz_puti zd_4_3_12 zf_Layer_60 (zT_k6 (by omega)) rfl (zN_k6 hn (by omega)) (fun S3 qS3 => ?_)
  have G_S3 := zz_G.put G_S2 qS3 (-2147483648) 2147483647 (zR_k6_12 (by omega)) (by omega)
  have F_S3 := zz_fr.putv F_S2 qS3 (Or.inr (Or.inr (⟨rfl, rfl⟩)))
  have e4 : S3 (zz_rf 6 t) 12 = p2 := (zz_rs qS3)
  have e5 : S3 (zz_rf 6 t) 10 = p0 := (zz_ro qS3 (fun h => absurd h.2 (by decide)) (zz_ro qS2 (fun h => absurd h.2 (by decide)) (zz_rs qS1)))
  have e6 : S3 (zz_rf 6 t) 11 = p1 := (zz_ro qS3 (fun h => absurd h.2 (by decide)) (zz_rs qS2))
  exact zz_vret zd_4_3_15 rfl (Nat.zero_le _) (Nat.zero_le _) ⟨_, rfl, G_S3, F_S3, by omega, by omega⟩
-- TensorForge$Layer reset (III)V
abbrev zr_reset_4_2 : Room := { frames := 1, cells := 0, slots := 0, locals := 15 }
def zp_reset_4_2 (t : Int) (p0 : Int) (p1 : Int) (p2 : Int) (S0 : zz_S) : zz_S → Prop := fun S => zz_G S ∧ zz_fr [] [] (fun a i => (a = zz_rf 6 t ∧ i = 0) ∨ (a = zz_rf 6 t ∧ i = 1) ∨ (a = zz_rf 6 t ∧ i = 10) ∨ (a = zz_rf 6 t ∧ i = 11) ∨ (a = zz_rf 6 t ∧ i = 12) ∨ (a = zz_rf 6 t ∧ i = 13) ∨ (a = zz_rf 6 t ∧ i = 14) ∨ (a = zz_rf 6 t ∧ i = 2) ∨ (a = zz_rf 6 t ∧ i = 3) ∨ (a = zz_rf 6 t ∧ i = 4) ∨ (a = zz_rf 6 t ∧ i = 5) ∨ (a = zz_rf 6 t ∧ i = 6) ∨ (a = zz_rf 6 t ∧ i = 7) ∨ (a = zz_rf 6 t ∧ i = 8) ∨ (a = zz_rf 6 t ∧ i = 9)) S0 S ∧ (S (zz_rf 6 t) 0 = p0 ∧ S (zz_rf 6 t) 3 = 1 ∧ S (zz_rf 6 t) 4 = 1 ∧ S (zz_rf 6 t) 12 = 1) ∧ (S (zz_rf 6 t) 1 = p1 ∧ S (zz_rf 6 t) 2 = p2 ∧ S (zz_rf 6 t) 5 = 1 ∧ S (zz_rf 6 t) 6 = 0 ∧ S (zz_rf 6 t) 7 = 0 ∧ S (zz_rf 6 t) 8 = 0 ∧ S (zz_rf 6 t) 9 = 0 ∧ S (zz_rf 6 t) 10 = 1 ∧ S (zz_rf 6 t) 11 = 1 ∧ S (zz_rf 6 t) 13 = 0)
theorem zc_reset_4_2 {g : mm_G} {l : Launch} (t : Int) (p0 : Int) (p1 : Int) (p2 : Int) (S0 : zz_S) (n : Nat) (hn : zz_end ≤ n) (G_S0 : zz_G S0) (ht : 0 ≤ t ∧ t ≤ 23) (hp0 : (-2147483648) ≤ p0 ∧ p0 ≤ 2147483647) (hp1 : (-2147483648) ≤ p1 ∧ p1 ≤ 2147483647) (hp2 : (-2147483648) ≤ p2 ∧ p2 ≤ 2147483647) : mm_Met g l zy_reset_4_2 zr_reset_4_2 [.ref (zz_rf 6 t), zi p0, zi p1, zi p2] (zz_M S0 n) n (zz_QV n (zp_reset_4_2 t p0 p1 p2 S0)) := by
  refine zz_enter (by decide) (Nat.le_of_ble_eq_true rfl) (zz_less (ls1 := [some (.ref (zz_rf 6 t)), some (zi p0), some (zi p1), some (zi p2)]) ⟨rfl, ⟨rfl, ⟨rfl, ⟨rfl, trivial⟩⟩⟩⟩ ?_)
  have F_S0 : zz_fr [] [] (fun a i => (a = zz_rf 6 t ∧ i = 0) ∨ (a = zz_rf 6 t ∧ i = 1) ∨ (a = zz_rf 6 t ∧ i = 10) ∨ (a = zz_rf 6 t ∧ i = 11) ∨ (a = zz_rf 6 t ∧ i = 12) ∨ (a = zz_rf 6 t ∧ i = 13) ∨ (a = zz_rf 6 t ∧ i = 14) ∨ (a = zz_rf 6 t ∧ i = 2) ∨ (a = zz_rf 6 t ∧ i = 3) ∨ (a = zz_rf 6 t ∧ i = 4) ∨ (a = zz_rf 6 t ∧ i = 5) ∨ (a = zz_rf 6 t ∧ i = 6) ∨ (a = zz_rf 6 t ∧ i = 7) ∨ (a = zz_rf 6 t ∧ i = 8) ∨ (a = zz_rf 6 t ∧ i = 9)) S0 S0 := zz_fr.refl
  have b_t := zz_rf6 (z := t) (by omega)
  refine zz_aload_n (x := zz_rf 6 t) rfl zd_4_2_0 ?_
  refine zz_iload_n (x := p0) rfl zd_4_2_1 ?_
  refine zz_puti zd_4_2_2 zf_Layer_13 (zT_k6 (by omega)) rfl (zN_k6 hn (by omega)) (fun S1 qS1 => ?_)
  have G_S1 := zz_G.put G_S0 qS1 (-2147483648) 2147483647 (zR_k6_0 (by omega)) (by omega)
  have F_S1 := zz_fr.putv F_S0 qS1 (Or.inl ⟨rfl, rfl⟩)
  refine zz_aload_n (x := zz_rf 6 t) rfl zd_4_2_5 ?_
  refine zz_iload_n (x := p1) rfl zd_4_2_6 ?_
  refine zz_puti zd_4_2_7 zf_Layer_17 (zT_k6 (by omega)) rfl (zN_k6 hn (by omega)) (fun S2 qS2 => ?_)
  have G_S2 := zz_G.put G_S1 qS2 (-2147483648) 2147483647 (zR_k6_1 (by omega)) (by omega)
  have F_S2 := zz_fr.putv F_S1 qS2 (Or.inr (Or.inl ⟨rfl, rfl⟩))
  refine zz_aload_n (x := zz_rf 6 t) rfl zd_4_2_10 ?_
  refine zz_iload_n (x := p2) rfl zd_4_2_11 ?_
  refine zz_puti zd_4_2_12 zf_Layer_20 (zT_k6 (by omega)) rfl (zN_k6 hn (by omega)) (fun S3 qS3 => ?_)
  have G_S3 := zz_G.put G_S2 qS3 (-2147483648) 2147483647 (zR_k6_2 (by omega)) (by omega)
  have F_S3 := zz_fr.putv F_S2 qS3 (Or.inr (Or.inr (Or.inr (Or.inr (Or.inr (Or.inr (Or.inr (Or.inl ⟨rfl, rfl⟩))))))))
  refine zz_aload_n (x := zz_rf 6 t) rfl zd_4_2_15 ?_
  refine zz_iconst zd_4_2_16 ?_
  refine zz_puti zd_4_2_17 zf_Layer_23 (zT_k6 (by omega)) rfl (zN_k6 hn (by omega)) (fun S4 qS4 => ?_)
  have G_S4 := zz_G.put G_S3 qS4 (-2147483648) 2147483647 (zR_k6_3 (by omega)) (by omega)
  have F_S4 := zz_fr.putv F_S3 qS4 (Or.inr (Or.inr (Or.inr (Or.inr (Or.inr (Or.inr (Or.inr (Or.inr (Or.inl ⟨rfl, rfl⟩)))))))))
  refine zz_aload_n (x := zz_rf 6 t) rfl zd_4_2_20 ?_
  refine zz_iconst zd_4_2_21 ?_
  refine zz_puti zd_4_2_22 zf_Layer_26 (zT_k6 (by omega)) rfl (zN_k6 hn (by omega)) (fun S5 qS5 => ?_)
  have G_S5 := zz_G.put G_S4 qS5 (-2147483648) 2147483647 (zR_k6_4 (by omega)) (by omega)
  have F_S5 := zz_fr.putv F_S4 qS5 (Or.inr (Or.inr (Or.inr (Or.inr (Or.inr (Or.inr (Or.inr (Or.inr (Or.inr (Or.inl ⟨rfl, rfl⟩))))))))))
  refine zz_aload_n (x := zz_rf 6 t) rfl zd_4_2_25 ?_
  refine zz_iconst zd_4_2_26 ?_
  refine zz_puti zd_4_2_27 zf_Layer_29 (zT_k6 (by omega)) rfl (zN_k6 hn (by omega)) (fun S6 qS6 => ?_)
  have G_S6 := zz_G.put G_S5 qS6 (-2147483648) 2147483647 (zR_k6_5 (by omega)) (by omega)
  have F_S6 := zz_fr.putv F_S5 qS6 (Or.inr (Or.inr (Or.inr (Or.inr (Or.inr (Or.inr (Or.inr (Or.inr (Or.inr (Or.inr (Or.inl ⟨rfl, rfl⟩)))))))))))
  refine zz_aload_n (x := zz_rf 6 t) rfl zd_4_2_30 ?_
  refine zz_iconst zd_4_2_31 ?_
  refine zz_puti zd_4_2_32 zf_Layer_32 (zT_k6 (by omega)) rfl (zN_k6 hn (by omega)) (fun S7 qS7 => ?_)
  have G_S7 := zz_G.put G_S6 qS7 (-2147483648) 2147483647 (zR_k6_6 (by omega)) (by omega)
  have F_S7 := zz_fr.putv F_S6 qS7 (Or.inr (Or.inr (Or.inr (Or.inr (Or.inr (Or.inr (Or.inr (Or.inr (Or.inr (Or.inr (Or.inr (Or.inl ⟨rfl, rfl⟩))))))))))))
  refine zz_aload_n (x := zz_rf 6 t) rfl zd_4_2_35 ?_
  refine zz_iconst zd_4_2_36 ?_
  refine zz_puti zd_4_2_37 zf_Layer_35 (zT_k6 (by omega)) rfl (zN_k6 hn (by omega)) (fun S8 qS8 => ?_)
  have G_S8 := zz_G.put G_S7 qS8 (-2147483648) 2147483647 (zR_k6_7 (by omega)) (by omega)
  have F_S8 := zz_fr.putv F_S7 qS8 (Or.inr (Or.inr (Or.inr (Or.inr (Or.inr (Or.inr (Or.inr (Or.inr (Or.inr (Or.inr (Or.inr (Or.inr (Or.inl ⟨rfl, rfl⟩)))))))))))))
  refine zz_aload_n (x := zz_rf 6 t) rfl zd_4_2_40 ?_
  refine zz_iconst zd_4_2_41 ?_
  refine zz_putz zd_4_2_42 zf_Layer_38 (zT_k6 (by omega)) rfl (zN_k6 hn (by omega)) (by omega) (fun S9 qS9 => ?_)
  have G_S9 := zz_G.put G_S8 qS9 0 1 (zR_k6_8 (by omega)) (by omega)
  have F_S9 := zz_fr.putv F_S8 qS9 (Or.inr (Or.inr (Or.inr (Or.inr (Or.inr (Or.inr (Or.inr (Or.inr (Or.inr (Or.inr (Or.inr (Or.inr (Or.inr (Or.inl ⟨rfl, rfl⟩))))))))))))))
  refine zz_aload_n (x := zz_rf 6 t) rfl zd_4_2_45 ?_
  refine zz_iconst zd_4_2_46 ?_
  refine zz_puti zd_4_2_47 zf_Layer_42 (zT_k6 (by omega)) rfl (zN_k6 hn (by omega)) (fun S10 qS10 => ?_)
  have G_S10 := zz_G.put G_S9 qS10 (-2147483648) 2147483647 (zR_k6_9 (by omega)) (by omega)
  have F_S10 := zz_fr.putv F_S9 qS10 (Or.inr (Or.inr (Or.inr (Or.inr (Or.inr (Or.inr (Or.inr (Or.inr (Or.inr (Or.inr (Or.inr (Or.inr (Or.inr (Or.inr (⟨rfl, rfl⟩)))))))))))))))
  refine zz_aload_n (x := zz_rf 6 t) rfl zd_4_2_50 ?_
  refine zz_iconst zd_4_2_51 ?_
  refine zz_iconst zd_4_2_52 ?_
  refine zz_iconst zd_4_2_53 ?_
  refine zz_callVV [zi 1, zi 1, zi 1] zd_4_2_54 zk_Layer_45 (zT_k6 (by omega)) (zN_k6 hn (by omega)) rfl rfl ⟨Nat.le_of_ble_eq_true rfl, Nat.le_of_ble_eq_true rfl⟩ ⟨rfl, rfl⟩ (Nat.zero_le _) (Nat.zero_le _) (zc_takeForm_4_3 t 1 1 1 S10 n hn G_S10 (by omega) (by omega) (by omega) (by omega)) (fun S11 hP => ?_)
  obtain ⟨G_S11, fS11, o13, o14⟩ := hP
  have F_S11 := zz_fr.trans F_S10 fS11 rfl (fun a i h => by rcases h with h | h | h; exact Or.inr (Or.inr (Or.inr (Or.inr (Or.inl h)))); exact Or.inr (Or.inr (Or.inr (Or.inr (Or.inr (Or.inl h))))); exact Or.inr (Or.inr (Or.inr (Or.inr (Or.inr (Or.inr (Or.inl h)))))))
  have b15 := zz_rf6 (z := t) (by omega)
  refine zz_aload_n (x := zz_rf 6 t) rfl zd_4_2_57 ?_
  refine zz_iconst zd_4_2_58 ?_
  refine zz_puti zd_4_2_59 zf_Layer_48 (zT_k6 (by omega)) rfl (zN_k6 hn (by omega)) (fun S16 qS16 => ?_)
  have G_S16 := zz_G.put G_S11 qS16 (-2147483648) 2147483647 (zR_k6_13 (by omega)) (by omega)
  have F_S16 := zz_fr.putv F_S11 qS16 (Or.inr (Or.inr (Or.inr (Or.inr (Or.inr (Or.inl ⟨rfl, rfl⟩))))))
  refine zz_aload_n (x := zz_rf 6 t) rfl zd_4_2_62 ?_
  refine zz_iconst zd_4_2_63 ?_
  refine zz_puti zd_4_2_64 zf_Layer_51 (zT_k6 (by omega)) rfl (zN_k6 hn (by omega)) (fun S17 qS17 => ?_)
  have G_S17 := zz_G.put G_S16 qS17 (-2147483648) 2147483647 (zR_k6_14 (by omega)) (by omega)
  have F_S17 := zz_fr.putv F_S16 qS17 (Or.inr (Or.inr (Or.inr (Or.inr (Or.inr (Or.inr (Or.inl ⟨rfl, rfl⟩)))))))
  have e18 : S17 (zz_rf 6 t) 0 = p0 := (zz_ro qS17 (fun h => absurd h.2 (by decide)) (zz_ro qS16 (fun h => absurd h.2 (by decide)) (zz_rc fS11 (zP_k6 (by omega) rfl) (zQ_k6 (by omega) rfl) (by have hz_ := zz_rf6 (z := t) (by omega); omega) (zz_ro qS10 (fun h => absurd h.2 (by decide)) (zz_ro qS9 (fun h => absurd h.2 (by decide)) (zz_ro qS8 (fun h => absurd h.2 (by decide)) (zz_ro qS7 (fun h => absurd h.2 (by decide)) (zz_ro qS6 (fun h => absurd h.2 (by decide)) (zz_ro qS5 (fun h => absurd h.2 (by decide)) (zz_ro qS4 (fun h => absurd h.2 (by decide)) (zz_ro qS3 (fun h => absurd h.2 (by decide)) (zz_ro qS2 (fun h => absurd h.2 (by decide)) (zz_rs qS1)))))))))))))
  have e19 : S17 (zz_rf 6 t) 12 = S11 (zz_rf 6 t) 12 := (zz_ro qS17 (fun h => absurd h.2 (by decide)) (zz_ro qS16 (fun h => absurd h.2 (by decide)) rfl))
  have e20 : S17 (zz_rf 6 t) 3 = 1 := (zz_ro qS17 (fun h => absurd h.2 (by decide)) (zz_ro qS16 (fun h => absurd h.2 (by decide)) (zz_rc fS11 (zP_k6 (by omega) rfl) (zQ_k6 (by omega) rfl) (by have hz_ := zz_rf6 (z := t) (by omega); omega) (zz_ro qS10 (fun h => absurd h.2 (by decide)) (zz_ro qS9 (fun h => absurd h.2 (by decide)) (zz_ro qS8 (fun h => absurd h.2 (by decide)) (zz_ro qS7 (fun h => absurd h.2 (by decide)) (zz_ro qS6 (fun h => absurd h.2 (by decide)) (zz_ro qS5 (fun h => absurd h.2 (by decide)) (zz_rs qS4))))))))))
  have e21 : S17 (zz_rf 6 t) 4 = 1 := (zz_ro qS17 (fun h => absurd h.2 (by decide)) (zz_ro qS16 (fun h => absurd h.2 (by decide)) (zz_rc fS11 (zP_k6 (by omega) rfl) (zQ_k6 (by omega) rfl) (by have hz_ := zz_rf6 (z := t) (by omega); omega) (zz_ro qS10 (fun h => absurd h.2 (by decide)) (zz_ro qS9 (fun h => absurd h.2 (by decide)) (zz_ro qS8 (fun h => absurd h.2 (by decide)) (zz_ro qS7 (fun h => absurd h.2 (by decide)) (zz_ro qS6 (fun h => absurd h.2 (by decide)) (zz_rs qS5)))))))))
  have e22 : S17 (zz_rf 6 t) 1 = p1 := (zz_ro qS17 (fun h => absurd h.2 (by decide)) (zz_ro qS16 (fun h => absurd h.2 (by decide)) (zz_rc fS11 (zP_k6 (by omega) rfl) (zQ_k6 (by omega) rfl) (by have hz_ := zz_rf6 (z := t) (by omega); omega) (zz_ro qS10 (fun h => absurd h.2 (by decide)) (zz_ro qS9 (fun h => absurd h.2 (by decide)) (zz_ro qS8 (fun h => absurd h.2 (by decide)) (zz_ro qS7 (fun h => absurd h.2 (by decide)) (zz_ro qS6 (fun h => absurd h.2 (by decide)) (zz_ro qS5 (fun h => absurd h.2 (by decide)) (zz_ro qS4 (fun h => absurd h.2 (by decide)) (zz_ro qS3 (fun h => absurd h.2 (by decide)) (zz_rs qS2))))))))))))
  have e23 : S17 (zz_rf 6 t) 10 = S11 (zz_rf 6 t) 10 := (zz_ro qS17 (fun h => absurd h.2 (by decide)) (zz_ro qS16 (fun h => absurd h.2 (by decide)) rfl))
  have e24 : S17 (zz_rf 6 t) 11 = S11 (zz_rf 6 t) 11 := (zz_ro qS17 (fun h => absurd h.2 (by decide)) (zz_ro qS16 (fun h => absurd h.2 (by decide)) rfl))
  have e25 : S17 (zz_rf 6 t) 13 = 0 := (zz_ro qS17 (fun h => absurd h.2 (by decide)) (zz_rs qS16))
  have e26 : S17 (zz_rf 6 t) 2 = p2 := (zz_ro qS17 (fun h => absurd h.2 (by decide)) (zz_ro qS16 (fun h => absurd h.2 (by decide)) (zz_rc fS11 (zP_k6 (by omega) rfl) (zQ_k6 (by omega) rfl) (by have hz_ := zz_rf6 (z := t) (by omega); omega) (zz_ro qS10 (fun h => absurd h.2 (by decide)) (zz_ro qS9 (fun h => absurd h.2 (by decide)) (zz_ro qS8 (fun h => absurd h.2 (by decide)) (zz_ro qS7 (fun h => absurd h.2 (by decide)) (zz_ro qS6 (fun h => absurd h.2 (by decide)) (zz_ro qS5 (fun h => absurd h.2 (by decide)) (zz_ro qS4 (fun h => absurd h.2 (by decide)) (zz_rs qS3)))))))))))
  have e27 : S17 (zz_rf 6 t) 5 = 1 := (zz_ro qS17 (fun h => absurd h.2 (by decide)) (zz_ro qS16 (fun h => absurd h.2 (by decide)) (zz_rc fS11 (zP_k6 (by omega) rfl) (zQ_k6 (by omega) rfl) (by have hz_ := zz_rf6 (z := t) (by omega); omega) (zz_ro qS10 (fun h => absurd h.2 (by decide)) (zz_ro qS9 (fun h => absurd h.2 (by decide)) (zz_ro qS8 (fun h => absurd h.2 (by decide)) (zz_ro qS7 (fun h => absurd h.2 (by decide)) (zz_rs qS6))))))))
  have e28 : S17 (zz_rf 6 t) 6 = 0 := (zz_ro qS17 (fun h => absurd h.2 (by decide)) (zz_ro qS16 (fun h => absurd h.2 (by decide)) (zz_rc fS11 (zP_k6 (by omega) rfl) (zQ_k6 (by omega) rfl) (by have hz_ := zz_rf6 (z := t) (by omega); omega) (zz_ro qS10 (fun h => absurd h.2 (by decide)) (zz_ro qS9 (fun h => absurd h.2 (by decide)) (zz_ro qS8 (fun h => absurd h.2 (by decide)) (zz_rs qS7)))))))
  have e29 : S17 (zz_rf 6 t) 7 = 0 := (zz_ro qS17 (fun h => absurd h.2 (by decide)) (zz_ro qS16 (fun h => absurd h.2 (by decide)) (zz_rc fS11 (zP_k6 (by omega) rfl) (zQ_k6 (by omega) rfl) (by have hz_ := zz_rf6 (z := t) (by omega); omega) (zz_ro qS10 (fun h => absurd h.2 (by decide)) (zz_ro qS9 (fun h => absurd h.2 (by decide)) (zz_rs qS8))))))
  have e30 : S17 (zz_rf 6 t) 8 = 0 := (zz_ro qS17 (fun h => absurd h.2 (by decide)) (zz_ro qS16 (fun h => absurd h.2 (by decide)) (zz_rc fS11 (zP_k6 (by omega) rfl) (zQ_k6 (by omega) rfl) (by have hz_ := zz_rf6 (z := t) (by omega); omega) (zz_ro qS10 (fun h => absurd h.2 (by decide)) (zz_rs qS9)))))
  have e31 : S17 (zz_rf 6 t) 9 = 0 := (zz_ro qS17 (fun h => absurd h.2 (by decide)) (zz_ro qS16 (fun h => absurd h.2 (by decide)) (zz_rc fS11 (zP_k6 (by omega) rfl) (zQ_k6 (by omega) rfl) (by have hz_ := zz_rf6 (z := t) (by omega); omega) (zz_rs qS10))))
  exact zz_vret zd_4_2_67 rfl (Nat.zero_le _) (Nat.zero_le _) ⟨_, rfl, G_S17, F_S17, by omega, by omega⟩
theorem zk_Network_27 : mm_Vl "TensorForge$Network" 27 2 3 zy_reset_4_2 := ⟨zyw_reset_4_2, (R_Layer, F_Layer, 15), rfl, mm_tb_1 1034 (by decide +kernel) rfl, mm_tb_1 50 (by decide +kernel) rfl, mm_tb_1 51 (by decide +kernel) rfl⟩
theorem zk_Network_31 : mm_Vl "TensorForge$Network" 31 2 3 zy_takeForm_4_3 := ⟨zyw_takeForm_4_3, (R_Layer, F_Layer, 15), rfl, mm_tb_1 1035 (by decide +kernel) rfl, mm_tb_1 54 (by decide +kernel) rfl, mm_tb_1 55 (by decide +kernel) rfl⟩
theorem zg_7_3_16 : zq_at zy_beginWith_7_3.2.1 16 42 ∧ zq_at zy_beginWith_7_3.2.1 17 180 ∧ zq_at zy_beginWith_7_3.2.1 18 0 ∧ zq_at zy_beginWith_7_3.2.1 19 11 ∧ zq_at zy_beginWith_7_3.2.1 20 3 ∧ zq_at zy_beginWith_7_3.2.1 21 50 ∧ zq_at zy_beginWith_7_3.2.1 22 27 ∧ zq_at zy_beginWith_7_3.2.1 23 28 ∧ zq_at zy_beginWith_7_3.2.1 24 29 ∧ zq_at zy_beginWith_7_3.2.1 25 182 ∧ zq_at zy_beginWith_7_3.2.1 26 0 ∧ zq_at zy_beginWith_7_3.2.1 27 31 ∧ zq_at zy_beginWith_7_3.2.1 28 177 := by decide +kernel
theorem zd_7_3_16 : zz_D zy_beginWith_7_3 16 (.aload_n 0) 1 17 := ⟨zq_42 zg_7_3_16.1, rfl⟩
theorem zd_7_3_17 : zz_D zy_beginWith_7_3 17 (.getfield 11) 3 20 := ⟨zq_180 zg_7_3_16.2.1 zg_7_3_16.2.2.1 zg_7_3_16.2.2.2.1 rfl, rfl⟩
theorem zd_7_3_20 : zz_D zy_beginWith_7_3 20 (.iconst 0) 1 21 := ⟨zq_3 zg_7_3_16.2.2.2.2.1, rfl⟩
theorem zd_7_3_21 : zz_D zy_beginWith_7_3 21 (.aaload) 1 22 := ⟨zq_50 zg_7_3_16.2.2.2.2.2.1, rfl⟩
theorem zd_7_3_22 : zz_D zy_beginWith_7_3 22 (.iload_n 1) 1 23 := ⟨zq_27 zg_7_3_16.2.2.2.2.2.2.1, rfl⟩
theorem zd_7_3_23 : zz_D zy_beginWith_7_3 23 (.iload_n 2) 1 24 := ⟨zq_28 zg_7_3_16.2.2.2.2.2.2.2.1, rfl⟩
theorem zd_7_3_24 : zz_D zy_beginWith_7_3 24 (.iload_n 3) 1 25 := ⟨zq_29 zg_7_3_16.2.2.2.2.2.2.2.2.1, rfl⟩
theorem zd_7_3_25 : zz_D zy_beginWith_7_3 25 (.invokevirtual 31) 3 28 := ⟨zq_182 zg_7_3_16.2.2.2.2.2.2.2.2.2.1 zg_7_3_16.2.2.2.2.2.2.2.2.2.2.1 zg_7_3_16.2.2.2.2.2.2.2.2.2.2.2.1 rfl, rfl⟩
theorem zd_7_3_28 : zz_D zy_beginWith_7_3 28 (.return_) 1 29 := ⟨zq_177 zg_7_3_16.2.2.2.2.2.2.2.2.2.2.2.2, rfl⟩
-- TensorForge$Network beginWith (III)V
abbrev zr_beginWith_7_3 : Room := { frames := 2, cells := 0, slots := 0, locals := 30 }
def zp_beginWith_7_3 (t : Int) (p0 : Int) (p1 : Int) (p2 : Int) (S0 : zz_S) : zz_S → Prop := fun S => zz_G S ∧ zz_fr [] [] (fun a i => (a = zz_rf 3 t ∧ i = 1) ∨ (a = zz_rf 6 (12 * t + 0) ∧ i = 0) ∨ (a = zz_rf 6 (12 * t + 0) ∧ i = 1) ∨ (a = zz_rf 6 (12 * t + 0) ∧ i = 10) ∨ (a = zz_rf 6 (12 * t + 0) ∧ i = 11) ∨ (a = zz_rf 6 (12 * t + 0) ∧ i = 12) ∨ (a = zz_rf 6 (12 * t + 0) ∧ i = 13) ∨ (a = zz_rf 6 (12 * t + 0) ∧ i = 14) ∨ (a = zz_rf 6 (12 * t + 0) ∧ i = 2) ∨ (a = zz_rf 6 (12 * t + 0) ∧ i = 3) ∨ (a = zz_rf 6 (12 * t + 0) ∧ i = 4) ∨ (a = zz_rf 6 (12 * t + 0) ∧ i = 5) ∨ (a = zz_rf 6 (12 * t + 0) ∧ i = 6) ∨ (a = zz_rf 6 (12 * t + 0) ∧ i = 7) ∨ (a = zz_rf 6 (12 * t + 0) ∧ i = 8) ∨ (a = zz_rf 6 (12 * t + 0) ∧ i = 9)) S0 S ∧ (S (zz_rf 3 t) 1 = 1) ∧ (0 ≤ S (zz_rf 6 (12 * t + 0)) 3 ∧ S (zz_rf 6 (12 * t + 0)) 0 = 0 ∧ S (zz_rf 6 (12 * t + 0)) 4 = 1 ∧ S (zz_rf 6 (12 * t + 0)) 12 ≤ 63 ∧ S (zz_rf 6 (12 * t + 0)) 3 = 1) ∧ (∀ nm : Int, zn_C S t (zn_ip p0 p1 p2 nm)) ∧ (zz_Hc S)
theorem zc_beginWith_7_3 {g : mm_G} {l : Launch} (t : Int) (p0 : Int) (p1 : Int) (p2 : Int) (S0 : zz_S) (n : Nat) (hn : zz_end ≤ n) (G_S0 : zz_G S0) (ht : 0 ≤ t ∧ t ≤ 1) (hp0 : (-2147483648) ≤ p0 ∧ p0 ≤ 2147483647) (hp1 : (-2147483648) ≤ p1 ∧ p1 ≤ 2147483647) (hp2 : 1 ≤ p2 ∧ p2 ≤ 63) (H_S0 : zz_Hc S0) : mm_Met g l zy_beginWith_7_3 zr_beginWith_7_3 [.ref (zz_rf 3 t), zi p0, zi p1, zi p2] (zz_M S0 n) n (zz_QV n (zp_beginWith_7_3 t p0 p1 p2 S0)) := by
  refine zz_enter (by decide) (Nat.le_of_ble_eq_true rfl) (zz_less (ls1 := [some (.ref (zz_rf 3 t)), some (zi p0), some (zi p1), some (zi p2)]) ⟨rfl, ⟨rfl, ⟨rfl, ⟨rfl, trivial⟩⟩⟩⟩ ?_)
  have F_S0 : zz_fr [] [] (fun a i => (a = zz_rf 3 t ∧ i = 1) ∨ (a = zz_rf 6 (12 * t + 0) ∧ i = 0) ∨ (a = zz_rf 6 (12 * t + 0) ∧ i = 1) ∨ (a = zz_rf 6 (12 * t + 0) ∧ i = 10) ∨ (a = zz_rf 6 (12 * t + 0) ∧ i = 11) ∨ (a = zz_rf 6 (12 * t + 0) ∧ i = 12) ∨ (a = zz_rf 6 (12 * t + 0) ∧ i = 13) ∨ (a = zz_rf 6 (12 * t + 0) ∧ i = 14) ∨ (a = zz_rf 6 (12 * t + 0) ∧ i = 2) ∨ (a = zz_rf 6 (12 * t + 0) ∧ i = 3) ∨ (a = zz_rf 6 (12 * t + 0) ∧ i = 4) ∨ (a = zz_rf 6 (12 * t + 0) ∧ i = 5) ∨ (a = zz_rf 6 (12 * t + 0) ∧ i = 6) ∨ (a = zz_rf 6 (12 * t + 0) ∧ i = 7) ∨ (a = zz_rf 6 (12 * t + 0) ∧ i = 8) ∨ (a = zz_rf 6 (12 * t + 0) ∧ i = 9)) S0 S0 := zz_fr.refl
  have b_t := zz_rf3 (z := t) (by omega)
  refine zz_aload_n (x := zz_rf 3 t) rfl zd_7_3_0 ?_
  refine zz_callVV [] zd_7_3_1 zk_Network_24 (zT_k3 (by omega)) (zN_k3 hn (by omega)) rfl rfl ⟨Nat.le_of_ble_eq_true rfl, Nat.le_of_ble_eq_true rfl⟩ ⟨rfl, rfl⟩ (Nat.zero_le _) (Nat.zero_le _) (zc_dropLayers_7_4 t S0 n hn G_S0 (by omega) H_S0) (fun S1 hP => ?_)
  obtain ⟨G_S1, fS1, o3, o4⟩ := hP
  have F_S1 := zz_fr.trans F_S0 fS1 rfl (fun a i h => Or.inr (Or.inr (Or.inl h)))
  have b5 := zz_rf3 (z := t) (by omega)
  refine zz_aload_n (x := zz_rf 3 t) rfl zd_7_3_4 ?_
  refine zz_getr (kd := 0) (z := ((zz_rf 3 t + 1 : Nat) : Int)) zd_7_3_5 zf_Network_11 (zT_k3 (by omega)) rfl (zN_k3 hn (by omega)) (zE_k3a G_S1 (by omega)) (Int.natCast_nonneg _) (zz_rf 3 t + 1) (Int.toNat_natCast _) ?_
  refine zz_iconst zd_7_3_8 ?_
  refine zz_aald (kd := 4) (z := 12 * t + 0) zd_7_3_9 (zT_k3a (by omega)) rfl (zN_k3a hn (by omega)) (by decide) (by omega) (zE_lay G_S1 (by omega) (by omega)) (by omega) (zz_rf 6 (12 * t + 0)) rfl ?_
  refine zz_iconst zd_7_3_10 ?_
  refine zz_iconst zd_7_3_11 ?_
  refine zz_iconst zd_7_3_12 ?_
  refine zz_callVV [zi 0, zi 0, zi 0] zd_7_3_13 zk_Network_27 (zT_k6 (by omega)) (zN_k6 hn (by omega)) rfl rfl ⟨Nat.le_of_ble_eq_true rfl, Nat.le_of_ble_eq_true rfl⟩ ⟨rfl, rfl⟩ (Nat.zero_le _) (Nat.zero_le _) (zc_reset_4_2 (12 * t + 0) 0 0 0 S1 n hn G_S1 (by omega) (by omega) (by omega) (by omega)) (fun S6 hP => ?_)
  obtain ⟨G_S6, fS6, o8, o9⟩ := hP
  have F_S6 := zz_fr.trans F_S1 fS6 rfl (fun a i h => by rcases h with h | h | h | h | h | h | h | h | h | h | h | h | h | h | h; exact Or.inr (Or.inr (Or.inr (Or.inl h))); exact Or.inr (Or.inr (Or.inr (Or.inr (Or.inl h)))); exact Or.inr (Or.inr (Or.inr (Or.inr (Or.inr (Or.inl h))))); exact Or.inr (Or.inr (Or.inr (Or.inr (Or.inr (Or.inr (Or.inl h)))))); exact Or.inr (Or.inr (Or.inr (Or.inr (Or.inr (Or.inr (Or.inr (Or.inl h))))))); exact Or.inr (Or.inr (Or.inr (Or.inr (Or.inr (Or.inr (Or.inr (Or.inr (Or.inl h)))))))); exact Or.inr (Or.inr (Or.inr (Or.inr (Or.inr (Or.inr (Or.inr (Or.inr (Or.inr (Or.inl h))))))))); exact Or.inr (Or.inr (Or.inr (Or.inr (Or.inr (Or.inr (Or.inr (Or.inr (Or.inr (Or.inr (Or.inl h)))))))))); exact Or.inr (Or.inr (Or.inr (Or.inr (Or.inr (Or.inr (Or.inr (Or.inr (Or.inr (Or.inr (Or.inr (Or.inl h))))))))))); exact Or.inr (Or.inr (Or.inr (Or.inr (Or.inr (Or.inr (Or.inr (Or.inr (Or.inr (Or.inr (Or.inr (Or.inr (Or.inl h)))))))))))); exact Or.inr (Or.inr (Or.inr (Or.inr (Or.inr (Or.inr (Or.inr (Or.inr (Or.inr (Or.inr (Or.inr (Or.inr (Or.inr (Or.inl h))))))))))))); exact Or.inr (Or.inr (Or.inr (Or.inr (Or.inr (Or.inr (Or.inr (Or.inr (Or.inr (Or.inr (Or.inr (Or.inr (Or.inr (Or.inr (Or.inl h)))))))))))))); exact Or.inr (Or.inr (Or.inr (Or.inr (Or.inr (Or.inr (Or.inr (Or.inr (Or.inr (Or.inr (Or.inr (Or.inr (Or.inr (Or.inr (Or.inr (Or.inl h))))))))))))))); exact Or.inr (Or.inr (Or.inr (Or.inr (Or.inr (Or.inr (Or.inr (Or.inr (Or.inr (Or.inr (Or.inr (Or.inr (Or.inr (Or.inr (Or.inr (Or.inr (Or.inl h)))))))))))))))); exact Or.inr (Or.inr (Or.inr (Or.inr (Or.inr (Or.inr (Or.inr (Or.inr (Or.inr (Or.inr (Or.inr (Or.inr (Or.inr (Or.inr (Or.inr (Or.inr (Or.inr (h))))))))))))))))))
  have b10 := zz_rf6 (z := (12 * t + 0)) (by omega)
  refine zz_aload_n (x := zz_rf 3 t) rfl zd_7_3_16 ?_
  refine zz_getr (kd := 0) (z := ((zz_rf 3 t + 1 : Nat) : Int)) zd_7_3_17 zf_Network_11 (zT_k3 (by omega)) rfl (zN_k3 hn (by omega)) (zE_k3a G_S6 (by omega)) (Int.natCast_nonneg _) (zz_rf 3 t + 1) (Int.toNat_natCast _) ?_
  refine zz_iconst zd_7_3_20 ?_
  refine zz_aald (kd := 4) (z := 12 * t + 0) zd_7_3_21 (zT_k3a (by omega)) rfl (zN_k3a hn (by omega)) (by decide) (by omega) (zE_lay G_S6 (by omega) (by omega)) (by omega) (zz_rf 6 (12 * t + 0)) rfl ?_
  refine zz_iload_n (x := p0) rfl zd_7_3_22 ?_
  refine zz_iload_n (x := p1) rfl zd_7_3_23 ?_
  refine zz_iload_n (x := p2) rfl zd_7_3_24 ?_
  refine zz_callVV [zi p0, zi p1, zi p2] zd_7_3_25 zk_Network_31 (zT_k6 (by omega)) (zN_k6 hn (by omega)) rfl rfl ⟨Nat.le_of_ble_eq_true rfl, Nat.le_of_ble_eq_true rfl⟩ ⟨rfl, rfl⟩ (Nat.zero_le _) (Nat.zero_le _) (zc_takeForm_4_3 (12 * t + 0) p0 p1 p2 S6 n hn G_S6 (by omega) (by omega) (by omega) (by omega)) (fun S11 hP => ?_)
  obtain ⟨G_S11, fS11, o13, o14⟩ := hP
  have F_S11 := zz_fr.trans F_S6 fS11 rfl (fun a i h => by rcases h with h | h | h; exact Or.inr (Or.inr (Or.inr (Or.inr (Or.inr (Or.inl h))))); exact Or.inr (Or.inr (Or.inr (Or.inr (Or.inr (Or.inr (Or.inl h)))))); exact Or.inr (Or.inr (Or.inr (Or.inr (Or.inr (Or.inr (Or.inr (Or.inl h))))))))
  have e15 : S11 (zz_rf 3 t) 1 = S1 (zz_rf 3 t) 1 := (zz_rc fS11 (zP_k3 (by omega) rfl) (zQ_k3 (by omega) rfl) (by have hz_ := zz_rf3 (z := t) (by omega); omega) (zz_rc fS6 (zP_k3 (by omega) rfl) (zQ_k3 (by omega) rfl) (by have hz_ := zz_rf3 (z := t) (by omega); omega) rfl))
  have e16 : S11 (zz_rf 6 (12 * t + 0)) 0 = S6 (zz_rf 6 (12 * t + 0)) 0 := (zz_rc fS11 (zP_k6 (by omega) rfl) (zQ_k6 (by omega) rfl) (by have hz_ := zz_rf6 (z := 12 * t + 0) (by omega); omega) rfl)
  have e17 : S11 (zz_rf 6 (12 * t + 0)) 3 = S6 (zz_rf 6 (12 * t + 0)) 3 := (zz_rc fS11 (zP_k6 (by omega) rfl) (zQ_k6 (by omega) rfl) (by have hz_ := zz_rf6 (z := 12 * t + 0) (by omega); omega) rfl)
  have e18 : S11 (zz_rf 6 (12 * t + 0)) 4 = S6 (zz_rf 6 (12 * t + 0)) 4 := (zz_rc fS11 (zP_k6 (by omega) rfl) (zQ_k6 (by omega) rfl) (by have hz_ := zz_rf6 (z := 12 * t + 0) (by omega); omega) rfl)
  have e19 : S11 (zz_rf 6 (12 * t + 0)) 1 = S6 (zz_rf 6 (12 * t + 0)) 1 := (zz_rc fS11 (zP_k6 (by omega) rfl) (zQ_k6 (by omega) rfl) (by have hz_ := zz_rf6 (z := 12 * t + 0) (by omega); omega) rfl)
  have e20 : S11 (zz_rf 6 (12 * t + 0)) 13 = S6 (zz_rf 6 (12 * t + 0)) 13 := (zz_rc fS11 (zP_k6 (by omega) rfl) (zQ_k6 (by omega) rfl) (by have hz_ := zz_rf6 (z := 12 * t + 0) (by omega); omega) rfl)
  have e21 : S11 (zz_rf 6 (12 * t + 0)) 2 = S6 (zz_rf 6 (12 * t + 0)) 2 := (zz_rc fS11 (zP_k6 (by omega) rfl) (zQ_k6 (by omega) rfl) (by have hz_ := zz_rf6 (z := 12 * t + 0) (by omega); omega) rfl)
  have e22 : S11 (zz_rf 6 (12 * t + 0)) 5 = S6 (zz_rf 6 (12 * t + 0)) 5 := (zz_rc fS11 (zP_k6 (by omega) rfl) (zQ_k6 (by omega) rfl) (by have hz_ := zz_rf6 (z := 12 * t + 0) (by omega); omega) rfl)
  have e23 : S11 (zz_rf 6 (12 * t + 0)) 6 = S6 (zz_rf 6 (12 * t + 0)) 6 := (zz_rc fS11 (zP_k6 (by omega) rfl) (zQ_k6 (by omega) rfl) (by have hz_ := zz_rf6 (z := 12 * t + 0) (by omega); omega) rfl)
  have e24 : S11 (zz_rf 6 (12 * t + 0)) 7 = S6 (zz_rf 6 (12 * t + 0)) 7 := (zz_rc fS11 (zP_k6 (by omega) rfl) (zQ_k6 (by omega) rfl) (by have hz_ := zz_rf6 (z := 12 * t + 0) (by omega); omega) rfl)
  have e25 : S11 (zz_rf 6 (12 * t + 0)) 8 = S6 (zz_rf 6 (12 * t + 0)) 8 := (zz_rc fS11 (zP_k6 (by omega) rfl) (zQ_k6 (by omega) rfl) (by have hz_ := zz_rf6 (z := 12 * t + 0) (by omega); omega) rfl)
  have e26 : S11 (zz_rf 6 (12 * t + 0)) 9 = S6 (zz_rf 6 (12 * t + 0)) 9 := (zz_rc fS11 (zP_k6 (by omega) rfl) (zQ_k6 (by omega) rfl) (by have hz_ := zz_rf6 (z := 12 * t + 0) (by omega); omega) rfl)
  exact zz_vret zd_7_3_28 rfl (Nat.zero_le _) (Nat.zero_le _) ⟨_, rfl, G_S11, F_S11, by omega, by omega, (fun nm => zn_C.ip (by omega) (by omega) (by omega) (by omega) (by omega) (by omega) (by omega) (by omega) (by omega) (by omega) (by omega) (by omega) (by omega) (by omega) (by omega)), (zz_Hc.one (q := t) (z := 12 * t + 0) F_S11 rfl rfl G_S0 (by omega) (by omega) (fun a i h => by omega) (by omega) (by unfold zz_ly; omega) H_S0)⟩
theorem zk_TF_216 : mm_Vl "TensorForge" 216 1 3 zy_beginWith_7_3 := ⟨zyw_beginWith_7_3, (R_Network, F_Network, 2), rfl, mm_tb_1 1352 (by decide +kernel) rfl, mm_tb_1 1027 (by decide +kernel) rfl, mm_tb_1 1028 (by decide +kernel) rfl⟩
theorem zg_1_18_29 : zq_at zy_input_1_18.2.1 29 177 := by decide +kernel
theorem zd_1_18_29 : zz_D zy_input_1_18 29 (.return_) 1 30 := ⟨zq_177 zg_1_18_29, rfl⟩
-- TensorForge input (III)V
abbrev zr_input_1_18 : Room := { frames := 6, cells := 1, slots := 6, locals := 82 }
def zp_input_1_18 (p0 : Int) (p1 : Int) (p2 : Int) (S0 : zz_S) : zz_S → Prop := fun S => zz_G S ∧ zz_fr [] [] (fun a i => (a = zz_rf 3 (S0 1000 7) ∧ i = 1) ∨ (a = zz_rf 6 (12 * (S0 1000 7) + 0) ∧ i = 0) ∨ (a = zz_rf 6 (12 * (S0 1000 7) + 0) ∧ i = 1) ∨ (a = zz_rf 6 (12 * (S0 1000 7) + 0) ∧ i = 10) ∨ (a = zz_rf 6 (12 * (S0 1000 7) + 0) ∧ i = 11) ∨ (a = zz_rf 6 (12 * (S0 1000 7) + 0) ∧ i = 12) ∨ (a = zz_rf 6 (12 * (S0 1000 7) + 0) ∧ i = 13) ∨ (a = zz_rf 6 (12 * (S0 1000 7) + 0) ∧ i = 14) ∨ (a = zz_rf 6 (12 * (S0 1000 7) + 0) ∧ i = 2) ∨ (a = zz_rf 6 (12 * (S0 1000 7) + 0) ∧ i = 3) ∨ (a = zz_rf 6 (12 * (S0 1000 7) + 0) ∧ i = 4) ∨ (a = zz_rf 6 (12 * (S0 1000 7) + 0) ∧ i = 5) ∨ (a = zz_rf 6 (12 * (S0 1000 7) + 0) ∧ i = 6) ∨ (a = zz_rf 6 (12 * (S0 1000 7) + 0) ∧ i = 7) ∨ (a = zz_rf 6 (12 * (S0 1000 7) + 0) ∧ i = 8) ∨ (a = zz_rf 6 (12 * (S0 1000 7) + 0) ∧ i = 9)) S0 S ∧ (1 ≤ p0 ∧ p0 ≤ 63 ∧ 1 ≤ p1 ∧ p1 ≤ 63 ∧ 1 ≤ p2 ∧ p2 ≤ 63 ∧ (p0 * p1) * p2 ≤ 2048) ∧ (∀ nm : Int, zn_C S (S0 1000 7) (zn_ip p0 p1 p2 nm)) ∧ (zz_Hc S)
def zx_input_1_18 (p0 : Int) (p1 : Int) (p2 : Int) (S0 : zz_S) : Nat → zz_S → Prop := fun i S => zz_G S ∧ zz_fr [] [] (fun a i => (a = zz_rf 3 (S0 1000 7) ∧ i = 1) ∨ (a = zz_rf 6 (12 * (S0 1000 7) + 0) ∧ i = 0) ∨ (a = zz_rf 6 (12 * (S0 1000 7) + 0) ∧ i = 1) ∨ (a = zz_rf 6 (12 * (S0 1000 7) + 0) ∧ i = 10) ∨ (a = zz_rf 6 (12 * (S0 1000 7) + 0) ∧ i = 11) ∨ (a = zz_rf 6 (12 * (S0 1000 7) + 0) ∧ i = 12) ∨ (a = zz_rf 6 (12 * (S0 1000 7) + 0) ∧ i = 13) ∨ (a = zz_rf 6 (12 * (S0 1000 7) + 0) ∧ i = 14) ∨ (a = zz_rf 6 (12 * (S0 1000 7) + 0) ∧ i = 2) ∨ (a = zz_rf 6 (12 * (S0 1000 7) + 0) ∧ i = 3) ∨ (a = zz_rf 6 (12 * (S0 1000 7) + 0) ∧ i = 4) ∨ (a = zz_rf 6 (12 * (S0 1000 7) + 0) ∧ i = 5) ∨ (a = zz_rf 6 (12 * (S0 1000 7) + 0) ∧ i = 6) ∨ (a = zz_rf 6 (12 * (S0 1000 7) + 0) ∧ i = 7) ∨ (a = zz_rf 6 (12 * (S0 1000 7) + 0) ∧ i = 8) ∨ (a = zz_rf 6 (12 * (S0 1000 7) + 0) ∧ i = 9)) S0 S ∧ (i < 4) ∧ (i = 0 ∧ (p0 < 1 ∨ 63 < p0 ∨ p1 < 1 ∨ 63 < p1 ∨ p2 < 1 ∨ 63 < p2 ∨ 2048 < (p0 * p1) * p2)) ∧ (∀ v : zn_T, zn_C S0 (S0 1000 7) v → zn_C S (S0 1000 7) v) ∧ (zz_Hc S)
theorem zc_input_1_18 {g : mm_G} {l : Launch} (p0 : Int) (p1 : Int) (p2 : Int) (S0 : zz_S) (n : Nat) (hn : zz_end ≤ n) (hfl : l.flags = flags0) (G_S0 : zz_G S0) (hp0 : (-2147483648) ≤ p0 ∧ p0 ≤ 2147483647) (hp1 : (-2147483648) ≤ p1 ∧ p1 ≤ 2147483647) (hp2 : (-2147483648) ≤ p2 ∧ p2 ≤ 2147483647) (H_S0 : zz_Hc S0) : mm_Met g l zy_input_1_18 zr_input_1_18 [.ref 1000, zi p0, zi p1, zi p2] (zz_M S0 n) n (zz_XV n (zp_input_1_18 p0 p1 p2 S0) (zx_input_1_18 p0 p1 p2 S0)) := by
  refine zz_enter (by decide) (Nat.le_of_ble_eq_true rfl) (zz_less (ls1 := [some (.ref 1000), some (zi p0), some (zi p1), some (zi p2)]) ⟨rfl, ⟨rfl, ⟨rfl, ⟨rfl, trivial⟩⟩⟩⟩ ?_)
  have F_S0 : zz_fr [] [] (fun a i => (a = zz_rf 3 (S0 1000 7) ∧ i = 1) ∨ (a = zz_rf 6 (12 * (S0 1000 7) + 0) ∧ i = 0) ∨ (a = zz_rf 6 (12 * (S0 1000 7) + 0) ∧ i = 1) ∨ (a = zz_rf 6 (12 * (S0 1000 7) + 0) ∧ i = 10) ∨ (a = zz_rf 6 (12 * (S0 1000 7) + 0) ∧ i = 11) ∨ (a = zz_rf 6 (12 * (S0 1000 7) + 0) ∧ i = 12) ∨ (a = zz_rf 6 (12 * (S0 1000 7) + 0) ∧ i = 13) ∨ (a = zz_rf 6 (12 * (S0 1000 7) + 0) ∧ i = 14) ∨ (a = zz_rf 6 (12 * (S0 1000 7) + 0) ∧ i = 2) ∨ (a = zz_rf 6 (12 * (S0 1000 7) + 0) ∧ i = 3) ∨ (a = zz_rf 6 (12 * (S0 1000 7) + 0) ∧ i = 4) ∨ (a = zz_rf 6 (12 * (S0 1000 7) + 0) ∧ i = 5) ∨ (a = zz_rf 6 (12 * (S0 1000 7) + 0) ∧ i = 6) ∨ (a = zz_rf 6 (12 * (S0 1000 7) + 0) ∧ i = 7) ∨ (a = zz_rf 6 (12 * (S0 1000 7) + 0) ∧ i = 8) ∨ (a = zz_rf 6 (12 * (S0 1000 7) + 0) ∧ i = 9)) S0 S0 := zz_fr.refl
  refine zz_iload_n (x := p0) rfl zd_1_18_0 ?_
  refine zz_iload_n (x := p1) rfl zd_1_18_1 ?_
  refine zz_iload_n (x := p2) rfl zd_1_18_2 ?_
  refine zz_callSI [zi p0, zi p1, zi p2] zd_1_18_3 zk_TF_210 rfl rfl ⟨Nat.le_of_ble_eq_true rfl, Nat.le_of_ble_eq_true rfl⟩ ⟨rfl, rfl⟩ (Nat.zero_le _) (Nat.zero_le _) (zc_inputFits_7_2 p0 p1 p2 S0 n hn G_S0 (by omega) (by omega) (by omega)) (fun v2 S1 hP => ?_)
  obtain ⟨rfl, o3, o4⟩ := hP
  rcases (by omega : v2 = 0 ∨ v2 = 1) with rfl | rfl
  · refine zz_if_ne (by omega) zd_1_18_6 (fun c5 => ?_) (fun c5 => ?_)
    · exfalso; omega
    · exact zz_throw (i := 0) hfl hn zt_1_18_9 zyw_input_1_18 zxl_TF_87_214_91 (Nat.le_of_ble_eq_true rfl) (Nat.le_of_ble_eq_true rfl) ⟨Nat.le_of_ble_eq_true rfl, Nat.le_of_ble_eq_true rfl⟩ (Or.inr ⟨_, _, rfl, G_S0, F_S0, by omega, by omega, fun v h => h, H_S0⟩)
  · refine zz_if_ne (by omega) zd_1_18_6 (fun c6 => ?_) (fun c6 => ?_)
    · refine zz_aload_n (x := 1000) rfl zd_1_18_19 ?_
      have g7 := zz_G.r G_S0 1000 7 0 1 rfl rfl
      refine zz_getr (kd := 1) (z := S0 1000 7) zd_1_18_20 zf_TF_10 zT_1000 rfl (zz_ltn hn rfl) rfl (by omega) (zz_rf 3 (S0 1000 7)) rfl ?_
      refine zz_iload_n (x := p0) rfl zd_1_18_23 ?_
      refine zz_iload_n (x := p1) rfl zd_1_18_24 ?_
      refine zz_iload_n (x := p2) rfl zd_1_18_25 ?_
      refine zz_callVV [zi p0, zi p1, zi p2] zd_1_18_26 zk_TF_216 (zT_k3 (by omega)) (zN_k3 hn (by omega)) rfl rfl ⟨Nat.le_of_ble_eq_true rfl, Nat.le_of_ble_eq_true rfl⟩ ⟨rfl, rfl⟩ (Nat.zero_le _) (Nat.zero_le _) (zc_beginWith_7_3 (S0 1000 7) p0 p1 p2 S0 n hn G_S0 (by omega) (by omega) (by omega) (by omega) H_S0) (fun S8 hP => ?_)
      obtain ⟨G_S8, fS8, o10, o11, o12, o13⟩ := hP
      have g14 := zz_G.r G_S0 1000 7 0 1 rfl rfl
      have F_S8 := zz_fr.trans F_S0 fS8 rfl (fun a i h => by rcases h with h | h | h | h | h | h | h | h | h | h | h | h | h | h | h | h; exact Or.inr (Or.inr (Or.inl h)); exact Or.inr (Or.inr (Or.inr (Or.inl h))); exact Or.inr (Or.inr (Or.inr (Or.inr (Or.inl h)))); exact Or.inr (Or.inr (Or.inr (Or.inr (Or.inr (Or.inl h))))); exact Or.inr (Or.inr (Or.inr (Or.inr (Or.inr (Or.inr (Or.inl h)))))); exact Or.inr (Or.inr (Or.inr (Or.inr (Or.inr (Or.inr (Or.inr (Or.inl h))))))); exact Or.inr (Or.inr (Or.inr (Or.inr (Or.inr (Or.inr (Or.inr (Or.inr (Or.inl h)))))))); exact Or.inr (Or.inr (Or.inr (Or.inr (Or.inr (Or.inr (Or.inr (Or.inr (Or.inr (Or.inl h))))))))); exact Or.inr (Or.inr (Or.inr (Or.inr (Or.inr (Or.inr (Or.inr (Or.inr (Or.inr (Or.inr (Or.inl h)))))))))); exact Or.inr (Or.inr (Or.inr (Or.inr (Or.inr (Or.inr (Or.inr (Or.inr (Or.inr (Or.inr (Or.inr (Or.inl h))))))))))); exact Or.inr (Or.inr (Or.inr (Or.inr (Or.inr (Or.inr (Or.inr (Or.inr (Or.inr (Or.inr (Or.inr (Or.inr (Or.inl h)))))))))))); exact Or.inr (Or.inr (Or.inr (Or.inr (Or.inr (Or.inr (Or.inr (Or.inr (Or.inr (Or.inr (Or.inr (Or.inr (Or.inr (Or.inl h))))))))))))); exact Or.inr (Or.inr (Or.inr (Or.inr (Or.inr (Or.inr (Or.inr (Or.inr (Or.inr (Or.inr (Or.inr (Or.inr (Or.inr (Or.inr (Or.inl h)))))))))))))); exact Or.inr (Or.inr (Or.inr (Or.inr (Or.inr (Or.inr (Or.inr (Or.inr (Or.inr (Or.inr (Or.inr (Or.inr (Or.inr (Or.inr (Or.inr (Or.inl h))))))))))))))); exact Or.inr (Or.inr (Or.inr (Or.inr (Or.inr (Or.inr (Or.inr (Or.inr (Or.inr (Or.inr (Or.inr (Or.inr (Or.inr (Or.inr (Or.inr (Or.inr (Or.inl h)))))))))))))))); exact Or.inr (Or.inr (Or.inr (Or.inr (Or.inr (Or.inr (Or.inr (Or.inr (Or.inr (Or.inr (Or.inr (Or.inr (Or.inr (Or.inr (Or.inr (Or.inr (Or.inr (h))))))))))))))))))
      have b15 := zz_rf3 (z := (S0 1000 7)) (by omega)
      have b16 := zz_rf6 (z := (12 * (S0 1000 7) + 0)) (by omega)
      have H_S8 : zz_Hc S8 := o13
      exact zz_vret zd_1_18_29 rfl (Nat.le_of_ble_eq_true rfl) (Nat.le_of_ble_eq_true rfl) (Or.inl ⟨_, rfl, G_S8, F_S8, by omega, o12, H_S8⟩)
    · exfalso; omega
abbrev zy_convolution_1_19 : mm_Y := (⟨"TensorForge", "convolution", "(IIIIII)I"⟩, prog_1_method_19_code, 8, (some .int))
theorem zyw_convolution_1_19 : mm_Yw zy_convolution_1_19 6 := ⟨mm_tb_1 1359 (by decide +kernel) rfl, mm_tb_1 1 (by decide +kernel) rfl, ⟨by decide, by decide⟩, by decide +kernel⟩
abbrev zy_draft_7_6 : mm_Y := (⟨"TensorForge$Network", "draft", "()LTensorForge$Layer;"⟩, prog_7_method_6_code, 1, (some (.object "TensorForge$Layer")))
theorem zyw_draft_7_6 : mm_Yw zy_draft_7_6 0 := ⟨mm_tb_1 943 (by decide +kernel) rfl, mm_tb_1 2 (by decide +kernel) rfl, ⟨by decide, by decide⟩, by decide +kernel⟩
theorem zg_1_19_0 : zq_at zy_convolution_1_19.2.1 0 42 ∧ zq_at zy_convolution_1_19.2.1 1 180 ∧ zq_at zy_convolution_1_19.2.1 2 0 ∧ zq_at zy_convolution_1_19.2.1 3 10 ∧ zq_at zy_convolution_1_19.2.1 4 182 ∧ zq_at zy_convolution_1_19.2.1 5 0 ∧ zq_at zy_convolution_1_19.2.1 6 220 := by decide +kernel
theorem zd_1_19_0 : zz_D zy_convolution_1_19 0 (.aload_n 0) 1 1 := ⟨zq_42 zg_1_19_0.1, rfl⟩
theorem zd_1_19_1 : zz_D zy_convolution_1_19 1 (.getfield 10) 3 4 := ⟨zq_180 zg_1_19_0.2.1 zg_1_19_0.2.2.1 zg_1_19_0.2.2.2.1 rfl, rfl⟩
theorem zd_1_19_4 : zz_D zy_convolution_1_19 4 (.invokevirtual 220) 3 7 := ⟨zq_182 zg_1_19_0.2.2.2.2.1 zg_1_19_0.2.2.2.2.2.1 zg_1_19_0.2.2.2.2.2.2 rfl, rfl⟩
theorem zg_7_6_0 : zq_at zy_draft_7_6.2.1 0 42 ∧ zq_at zy_draft_7_6.2.1 1 180 ∧ zq_at zy_draft_7_6.2.1 2 0 ∧ zq_at zy_draft_7_6.2.1 3 11 ∧ zq_at zy_draft_7_6.2.1 4 42 ∧ zq_at zy_draft_7_6.2.1 5 180 ∧ zq_at zy_draft_7_6.2.1 6 0 ∧ zq_at zy_draft_7_6.2.1 7 16 ∧ zq_at zy_draft_7_6.2.1 8 50 ∧ zq_at zy_draft_7_6.2.1 9 176 := by decide +kernel
theorem zd_7_6_0 : zz_D zy_draft_7_6 0 (.aload_n 0) 1 1 := ⟨zq_42 zg_7_6_0.1, rfl⟩
theorem zd_7_6_1 : zz_D zy_draft_7_6 1 (.getfield 11) 3 4 := ⟨zq_180 zg_7_6_0.2.1 zg_7_6_0.2.2.1 zg_7_6_0.2.2.2.1 rfl, rfl⟩
theorem zd_7_6_4 : zz_D zy_draft_7_6 4 (.aload_n 0) 1 5 := ⟨zq_42 zg_7_6_0.2.2.2.2.1, rfl⟩
theorem zd_7_6_5 : zz_D zy_draft_7_6 5 (.getfield 16) 3 8 := ⟨zq_180 zg_7_6_0.2.2.2.2.2.1 zg_7_6_0.2.2.2.2.2.2.1 zg_7_6_0.2.2.2.2.2.2.2.1 rfl, rfl⟩
theorem zd_7_6_8 : zz_D zy_draft_7_6 8 (.aaload) 1 9 := ⟨zq_50 zg_7_6_0.2.2.2.2.2.2.2.2.1, rfl⟩
theorem zd_7_6_9 : zz_D zy_draft_7_6 9 (.areturn) 1 10 := ⟨zq_176 zg_7_6_0.2.2.2.2.2.2.2.2.2, rfl⟩
-- TensorForge$Network draft ()LTensorForge$Layer;
abbrev zr_draft_7_6 : Room := { frames := 0, cells := 0, slots := 0, locals := 0 }
def zp_draft_7_6 (t : Int) (S0 : zz_S) : Nat → zz_S → Prop := fun r S => S0 = S ∧ (r = zz_rf 6 (12 * t + S0 (zz_rf 3 t) 1)) ∧ (1 ≤ S0 (zz_rf 3 t) 1 ∧ S0 (zz_rf 3 t) 1 ≤ 11)
theorem zc_draft_7_6 {g : mm_G} {l : Launch} (t : Int) (S0 : zz_S) (n : Nat) (hn : zz_end ≤ n) (G_S0 : zz_G S0) (ht : 0 ≤ t ∧ t ≤ 1) : mm_Met g l zy_draft_7_6 zr_draft_7_6 [.ref (zz_rf 3 t)] (zz_M S0 n) n (zz_QA n (zp_draft_7_6 t S0)) := by
  refine zz_enter (by decide) (Nat.le_of_ble_eq_true rfl) (zz_less (ls1 := [some (.ref (zz_rf 3 t))]) ⟨rfl, trivial⟩ ?_)
  have b_t := zz_rf3 (z := t) (by omega)
  refine zz_aload_n (x := zz_rf 3 t) rfl zd_7_6_0 ?_
  refine zz_getr (kd := 0) (z := ((zz_rf 3 t + 1 : Nat) : Int)) zd_7_6_1 zf_Network_11 (zT_k3 (by omega)) rfl (zN_k3 hn (by omega)) (zE_k3a G_S0 (by omega)) (Int.natCast_nonneg _) (zz_rf 3 t + 1) (Int.toNat_natCast _) ?_
  refine zz_aload_n (x := zz_rf 3 t) rfl zd_7_6_4 ?_
  have g1 := zz_G.r G_S0 (zz_rf 3 t) 1 1 11 (zR_k3_1 (by omega)) (zB_k3 (by omega))
  refine zz_geti (z := S0 (zz_rf 3 t) 1) zd_7_6_5 zf_Network_16 (zT_k3 (by omega)) rfl (zN_k3 hn (by omega)) rfl ?_
  refine zz_aald (kd := 4) (z := 12 * t + (S0 (zz_rf 3 t) 1)) zd_7_6_8 (zT_k3a (by omega)) rfl (zN_k3a hn (by omega)) (by decide) (by omega) (zE_lay G_S0 (by omega) (by omega)) (by omega) (zz_rf 6 (12 * t + (S0 (zz_rf 3 t) 1))) rfl ?_
  exact zz_aret zd_7_6_9 rfl (Nat.zero_le _) (Nat.zero_le _) ⟨_, _, rfl, rfl, rfl, by omega⟩
theorem zk_TF_220 : mm_Vl "TensorForge" 220 1 0 zy_draft_7_6 := ⟨zyw_draft_7_6, (R_Network, F_Network, 2), rfl, mm_tb_1 1360 (by decide +kernel) rfl, mm_tb_1 941 (by decide +kernel) rfl, mm_tb_1 942 (by decide +kernel) rfl⟩
theorem zk_TF_226 : mm_Vl "TensorForge" 226 2 3 zy_reset_4_2 := ⟨zyw_reset_4_2, (R_Layer, F_Layer, 15), rfl, mm_tb_1 1361 (by decide +kernel) rfl, mm_tb_1 50 (by decide +kernel) rfl, mm_tb_1 51 (by decide +kernel) rfl⟩
abbrev zy_takeKernel_4_4 : mm_Y := (⟨"TensorForge$Layer", "takeKernel", "(II)V"⟩, prog_4_method_4_code, 3, none)
theorem zyw_takeKernel_4_4 : mm_Yw zy_takeKernel_4_4 2 := ⟨mm_tb_1 988 (by decide +kernel) rfl, mm_tb_1 3 (by decide +kernel) rfl, ⟨by decide, by decide⟩, by decide +kernel⟩
theorem zg_1_19_7 : zq_at zy_convolution_1_19.2.1 7 58 ∧ zq_at zy_convolution_1_19.2.1 8 7 ∧ zq_at zy_convolution_1_19.2.1 9 25 ∧ zq_at zy_convolution_1_19.2.1 10 7 ∧ zq_at zy_convolution_1_19.2.1 11 4 ∧ zq_at zy_convolution_1_19.2.1 12 27 ∧ zq_at zy_convolution_1_19.2.1 13 27 ∧ zq_at zy_convolution_1_19.2.1 14 182 ∧ zq_at zy_convolution_1_19.2.1 15 0 ∧ zq_at zy_convolution_1_19.2.1 16 226 ∧ zq_at zy_convolution_1_19.2.1 17 25 ∧ zq_at zy_convolution_1_19.2.1 18 7 ∧ zq_at zy_convolution_1_19.2.1 19 28 ∧ zq_at zy_convolution_1_19.2.1 20 16 ∧ zq_at zy_convolution_1_19.2.1 21 10 ∧ zq_at zy_convolution_1_19.2.1 22 108 ∧ zq_at zy_convolution_1_19.2.1 23 28 ∧ zq_at zy_convolution_1_19.2.1 24 16 ∧ zq_at zy_convolution_1_19.2.1 25 10 ∧ zq_at zy_convolution_1_19.2.1 26 112 ∧ zq_at zy_convolution_1_19.2.1 27 182 ∧ zq_at zy_convolution_1_19.2.1 28 0 ∧ zq_at zy_convolution_1_19.2.1 29 229 := by decide +kernel
theorem zd_1_19_7 : zz_D zy_convolution_1_19 7 (.astore 7) 2 9 := ⟨zq_58 zg_1_19_7.1 zg_1_19_7.2.1, rfl⟩
theorem zd_1_19_9 : zz_D zy_convolution_1_19 9 (.aload 7) 2 11 := ⟨zq_25 zg_1_19_7.2.2.1 zg_1_19_7.2.2.2.1, rfl⟩
theorem zd_1_19_11 : zz_D zy_convolution_1_19 11 (.iconst 1) 1 12 := ⟨zq_4 zg_1_19_7.2.2.2.2.1, rfl⟩
theorem zd_1_19_12 : zz_D zy_convolution_1_19 12 (.iload_n 1) 1 13 := ⟨zq_27 zg_1_19_7.2.2.2.2.2.1, rfl⟩
theorem zd_1_19_13 : zz_D zy_convolution_1_19 13 (.iload_n 1) 1 14 := ⟨zq_27 zg_1_19_7.2.2.2.2.2.2.1, rfl⟩
theorem zd_1_19_14 : zz_D zy_convolution_1_19 14 (.invokevirtual 226) 3 17 := ⟨zq_182 zg_1_19_7.2.2.2.2.2.2.2.1 zg_1_19_7.2.2.2.2.2.2.2.2.1 zg_1_19_7.2.2.2.2.2.2.2.2.2.1 rfl, rfl⟩
theorem zd_1_19_17 : zz_D zy_convolution_1_19 17 (.aload 7) 2 19 := ⟨zq_25 zg_1_19_7.2.2.2.2.2.2.2.2.2.2.1 zg_1_19_7.2.2.2.2.2.2.2.2.2.2.2.1, rfl⟩
theorem zd_1_19_19 : zz_D zy_convolution_1_19 19 (.iload_n 2) 1 20 := ⟨zq_28 zg_1_19_7.2.2.2.2.2.2.2.2.2.2.2.2.1, rfl⟩
theorem zd_1_19_20 : zz_D zy_convolution_1_19 20 (.bipush 10) 2 22 := ⟨zq_16 zg_1_19_7.2.2.2.2.2.2.2.2.2.2.2.2.2.1 zg_1_19_7.2.2.2.2.2.2.2.2.2.2.2.2.2.2.1 (by decide), rfl⟩
theorem zd_1_19_22 : zz_D zy_convolution_1_19 22 (.idiv) 1 23 := ⟨zq_108 zg_1_19_7.2.2.2.2.2.2.2.2.2.2.2.2.2.2.2.1, rfl⟩
theorem zd_1_19_23 : zz_D zy_convolution_1_19 23 (.iload_n 2) 1 24 := ⟨zq_28 zg_1_19_7.2.2.2.2.2.2.2.2.2.2.2.2.2.2.2.2.1, rfl⟩
theorem zd_1_19_24 : zz_D zy_convolution_1_19 24 (.bipush 10) 2 26 := ⟨zq_16 zg_1_19_7.2.2.2.2.2.2.2.2.2.2.2.2.2.2.2.2.2.1 zg_1_19_7.2.2.2.2.2.2.2.2.2.2.2.2.2.2.2.2.2.2.1 (by decide), rfl⟩
theorem zd_1_19_26 : zz_D zy_convolution_1_19 26 (.irem) 1 27 := ⟨zq_112 zg_1_19_7.2.2.2.2.2.2.2.2.2.2.2.2.2.2.2.2.2.2.2.1, rfl⟩
theorem zd_1_19_27 : zz_D zy_convolution_1_19 27 (.invokevirtual 229) 3 30 := ⟨zq_182 zg_1_19_7.2.2.2.2.2.2.2.2.2.2.2.2.2.2.2.2.2.2.2.2.1 zg_1_19_7.2.2.2.2.2.2.2.2.2.2.2.2.2.2.2.2.2.2.2.2.2.1 zg_1_19_7.2.2.2.2.2.2.2.2.2.2.2.2.2.2.2.2.2.2.2.2.2.2 rfl, rfl⟩
theorem zg_4_4_0 : zq_at zy_takeKernel_4_4.2.1 0 42 ∧ zq_at zy_takeKernel_4_4.2.1 1 27 ∧ zq_at zy_takeKernel_4_4.2.1 2 181 ∧ zq_at zy_takeKernel_4_4.2.1 3 0 ∧ zq_at zy_takeKernel_4_4.2.1 4 23 ∧ zq_at zy_takeKernel_4_4.2.1 5 42 ∧ zq_at zy_takeKernel_4_4.2.1 6 28 ∧ zq_at zy_takeKernel_4_4.2.1 7 181 ∧ zq_at zy_takeKernel_4_4.2.1 8 0 ∧ zq_at zy_takeKernel_4_4.2.1 9 26 ∧ zq_at zy_takeKernel_4_4.2.1 10 177 := by decide +kernel
theorem zd_4_4_0 : zz_D zy_takeKernel_4_4 0 (.aload_n 0) 1 1 := ⟨zq_42 zg_4_4_0.1, rfl⟩
theorem zd_4_4_1 : zz_D zy_takeKernel_4_4 1 (.iload_n 1) 1 2 := ⟨zq_27 zg_4_4_0.2.1, rfl⟩
theorem zd_4_4_2 : zz_D zy_takeKernel_4_4 2 (.putfield 23) 3 5 := ⟨zq_181 zg_4_4_0.2.2.1 zg_4_4_0.2.2.2.1 zg_4_4_0.2.2.2.2.1 rfl, rfl⟩
theorem zd_4_4_5 : zz_D zy_takeKernel_4_4 5 (.aload_n 0) 1 6 := ⟨zq_42 zg_4_4_0.2.2.2.2.2.1, rfl⟩
theorem zd_4_4_6 : zz_D zy_takeKernel_4_4 6 (.iload_n 2) 1 7 := ⟨zq_28 zg_4_4_0.2.2.2.2.2.2.1, rfl⟩
theorem zd_4_4_7 : zz_D zy_takeKernel_4_4 7 (.putfield 26) 3 10 := ⟨zq_181 zg_4_4_0.2.2.2.2.2.2.2.1 zg_4_4_0.2.2.2.2.2.2.2.2.1 zg_4_4_0.2.2.2.2.2.2.2.2.2.1 rfl, rfl⟩
theorem zd_4_4_10 : zz_D zy_takeKernel_4_4 10 (.return_) 1 11 := ⟨zq_177 zg_4_4_0.2.2.2.2.2.2.2.2.2.2, rfl⟩
-- TensorForge$Layer takeKernel (II)V
abbrev zr_takeKernel_4_4 : Room := { frames := 0, cells := 0, slots := 0, locals := 0 }
def zp_takeKernel_4_4 (t : Int) (p0 : Int) (p1 : Int) (S0 : zz_S) : zz_S → Prop := fun S => zz_G S ∧ zz_fr [] [] (fun a i => (a = zz_rf 6 t ∧ i = 3) ∨ (a = zz_rf 6 t ∧ i = 4)) S0 S ∧ (S (zz_rf 6 t) 3 = p0 ∧ S (zz_rf 6 t) 4 = p1)
theorem zc_takeKernel_4_4 {g : mm_G} {l : Launch} (t : Int) (p0 : Int) (p1 : Int) (S0 : zz_S) (n : Nat) (hn : zz_end ≤ n) (G_S0 : zz_G S0) (ht : 0 ≤ t ∧ t ≤ 23) (hp0 : (-2147483648) ≤ p0 ∧ p0 ≤ 2147483647) (hp1 : (-2147483648) ≤ p1 ∧ p1 ≤ 2147483647) : mm_Met g l zy_takeKernel_4_4 zr_takeKernel_4_4 [.ref (zz_rf 6 t), zi p0, zi p1] (zz_M S0 n) n (zz_QV n (zp_takeKernel_4_4 t p0 p1 S0)) := by
  refine zz_enter (by decide) (Nat.le_of_ble_eq_true rfl) (zz_less (ls1 := [some (.ref (zz_rf 6 t)), some (zi p0), some (zi p1)]) ⟨rfl, ⟨rfl, ⟨rfl, trivial⟩⟩⟩ ?_)
  have F_S0 : zz_fr [] [] (fun a i => (a = zz_rf 6 t ∧ i = 3) ∨ (a = zz_rf 6 t ∧ i = 4)) S0 S0 := zz_fr.refl
  have b_t := zz_rf6 (z := t) (by omega)
  refine zz_aload_n (x := zz_rf 6 t) rfl zd_4_4_0 ?_
  refine zz_iload_n (x := p0) rfl zd_4_4_1 ?_
  refine zz_puti zd_4_4_2 zf_Layer_23 (zT_k6 (by omega)) rfl (zN_k6 hn (by omega)) (fun S1 qS1 => ?_)
  have G_S1 := zz_G.put G_S0 qS1 (-2147483648) 2147483647 (zR_k6_3 (by omega)) (by omega)
  have F_S1 := zz_fr.putv F_S0 qS1 (Or.inl ⟨rfl, rfl⟩)
  refine zz_aload_n (x := zz_rf 6 t) rfl zd_4_4_5 ?_
  refine zz_iload_n (x := p1) rfl zd_4_4_6 ?_
  refine zz_puti zd_4_4_7 zf_Layer_26 (zT_k6 (by omega)) rfl (zN_k6 hn (by omega)) (fun S2 qS2 => ?_)
  have G_S2 := zz_G.put G_S1 qS2 (-2147483648) 2147483647 (zR_k6_4 (by omega)) (by omega)
  have F_S2 := zz_fr.putv F_S1 qS2 (Or.inr (⟨rfl, rfl⟩))
  have e3 : S2 (zz_rf 6 t) 3 = p0 := (zz_ro qS2 (fun h => absurd h.2 (by decide)) (zz_rs qS1))
  have e4 : S2 (zz_rf 6 t) 4 = p1 := (zz_rs qS2)
  exact zz_vret zd_4_4_10 rfl (Nat.zero_le _) (Nat.zero_le _) ⟨_, rfl, G_S2, F_S2, by omega⟩
theorem zk_TF_229 : mm_Vl "TensorForge" 229 2 2 zy_takeKernel_4_4 := ⟨zyw_takeKernel_4_4, (R_Layer, F_Layer, 15), rfl, mm_tb_1 1362 (by decide +kernel) rfl, mm_tb_1 986 (by decide +kernel) rfl, mm_tb_1 987 (by decide +kernel) rfl⟩
theorem zf_TF_232 : mm_Fl "TensorForge" 232 2 5 .int false := ⟨R_Layer, F_Layer, 15, t_Layer, rfl, i_Layer, by decide, mm_tb_1 78 (by decide +kernel) rfl, rfl, t_Layer_ok, n_Layer, rfl, by decide +kernel⟩
theorem zf_TF_235 : mm_Fl "TensorForge" 235 2 6 .int false := ⟨R_Layer, F_Layer, 15, t_Layer, rfl, i_Layer, by decide, mm_tb_1 83 (by decide +kernel) rfl, rfl, t_Layer_ok, n_Layer, rfl, by decide +kernel⟩
abbrev zy_takeNarrowing_4_5 : mm_Y := (⟨"TensorForge$Layer", "takeNarrowing", "(I)V"⟩, prog_4_method_5_code, 2, none)
theorem zyw_takeNarrowing_4_5 : mm_Yw zy_takeNarrowing_4_5 1 := ⟨mm_tb_1 1366 (by decide +kernel) rfl, mm_tb_1 3 (by decide +kernel) rfl, ⟨by decide, by decide⟩, by decide +kernel⟩
theorem zg_1_19_30 : zq_at zy_convolution_1_19.2.1 30 25 ∧ zq_at zy_convolution_1_19.2.1 31 7 ∧ zq_at zy_convolution_1_19.2.1 32 21 ∧ zq_at zy_convolution_1_19.2.1 33 4 ∧ zq_at zy_convolution_1_19.2.1 34 16 ∧ zq_at zy_convolution_1_19.2.1 35 10 ∧ zq_at zy_convolution_1_19.2.1 36 108 ∧ zq_at zy_convolution_1_19.2.1 37 181 ∧ zq_at zy_convolution_1_19.2.1 38 0 ∧ zq_at zy_convolution_1_19.2.1 39 232 ∧ zq_at zy_convolution_1_19.2.1 40 25 ∧ zq_at zy_convolution_1_19.2.1 41 7 ∧ zq_at zy_convolution_1_19.2.1 42 21 ∧ zq_at zy_convolution_1_19.2.1 43 4 ∧ zq_at zy_convolution_1_19.2.1 44 16 ∧ zq_at zy_convolution_1_19.2.1 45 10 ∧ zq_at zy_convolution_1_19.2.1 46 112 ∧ zq_at zy_convolution_1_19.2.1 47 181 ∧ zq_at zy_convolution_1_19.2.1 48 0 ∧ zq_at zy_convolution_1_19.2.1 49 235 ∧ zq_at zy_convolution_1_19.2.1 50 25 ∧ zq_at zy_convolution_1_19.2.1 51 7 ∧ zq_at zy_convolution_1_19.2.1 52 21 ∧ zq_at zy_convolution_1_19.2.1 53 5 := by decide +kernel
theorem zd_1_19_30 : zz_D zy_convolution_1_19 30 (.aload 7) 2 32 := ⟨zq_25 zg_1_19_30.1 zg_1_19_30.2.1, rfl⟩
theorem zd_1_19_32 : zz_D zy_convolution_1_19 32 (.iload 4) 2 34 := ⟨zq_21 zg_1_19_30.2.2.1 zg_1_19_30.2.2.2.1, rfl⟩
theorem zd_1_19_34 : zz_D zy_convolution_1_19 34 (.bipush 10) 2 36 := ⟨zq_16 zg_1_19_30.2.2.2.2.1 zg_1_19_30.2.2.2.2.2.1 (by decide), rfl⟩
theorem zd_1_19_36 : zz_D zy_convolution_1_19 36 (.idiv) 1 37 := ⟨zq_108 zg_1_19_30.2.2.2.2.2.2.1, rfl⟩
theorem zd_1_19_37 : zz_D zy_convolution_1_19 37 (.putfield 232) 3 40 := ⟨zq_181 zg_1_19_30.2.2.2.2.2.2.2.1 zg_1_19_30.2.2.2.2.2.2.2.2.1 zg_1_19_30.2.2.2.2.2.2.2.2.2.1 rfl, rfl⟩
theorem zd_1_19_40 : zz_D zy_convolution_1_19 40 (.aload 7) 2 42 := ⟨zq_25 zg_1_19_30.2.2.2.2.2.2.2.2.2.2.1 zg_1_19_30.2.2.2.2.2.2.2.2.2.2.2.1, rfl⟩
theorem zd_1_19_42 : zz_D zy_convolution_1_19 42 (.iload 4) 2 44 := ⟨zq_21 zg_1_19_30.2.2.2.2.2.2.2.2.2.2.2.2.1 zg_1_19_30.2.2.2.2.2.2.2.2.2.2.2.2.2.1, rfl⟩
theorem zd_1_19_44 : zz_D zy_convolution_1_19 44 (.bipush 10) 2 46 := ⟨zq_16 zg_1_19_30.2.2.2.2.2.2.2.2.2.2.2.2.2.2.1 zg_1_19_30.2.2.2.2.2.2.2.2.2.2.2.2.2.2.2.1 (by decide), rfl⟩
theorem zd_1_19_46 : zz_D zy_convolution_1_19 46 (.irem) 1 47 := ⟨zq_112 zg_1_19_30.2.2.2.2.2.2.2.2.2.2.2.2.2.2.2.2.1, rfl⟩
theorem zd_1_19_47 : zz_D zy_convolution_1_19 47 (.putfield 235) 3 50 := ⟨zq_181 zg_1_19_30.2.2.2.2.2.2.2.2.2.2.2.2.2.2.2.2.2.1 zg_1_19_30.2.2.2.2.2.2.2.2.2.2.2.2.2.2.2.2.2.2.1 zg_1_19_30.2.2.2.2.2.2.2.2.2.2.2.2.2.2.2.2.2.2.2.1 rfl, rfl⟩
theorem zd_1_19_50 : zz_D zy_convolution_1_19 50 (.aload 7) 2 52 := ⟨zq_25 zg_1_19_30.2.2.2.2.2.2.2.2.2.2.2.2.2.2.2.2.2.2.2.2.1 zg_1_19_30.2.2.2.2.2.2.2.2.2.2.2.2.2.2.2.2.2.2.2.2.2.1, rfl⟩
theorem zd_1_19_52 : zz_D zy_convolution_1_19 52 (.iload 5) 2 54 := ⟨zq_21 zg_1_19_30.2.2.2.2.2.2.2.2.2.2.2.2.2.2.2.2.2.2.2.2.2.2.1 zg_1_19_30.2.2.2.2.2.2.2.2.2.2.2.2.2.2.2.2.2.2.2.2.2.2.2, rfl⟩
theorem zg_1_19_54 : zq_at zy_convolution_1_19.2.1 54 182 ∧ zq_at zy_convolution_1_19.2.1 55 0 ∧ zq_at zy_convolution_1_19.2.1 56 238 := by decide +kernel
theorem zd_1_19_54 : zz_D zy_convolution_1_19 54 (.invokevirtual 238) 3 57 := ⟨zq_182 zg_1_19_54.1 zg_1_19_54.2.1 zg_1_19_54.2.2 rfl, rfl⟩
theorem zg_4_5_0 : zq_at zy_takeNarrowing_4_5.2.1 0 42 ∧ zq_at zy_takeNarrowing_4_5.2.1 1 27 ∧ zq_at zy_takeNarrowing_4_5.2.1 2 16 ∧ zq_at zy_takeNarrowing_4_5.2.1 3 16 ∧ zq_at zy_takeNarrowing_4_5.2.1 4 161 ∧ zq_at zy_takeNarrowing_4_5.2.1 5 0 ∧ zq_at zy_takeNarrowing_4_5.2.1 6 7 ∧ zq_at zy_takeNarrowing_4_5.2.1 11 3 ∧ zq_at zy_takeNarrowing_4_5.2.1 12 181 ∧ zq_at zy_takeNarrowing_4_5.2.1 13 0 ∧ zq_at zy_takeNarrowing_4_5.2.1 14 38 ∧ zq_at zy_takeNarrowing_4_5.2.1 15 42 ∧ zq_at zy_takeNarrowing_4_5.2.1 16 42 ∧ zq_at zy_takeNarrowing_4_5.2.1 17 180 ∧ zq_at zy_takeNarrowing_4_5.2.1 18 0 ∧ zq_at zy_takeNarrowing_4_5.2.1 19 38 ∧ zq_at zy_takeNarrowing_4_5.2.1 20 153 ∧ zq_at zy_takeNarrowing_4_5.2.1 21 0 ∧ zq_at zy_takeNarrowing_4_5.2.1 22 10 ∧ zq_at zy_takeNarrowing_4_5.2.1 30 27 ∧ zq_at zy_takeNarrowing_4_5.2.1 31 181 ∧ zq_at zy_takeNarrowing_4_5.2.1 32 0 ∧ zq_at zy_takeNarrowing_4_5.2.1 33 35 ∧ zq_at zy_takeNarrowing_4_5.2.1 34 177 := by decide +kernel
theorem zd_4_5_0 : zz_D zy_takeNarrowing_4_5 0 (.aload_n 0) 1 1 := ⟨zq_42 zg_4_5_0.1, rfl⟩
theorem zd_4_5_1 : zz_D zy_takeNarrowing_4_5 1 (.iload_n 1) 1 2 := ⟨zq_27 zg_4_5_0.2.1, rfl⟩
theorem zd_4_5_2 : zz_D zy_takeNarrowing_4_5 2 (.bipush 16) 2 4 := ⟨zq_16 zg_4_5_0.2.2.1 zg_4_5_0.2.2.2.1 (by decide), rfl⟩
theorem zd_4_5_4 : zz_B zy_takeNarrowing_4_5 4 (Instr.if_icmp .lt) 11 7 := ⟨7, zq_161 zg_4_5_0.2.2.2.2.1 zg_4_5_0.2.2.2.2.2.1 zg_4_5_0.2.2.2.2.2.2.1 (by decide), rfl, rfl⟩
theorem zd_4_5_11 : zz_D zy_takeNarrowing_4_5 11 (.iconst 0) 1 12 := ⟨zq_3 zg_4_5_0.2.2.2.2.2.2.2.1, rfl⟩
theorem zd_4_5_12 : zz_D zy_takeNarrowing_4_5 12 (.putfield 38) 3 15 := ⟨zq_181 zg_4_5_0.2.2.2.2.2.2.2.2.1 zg_4_5_0.2.2.2.2.2.2.2.2.2.1 zg_4_5_0.2.2.2.2.2.2.2.2.2.2.1 rfl, rfl⟩
theorem zd_4_5_15 : zz_D zy_takeNarrowing_4_5 15 (.aload_n 0) 1 16 := ⟨zq_42 zg_4_5_0.2.2.2.2.2.2.2.2.2.2.2.1, rfl⟩
theorem zd_4_5_16 : zz_D zy_takeNarrowing_4_5 16 (.aload_n 0) 1 17 := ⟨zq_42 zg_4_5_0.2.2.2.2.2.2.2.2.2.2.2.2.1, rfl⟩
theorem zd_4_5_17 : zz_D zy_takeNarrowing_4_5 17 (.getfield 38) 3 20 := ⟨zq_180 zg_4_5_0.2.2.2.2.2.2.2.2.2.2.2.2.2.1 zg_4_5_0.2.2.2.2.2.2.2.2.2.2.2.2.2.2.1 zg_4_5_0.2.2.2.2.2.2.2.2.2.2.2.2.2.2.2.1 rfl, rfl⟩
theorem zd_4_5_20 : zz_B zy_takeNarrowing_4_5 20 (Instr.ifCond .eq) 30 23 := ⟨10, zq_153 zg_4_5_0.2.2.2.2.2.2.2.2.2.2.2.2.2.2.2.2.1 zg_4_5_0.2.2.2.2.2.2.2.2.2.2.2.2.2.2.2.2.2.1 zg_4_5_0.2.2.2.2.2.2.2.2.2.2.2.2.2.2.2.2.2.2.1 (by decide), rfl, rfl⟩
theorem zd_4_5_30 : zz_D zy_takeNarrowing_4_5 30 (.iload_n 1) 1 31 := ⟨zq_27 zg_4_5_0.2.2.2.2.2.2.2.2.2.2.2.2.2.2.2.2.2.2.2.1, rfl⟩
theorem zd_4_5_31 : zz_D zy_takeNarrowing_4_5 31 (.putfield 35) 3 34 := ⟨zq_181 zg_4_5_0.2.2.2.2.2.2.2.2.2.2.2.2.2.2.2.2.2.2.2.2.1 zg_4_5_0.2.2.2.2.2.2.2.2.2.2.2.2.2.2.2.2.2.2.2.2.2.1 zg_4_5_0.2.2.2.2.2.2.2.2.2.2.2.2.2.2.2.2.2.2.2.2.2.2.1 rfl, rfl⟩
theorem zd_4_5_34 : zz_D zy_takeNarrowing_4_5 34 (.return_) 1 35 := ⟨zq_177 zg_4_5_0.2.2.2.2.2.2.2.2.2.2.2.2.2.2.2.2.2.2.2.2.2.2.2, rfl⟩
theorem zg_4_5_7 : zq_at zy_takeNarrowing_4_5.2.1 7 4 ∧ zq_at zy_takeNarrowing_4_5.2.1 8 167 ∧ zq_at zy_takeNarrowing_4_5.2.1 9 0 ∧ zq_at zy_takeNarrowing_4_5.2.1 10 4 ∧ zq_at zy_takeNarrowing_4_5.2.1 23 27 ∧ zq_at zy_takeNarrowing_4_5.2.1 24 16 ∧ zq_at zy_takeNarrowing_4_5.2.1 25 16 ∧ zq_at zy_takeNarrowing_4_5.2.1 26 100 ∧ zq_at zy_takeNarrowing_4_5.2.1 27 167 ∧ zq_at zy_takeNarrowing_4_5.2.1 28 0 ∧ zq_at zy_takeNarrowing_4_5.2.1 29 4 := by decide +kernel
theorem zd_4_5_7 : zz_D zy_takeNarrowing_4_5 7 (.iconst 1) 1 8 := ⟨zq_4 zg_4_5_7.1, rfl⟩
theorem zd_4_5_8 : zz_B zy_takeNarrowing_4_5 8 Instr.goto 12 11 := ⟨4, zq_167 zg_4_5_7.2.1 zg_4_5_7.2.2.1 zg_4_5_7.2.2.2.1 (by decide), rfl, rfl⟩
theorem zd_4_5_23 : zz_D zy_takeNarrowing_4_5 23 (.iload_n 1) 1 24 := ⟨zq_27 zg_4_5_7.2.2.2.2.1, rfl⟩
theorem zd_4_5_24 : zz_D zy_takeNarrowing_4_5 24 (.bipush 16) 2 26 := ⟨zq_16 zg_4_5_7.2.2.2.2.2.1 zg_4_5_7.2.2.2.2.2.2.1 (by decide), rfl⟩
theorem zd_4_5_26 : zz_D zy_takeNarrowing_4_5 26 (.isub) 1 27 := ⟨zq_100 zg_4_5_7.2.2.2.2.2.2.2.1, rfl⟩
theorem zd_4_5_27 : zz_B zy_takeNarrowing_4_5 27 Instr.goto 31 30 := ⟨4, zq_167 zg_4_5_7.2.2.2.2.2.2.2.2.1 zg_4_5_7.2.2.2.2.2.2.2.2.2.1 zg_4_5_7.2.2.2.2.2.2.2.2.2.2 (by decide), rfl, rfl⟩
-- TensorForge$Layer takeNarrowing (I)V
abbrev zr_takeNarrowing_4_5 : Room := { frames := 0, cells := 0, slots := 0, locals := 0 }
def zp_takeNarrowing_4_5 (t : Int) (p0 : Int) (S0 : zz_S) : zz_S → Prop := fun S => zz_G S ∧ zz_fr [] [] (fun a i => (a = zz_rf 6 t ∧ i = 7) ∨ (a = zz_rf 6 t ∧ i = 8)) S0 S ∧ ((16 ≤ p0 ∧ S (zz_rf 6 t) 8 = 1 ∧ S (zz_rf 6 t) 7 = p0 - 16) ∨ (p0 < 16 ∧ S (zz_rf 6 t) 8 = 0 ∧ S (zz_rf 6 t) 7 = p0))
theorem zc_takeNarrowing_4_5 {g : mm_G} {l : Launch} (t : Int) (p0 : Int) (S0 : zz_S) (n : Nat) (hn : zz_end ≤ n) (G_S0 : zz_G S0) (ht : 0 ≤ t ∧ t ≤ 23) (hp0 : (-2147483648) ≤ p0 ∧ p0 ≤ 2147483647) : mm_Met g l zy_takeNarrowing_4_5 zr_takeNarrowing_4_5 [.ref (zz_rf 6 t), zi p0] (zz_M S0 n) n (zz_QV n (zp_takeNarrowing_4_5 t p0 S0)) := by
  refine zz_enter (by decide) (Nat.le_of_ble_eq_true rfl) (zz_less (ls1 := [some (.ref (zz_rf 6 t)), some (zi p0)]) ⟨rfl, ⟨rfl, trivial⟩⟩ ?_)
  have F_S0 : zz_fr [] [] (fun a i => (a = zz_rf 6 t ∧ i = 7) ∨ (a = zz_rf 6 t ∧ i = 8)) S0 S0 := zz_fr.refl
  have b_t := zz_rf6 (z := t) (by omega)
  refine zz_aload_n (x := zz_rf 6 t) rfl zd_4_5_0 ?_
  refine zz_iload_n (x := p0) rfl zd_4_5_1 ?_
  refine zz_bipush (by decide) zd_4_5_2 ?_
  refine zz_icmp_lt (by omega) (by omega) zd_4_5_4 (fun c1 => ?_) (fun c1 => ?_)
  · refine zz_iconst zd_4_5_11 ?_
    refine zz_putz zd_4_5_12 zf_Layer_38 (zT_k6 (by omega)) rfl (zN_k6 hn (by omega)) (by omega) (fun S2 qS2 => ?_)
    have G_S2 := zz_G.put G_S0 qS2 0 1 (zR_k6_8 (by omega)) (by omega)
    have F_S2 := zz_fr.putv F_S0 qS2 (Or.inr (⟨rfl, rfl⟩))
    refine zz_aload_n (x := zz_rf 6 t) rfl zd_4_5_15 ?_
    refine zz_aload_n (x := zz_rf 6 t) rfl zd_4_5_16 ?_
    refine zz_geti (z := 0) zd_4_5_17 zf_Layer_38 (zT_k6 (by omega)) rfl (zN_k6 hn (by omega)) (zz_rs qS2) ?_
    refine zz_if_eq (by omega) zd_4_5_20 (fun c3 => ?_) (fun c3 => ?_)
    · refine zz_iload_n (x := p0) rfl zd_4_5_30 ?_
      refine zz_puti zd_4_5_31 zf_Layer_35 (zT_k6 (by omega)) rfl (zN_k6 hn (by omega)) (fun S4 qS4 => ?_)
      have G_S4 := zz_G.put G_S2 qS4 (-2147483648) 2147483647 (zR_k6_7 (by omega)) (by omega)
      have F_S4 := zz_fr.putv F_S2 qS4 (Or.inl ⟨rfl, rfl⟩)
      have e5 : S4 (zz_rf 6 t) 7 = p0 := (zz_rs qS4)
      have e6 : S4 (zz_rf 6 t) 8 = 0 := (zz_ro qS4 (fun h => absurd h.2 (by decide)) (zz_rs qS2))
      exact zz_vret zd_4_5_34 rfl (Nat.zero_le _) (Nat.zero_le _) ⟨_, rfl, G_S4, F_S4, by omega⟩
    · exfalso; omega
  · refine zz_iconst zd_4_5_7 ?_
    refine zz_goto zd_4_5_8 ?_
    refine zz_putz zd_4_5_12 zf_Layer_38 (zT_k6 (by omega)) rfl (zN_k6 hn (by omega)) (by omega) (fun S7 qS7 => ?_)
    have G_S7 := zz_G.put G_S0 qS7 0 1 (zR_k6_8 (by omega)) (by omega)
    have F_S7 := zz_fr.putv F_S0 qS7 (Or.inr (⟨rfl, rfl⟩))
    refine zz_aload_n (x := zz_rf 6 t) rfl zd_4_5_15 ?_
    refine zz_aload_n (x := zz_rf 6 t) rfl zd_4_5_16 ?_
    refine zz_geti (z := 1) zd_4_5_17 zf_Layer_38 (zT_k6 (by omega)) rfl (zN_k6 hn (by omega)) (zz_rs qS7) ?_
    refine zz_if_eq (by omega) zd_4_5_20 (fun c8 => ?_) (fun c8 => ?_)
    · exfalso; omega
    · refine zz_iload_n (x := p0) rfl zd_4_5_23 ?_
      refine zz_bipush (by decide) zd_4_5_24 ?_
      refine zz_isub zd_4_5_26 ?_
      refine zz_goto zd_4_5_27 ?_
      refine zz_puti zd_4_5_31 zf_Layer_35 (zT_k6 (by omega)) rfl (zN_k6 hn (by omega)) (fun S9 qS9 => ?_)
      have G_S9 := zz_G.put G_S7 qS9 (-2147483648) 2147483647 (zR_k6_7 (by omega)) (by omega)
      have F_S9 := zz_fr.putv F_S7 qS9 (Or.inl ⟨rfl, rfl⟩)
      have e10 : S9 (zz_rf 6 t) 7 = p0 - 16 := (zz_rs qS9)
      have e11 : S9 (zz_rf 6 t) 8 = 1 := (zz_ro qS9 (fun h => absurd h.2 (by decide)) (zz_rs qS7))
      exact zz_vret zd_4_5_34 rfl (Nat.zero_le _) (Nat.zero_le _) ⟨_, rfl, G_S9, F_S9, by omega⟩
theorem zk_TF_238 : mm_Vl "TensorForge" 238 2 1 zy_takeNarrowing_4_5 := ⟨zyw_takeNarrowing_4_5, (R_Layer, F_Layer, 15), rfl, mm_tb_1 1363 (by decide +kernel) rfl, mm_tb_1 1364 (by decide +kernel) rfl, mm_tb_1 1365 (by decide +kernel) rfl⟩
theorem zf_TF_241 : mm_Fl "TensorForge" 241 2 12 .int false := ⟨R_Layer, F_Layer, 15, t_Layer, rfl, i_Layer, by decide, mm_tb_1 106 (by decide +kernel) rfl, rfl, t_Layer_ok, n_Layer, rfl, by decide +kernel⟩
theorem zf_TF_244 : mm_Fl "TensorForge" 244 2 9 .int false := ⟨R_Layer, F_Layer, 15, t_Layer, rfl, i_Layer, by decide, mm_tb_1 93 (by decide +kernel) rfl, rfl, t_Layer_ok, n_Layer, rfl, by decide +kernel⟩
abbrev zy_added_1_31 : mm_Y := (⟨"TensorForge", "added", "()I"⟩, prog_1_method_31_code, 2, (some .int))
theorem zyw_added_1_31 : mm_Yw zy_added_1_31 0 := ⟨mm_tb_1 1370 (by decide +kernel) rfl, mm_tb_1 1 (by decide +kernel) rfl, ⟨by decide, by decide⟩, by decide +kernel⟩
abbrev zy_offer_7_7 : mm_Y := (⟨"TensorForge$Network", "offer", "()I"⟩, prog_7_method_7_code, 3, (some .int))
theorem zyw_offer_7_7 : mm_Yw zy_offer_7_7 0 := ⟨mm_tb_1 992 (by decide +kernel) rfl, mm_tb_1 2 (by decide +kernel) rfl, ⟨by decide, by decide⟩, by decide +kernel⟩
theorem zk_Network_34 : mm_Vl "TensorForge$Network" 34 1 0 zy_draft_7_6 := ⟨zyw_draft_7_6, (R_Network, F_Network, 2), rfl, mm_tb_1 993 (by decide +kernel) rfl, mm_tb_1 941 (by decide +kernel) rfl, mm_tb_1 942 (by decide +kernel) rfl⟩
theorem zf_Network_38 : mm_Fl "TensorForge$Network" 38 2 1 .int false := ⟨R_Layer, F_Layer, 15, t_Layer, rfl, i_Layer, by decide, mm_tb_1 63 (by decide +kernel) rfl, rfl, t_Layer_ok, n_Layer, rfl, by decide +kernel⟩
abbrev zy_has_7_5 : mm_Y := (⟨"TensorForge$Network", "has", "(I)Z"⟩, prog_7_method_5_code, 2, (some .boolean))
theorem zyw_has_7_5 : mm_Yw zy_has_7_5 1 := ⟨mm_tb_1 861 (by decide +kernel) rfl, mm_tb_1 2 (by decide +kernel) rfl, ⟨by decide, by decide⟩, by decide +kernel⟩
theorem zg_1_19_57 : zq_at zy_convolution_1_19.2.1 57 25 ∧ zq_at zy_convolution_1_19.2.1 58 7 ∧ zq_at zy_convolution_1_19.2.1 59 29 ∧ zq_at zy_convolution_1_19.2.1 60 181 ∧ zq_at zy_convolution_1_19.2.1 61 0 ∧ zq_at zy_convolution_1_19.2.1 62 241 ∧ zq_at zy_convolution_1_19.2.1 63 25 ∧ zq_at zy_convolution_1_19.2.1 64 7 ∧ zq_at zy_convolution_1_19.2.1 65 21 ∧ zq_at zy_convolution_1_19.2.1 66 6 ∧ zq_at zy_convolution_1_19.2.1 67 181 ∧ zq_at zy_convolution_1_19.2.1 68 0 ∧ zq_at zy_convolution_1_19.2.1 69 244 ∧ zq_at zy_convolution_1_19.2.1 70 42 ∧ zq_at zy_convolution_1_19.2.1 71 182 ∧ zq_at zy_convolution_1_19.2.1 72 0 ∧ zq_at zy_convolution_1_19.2.1 73 247 := by decide +kernel
theorem zd_1_19_57 : zz_D zy_convolution_1_19 57 (.aload 7) 2 59 := ⟨zq_25 zg_1_19_57.1 zg_1_19_57.2.1, rfl⟩
theorem zd_1_19_59 : zz_D zy_convolution_1_19 59 (.iload_n 3) 1 60 := ⟨zq_29 zg_1_19_57.2.2.1, rfl⟩
theorem zd_1_19_60 : zz_D zy_convolution_1_19 60 (.putfield 241) 3 63 := ⟨zq_181 zg_1_19_57.2.2.2.1 zg_1_19_57.2.2.2.2.1 zg_1_19_57.2.2.2.2.2.1 rfl, rfl⟩
theorem zd_1_19_63 : zz_D zy_convolution_1_19 63 (.aload 7) 2 65 := ⟨zq_25 zg_1_19_57.2.2.2.2.2.2.1 zg_1_19_57.2.2.2.2.2.2.2.1, rfl⟩
theorem zd_1_19_65 : zz_D zy_convolution_1_19 65 (.iload 6) 2 67 := ⟨zq_21 zg_1_19_57.2.2.2.2.2.2.2.2.1 zg_1_19_57.2.2.2.2.2.2.2.2.2.1, rfl⟩
theorem zd_1_19_67 : zz_D zy_convolution_1_19 67 (.putfield 244) 3 70 := ⟨zq_181 zg_1_19_57.2.2.2.2.2.2.2.2.2.2.1 zg_1_19_57.2.2.2.2.2.2.2.2.2.2.2.1 zg_1_19_57.2.2.2.2.2.2.2.2.2.2.2.2.1 rfl, rfl⟩
theorem zd_1_19_70 : zz_D zy_convolution_1_19 70 (.aload_n 0) 1 71 := ⟨zq_42 zg_1_19_57.2.2.2.2.2.2.2.2.2.2.2.2.2.1, rfl⟩
theorem zd_1_19_71 : zz_D zy_convolution_1_19 71 (.invokevirtual 247) 3 74 := ⟨zq_182 zg_1_19_57.2.2.2.2.2.2.2.2.2.2.2.2.2.2.1 zg_1_19_57.2.2.2.2.2.2.2.2.2.2.2.2.2.2.2.1 zg_1_19_57.2.2.2.2.2.2.2.2.2.2.2.2.2.2.2.2 rfl, rfl⟩
theorem zg_1_31_0 : zq_at zy_added_1_31.2.1 0 42 ∧ zq_at zy_added_1_31.2.1 1 180 ∧ zq_at zy_added_1_31.2.1 2 0 ∧ zq_at zy_added_1_31.2.1 3 10 ∧ zq_at zy_added_1_31.2.1 4 182 ∧ zq_at zy_added_1_31.2.1 5 1 ∧ zq_at zy_added_1_31.2.1 6 70 := by decide +kernel
theorem zd_1_31_0 : zz_D zy_added_1_31 0 (.aload_n 0) 1 1 := ⟨zq_42 zg_1_31_0.1, rfl⟩
theorem zd_1_31_1 : zz_D zy_added_1_31 1 (.getfield 10) 3 4 := ⟨zq_180 zg_1_31_0.2.1 zg_1_31_0.2.2.1 zg_1_31_0.2.2.2.1 rfl, rfl⟩
theorem zd_1_31_4 : zz_D zy_added_1_31 4 (.invokevirtual 326) 3 7 := ⟨zq_182 zg_1_31_0.2.2.2.2.1 zg_1_31_0.2.2.2.2.2.1 zg_1_31_0.2.2.2.2.2.2 rfl, rfl⟩
theorem zg_7_7_0 : zq_at zy_offer_7_7.2.1 0 42 ∧ zq_at zy_offer_7_7.2.1 1 182 ∧ zq_at zy_offer_7_7.2.1 2 0 ∧ zq_at zy_offer_7_7.2.1 3 34 ∧ zq_at zy_offer_7_7.2.1 4 76 ∧ zq_at zy_offer_7_7.2.1 5 42 ∧ zq_at zy_offer_7_7.2.1 6 43 ∧ zq_at zy_offer_7_7.2.1 7 180 ∧ zq_at zy_offer_7_7.2.1 8 0 ∧ zq_at zy_offer_7_7.2.1 9 38 ∧ zq_at zy_offer_7_7.2.1 10 182 ∧ zq_at zy_offer_7_7.2.1 11 0 ∧ zq_at zy_offer_7_7.2.1 12 41 := by decide +kernel
theorem zd_7_7_0 : zz_D zy_offer_7_7 0 (.aload_n 0) 1 1 := ⟨zq_42 zg_7_7_0.1, rfl⟩
theorem zd_7_7_1 : zz_D zy_offer_7_7 1 (.invokevirtual 34) 3 4 := ⟨zq_182 zg_7_7_0.2.1 zg_7_7_0.2.2.1 zg_7_7_0.2.2.2.1 rfl, rfl⟩
theorem zd_7_7_4 : zz_D zy_offer_7_7 4 (.astore_n 1) 1 5 := ⟨zq_76 zg_7_7_0.2.2.2.2.1, rfl⟩
theorem zd_7_7_5 : zz_D zy_offer_7_7 5 (.aload_n 0) 1 6 := ⟨zq_42 zg_7_7_0.2.2.2.2.2.1, rfl⟩
theorem zd_7_7_6 : zz_D zy_offer_7_7 6 (.aload_n 1) 1 7 := ⟨zq_43 zg_7_7_0.2.2.2.2.2.2.1, rfl⟩
theorem zd_7_7_7 : zz_D zy_offer_7_7 7 (.getfield 38) 3 10 := ⟨zq_180 zg_7_7_0.2.2.2.2.2.2.2.1 zg_7_7_0.2.2.2.2.2.2.2.2.1 zg_7_7_0.2.2.2.2.2.2.2.2.2.1 rfl, rfl⟩
theorem zd_7_7_10 : zz_D zy_offer_7_7 10 (.invokevirtual 41) 3 13 := ⟨zq_182 zg_7_7_0.2.2.2.2.2.2.2.2.2.2.1 zg_7_7_0.2.2.2.2.2.2.2.2.2.2.2.1 zg_7_7_0.2.2.2.2.2.2.2.2.2.2.2.2 rfl, rfl⟩
theorem zg_7_5_0 : zq_at zy_has_7_5.2.1 0 27 ∧ zq_at zy_has_7_5.2.1 1 155 ∧ zq_at zy_has_7_5.2.1 2 0 ∧ zq_at zy_has_7_5.2.1 3 15 ∧ zq_at zy_has_7_5.2.1 16 3 ∧ zq_at zy_has_7_5.2.1 17 172 ∧ zq_at zy_has_7_5.2.1 4 27 ∧ zq_at zy_has_7_5.2.1 5 42 ∧ zq_at zy_has_7_5.2.1 6 180 ∧ zq_at zy_has_7_5.2.1 7 0 ∧ zq_at zy_has_7_5.2.1 8 16 ∧ zq_at zy_has_7_5.2.1 9 162 ∧ zq_at zy_has_7_5.2.1 10 0 ∧ zq_at zy_has_7_5.2.1 11 7 ∧ zq_at zy_has_7_5.2.1 12 4 ∧ zq_at zy_has_7_5.2.1 13 167 ∧ zq_at zy_has_7_5.2.1 14 0 ∧ zq_at zy_has_7_5.2.1 15 4 := by decide +kernel
theorem zd_7_5_0 : zz_D zy_has_7_5 0 (.iload_n 1) 1 1 := ⟨zq_27 zg_7_5_0.1, rfl⟩
theorem zd_7_5_1 : zz_B zy_has_7_5 1 (Instr.ifCond .lt) 16 4 := ⟨15, zq_155 zg_7_5_0.2.1 zg_7_5_0.2.2.1 zg_7_5_0.2.2.2.1 (by decide), rfl, rfl⟩
theorem zd_7_5_16 : zz_D zy_has_7_5 16 (.iconst 0) 1 17 := ⟨zq_3 zg_7_5_0.2.2.2.2.1, rfl⟩
theorem zd_7_5_17 : zz_D zy_has_7_5 17 (.ireturn) 1 18 := ⟨zq_172 zg_7_5_0.2.2.2.2.2.1, rfl⟩
theorem zd_7_5_4 : zz_D zy_has_7_5 4 (.iload_n 1) 1 5 := ⟨zq_27 zg_7_5_0.2.2.2.2.2.2.1, rfl⟩
theorem zd_7_5_5 : zz_D zy_has_7_5 5 (.aload_n 0) 1 6 := ⟨zq_42 zg_7_5_0.2.2.2.2.2.2.2.1, rfl⟩
theorem zd_7_5_6 : zz_D zy_has_7_5 6 (.getfield 16) 3 9 := ⟨zq_180 zg_7_5_0.2.2.2.2.2.2.2.2.1 zg_7_5_0.2.2.2.2.2.2.2.2.2.1 zg_7_5_0.2.2.2.2.2.2.2.2.2.2.1 rfl, rfl⟩
theorem zd_7_5_9 : zz_B zy_has_7_5 9 (Instr.if_icmp .ge) 16 12 := ⟨7, zq_162 zg_7_5_0.2.2.2.2.2.2.2.2.2.2.2.1 zg_7_5_0.2.2.2.2.2.2.2.2.2.2.2.2.1 zg_7_5_0.2.2.2.2.2.2.2.2.2.2.2.2.2.1 (by decide), rfl, rfl⟩
theorem zd_7_5_12 : zz_D zy_has_7_5 12 (.iconst 1) 1 13 := ⟨zq_4 zg_7_5_0.2.2.2.2.2.2.2.2.2.2.2.2.2.2.1, rfl⟩
theorem zd_7_5_13 : zz_B zy_has_7_5 13 Instr.goto 17 16 := ⟨4, zq_167 zg_7_5_0.2.2.2.2.2.2.2.2.2.2.2.2.2.2.2.1 zg_7_5_0.2.2.2.2.2.2.2.2.2.2.2.2.2.2.2.2.1 zg_7_5_0.2.2.2.2.2.2.2.2.2.2.2.2.2.2.2.2.2 (by decide), rfl, rfl⟩

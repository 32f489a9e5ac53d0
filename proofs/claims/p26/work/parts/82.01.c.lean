theorem zxl_TF_87_160_91 : mm_Xl "TensorForge" 87 160 91 0 := ⟨mm_tb_1 1048 (by decide +kernel) rfl, mm_tb_1 1049 (by decide +kernel) rfl, mm_tb_1 16 (by decide +kernel) rfl, ⟨40, by decide +kernel⟩, zxa_TF_91⟩
theorem zg_1_12_0 : zq_at zy_end_1_12.2.1 0 27 ∧ zq_at zy_end_1_12.2.1 1 155 ∧ zq_at zy_end_1_12.2.1 2 0 ∧ zq_at zy_end_1_12.2.1 3 14 ∧ zq_at zy_end_1_12.2.1 4 27 ∧ zq_at zy_end_1_12.2.1 5 42 ∧ zq_at zy_end_1_12.2.1 6 180 ∧ zq_at zy_end_1_12.2.1 7 0 ∧ zq_at zy_end_1_12.2.1 8 49 ∧ zq_at zy_end_1_12.2.1 9 180 ∧ zq_at zy_end_1_12.2.1 10 0 ∧ zq_at zy_end_1_12.2.1 11 159 ∧ zq_at zy_end_1_12.2.1 12 164 ∧ zq_at zy_end_1_12.2.1 13 0 ∧ zq_at zy_end_1_12.2.1 14 13 ∧ zq_at zy_end_1_12.2.1 25 42 ∧ zq_at zy_end_1_12.2.1 26 180 ∧ zq_at zy_end_1_12.2.1 27 0 ∧ zq_at zy_end_1_12.2.1 28 49 ∧ zq_at zy_end_1_12.2.1 29 27 ∧ zq_at zy_end_1_12.2.1 30 181 ∧ zq_at zy_end_1_12.2.1 31 0 ∧ zq_at zy_end_1_12.2.1 32 159 ∧ zq_at zy_end_1_12.2.1 33 177 := by decide +kernel
theorem zd_1_12_0 : zz_D zy_end_1_12 0 (.iload_n 1) 1 1 := ⟨zq_27 zg_1_12_0.1, rfl⟩
theorem zd_1_12_1 : zz_B zy_end_1_12 1 (Instr.ifCond .lt) 15 4 := ⟨14, zq_155 zg_1_12_0.2.1 zg_1_12_0.2.2.1 zg_1_12_0.2.2.2.1 (by decide), rfl, rfl⟩
theorem zd_1_12_4 : zz_D zy_end_1_12 4 (.iload_n 1) 1 5 := ⟨zq_27 zg_1_12_0.2.2.2.2.1, rfl⟩
theorem zd_1_12_5 : zz_D zy_end_1_12 5 (.aload_n 0) 1 6 := ⟨zq_42 zg_1_12_0.2.2.2.2.2.1, rfl⟩
theorem zd_1_12_6 : zz_D zy_end_1_12 6 (.getfield 49) 3 9 := ⟨zq_180 zg_1_12_0.2.2.2.2.2.2.1 zg_1_12_0.2.2.2.2.2.2.2.1 zg_1_12_0.2.2.2.2.2.2.2.2.1 rfl, rfl⟩
theorem zd_1_12_9 : zz_D zy_end_1_12 9 (.getfield 159) 3 12 := ⟨zq_180 zg_1_12_0.2.2.2.2.2.2.2.2.2.1 zg_1_12_0.2.2.2.2.2.2.2.2.2.2.1 zg_1_12_0.2.2.2.2.2.2.2.2.2.2.2.1 rfl, rfl⟩
theorem zd_1_12_12 : zz_B zy_end_1_12 12 (Instr.if_icmp .le) 25 15 := ⟨13, zq_164 zg_1_12_0.2.2.2.2.2.2.2.2.2.2.2.2.1 zg_1_12_0.2.2.2.2.2.2.2.2.2.2.2.2.2.1 zg_1_12_0.2.2.2.2.2.2.2.2.2.2.2.2.2.2.1 (by decide), rfl, rfl⟩
theorem zd_1_12_25 : zz_D zy_end_1_12 25 (.aload_n 0) 1 26 := ⟨zq_42 zg_1_12_0.2.2.2.2.2.2.2.2.2.2.2.2.2.2.2.1, rfl⟩
theorem zd_1_12_26 : zz_D zy_end_1_12 26 (.getfield 49) 3 29 := ⟨zq_180 zg_1_12_0.2.2.2.2.2.2.2.2.2.2.2.2.2.2.2.2.1 zg_1_12_0.2.2.2.2.2.2.2.2.2.2.2.2.2.2.2.2.2.1 zg_1_12_0.2.2.2.2.2.2.2.2.2.2.2.2.2.2.2.2.2.2.1 rfl, rfl⟩
theorem zd_1_12_29 : zz_D zy_end_1_12 29 (.iload_n 1) 1 30 := ⟨zq_27 zg_1_12_0.2.2.2.2.2.2.2.2.2.2.2.2.2.2.2.2.2.2.2.1, rfl⟩
theorem zd_1_12_30 : zz_D zy_end_1_12 30 (.putfield 159) 3 33 := ⟨zq_181 zg_1_12_0.2.2.2.2.2.2.2.2.2.2.2.2.2.2.2.2.2.2.2.2.1 zg_1_12_0.2.2.2.2.2.2.2.2.2.2.2.2.2.2.2.2.2.2.2.2.2.1 zg_1_12_0.2.2.2.2.2.2.2.2.2.2.2.2.2.2.2.2.2.2.2.2.2.2.1 rfl, rfl⟩
theorem zd_1_12_33 : zz_D zy_end_1_12 33 (.return_) 1 34 := ⟨zq_177 zg_1_12_0.2.2.2.2.2.2.2.2.2.2.2.2.2.2.2.2.2.2.2.2.2.2.2, rfl⟩
-- TensorForge end (I)V
abbrev zr_end_1_12 : Room := { frames := 6, cells := 1, slots := 6, locals := 82 }
def zp_end_1_12 (p0 : Int) (S0 : zz_S) : zz_S → Prop := fun S => zz_G S ∧ zz_fr [(1070, 1)] [] (fun _ _ => False) S0 S ∧ (0 ≤ p0 ∧ p0 ≤ S0 1070 1) ∧ (S 1070 1 = p0)
def zx_end_1_12 (p0 : Int) (S0 : zz_S) : Nat → zz_S → Prop := fun i S => zz_G S ∧ zz_fr [(1070, 1)] [] (fun _ _ => False) S0 S ∧ (i < 4) ∧ (i = 0 ∧ (p0 < 0 ∨ S0 1070 1 < p0)) ∧ (S 1070 1 = S0 1070 1)
theorem zc_end_1_12 {g : mm_G} {l : Launch} (p0 : Int) (S0 : zz_S) (n : Nat) (hn : zz_end ≤ n) (hfl : l.flags = flags0) (G_S0 : zz_G S0) (hp0 : (-2147483648) ≤ p0 ∧ p0 ≤ 2147483647) : mm_Met g l zy_end_1_12 zr_end_1_12 [.ref 1000, zi p0] (zz_M S0 n) n (zz_XV n (zp_end_1_12 p0 S0) (zx_end_1_12 p0 S0)) := by
  refine zz_enter (by decide) (Nat.le_of_ble_eq_true rfl) (zz_less (ls1 := [some (.ref 1000), some (zi p0)]) ⟨rfl, ⟨rfl, trivial⟩⟩ ?_)
  have F_S0 : zz_fr [(1070, 1)] [] (fun _ _ => False) S0 S0 := zz_fr.refl
  refine zz_iload_n (x := p0) rfl zd_1_12_0 ?_
  refine zz_if_lt (by omega) zd_1_12_1 (fun c1 => ?_) (fun c1 => ?_)
  · have g2 := zz_G.r G_S0 1070 1 0 1500 rfl rfl
    exact zz_throw (i := 0) hfl hn zt_1_12_15 zyw_end_1_12 zxl_TF_87_160_91 (Nat.le_of_ble_eq_true rfl) (Nat.le_of_ble_eq_true rfl) ⟨Nat.le_of_ble_eq_true rfl, Nat.le_of_ble_eq_true rfl⟩ (Or.inr ⟨_, _, rfl, G_S0, F_S0, by omega, by omega, by omega⟩)
  · refine zz_iload_n (x := p0) rfl zd_1_12_4 ?_
    refine zz_aload_n (x := 1000) rfl zd_1_12_5 ?_
    refine zz_getr (kd := 0) (z := 1070) zd_1_12_6 zf_TF_49 zT_1000 rfl (zz_ltn hn rfl) (zz_G.eq G_S0 1000 2 1070 rfl rfl) (by decide) 1070 rfl ?_
    have g3 := zz_G.r G_S0 1070 1 0 1500 rfl rfl
    refine zz_geti (z := S0 1070 1) zd_1_12_9 zf_TF_159 zT_1070 rfl (zz_ltn hn rfl) rfl ?_
    refine zz_icmp_le (by omega) (by omega) zd_1_12_12 (fun c4 => ?_) (fun c4 => ?_)
    · refine zz_aload_n (x := 1000) rfl zd_1_12_25 ?_
      refine zz_getr (kd := 0) (z := 1070) zd_1_12_26 zf_TF_49 zT_1000 rfl (zz_ltn hn rfl) (zz_G.eq G_S0 1000 2 1070 rfl rfl) (by decide) 1070 rfl ?_
      refine zz_iload_n (x := p0) rfl zd_1_12_29 ?_
      refine zz_puti zd_1_12_30 zf_TF_159 zT_1070 rfl (zz_ltn hn rfl) (fun S5 qS5 => ?_)
      have G_S5 := zz_G.put G_S0 qS5 0 1500 rfl (by omega)
      have F_S5 := zz_fr.puts F_S0 qS5 rfl
      have e6 : S5 1070 1 = p0 := (zz_rs qS5)
      exact zz_vret zd_1_12_33 rfl (Nat.le_of_ble_eq_true rfl) (Nat.le_of_ble_eq_true rfl) (Or.inl ⟨_, rfl, G_S5, F_S5, by omega, by omega⟩)
    · exact zz_throw (i := 0) hfl hn zt_1_12_15 zyw_end_1_12 zxl_TF_87_160_91 (Nat.le_of_ble_eq_true rfl) (Nat.le_of_ble_eq_true rfl) ⟨Nat.le_of_ble_eq_true rfl, Nat.le_of_ble_eq_true rfl⟩ (Or.inr ⟨_, _, rfl, G_S0, F_S0, by omega, by omega, by omega⟩)
abbrev zy_assemble_1_13 : mm_Y := (⟨"TensorForge", "assemble", "()I"⟩, prog_1_method_13_code, 2, (some .int))
theorem zyw_assemble_1_13 : mm_Yw zy_assemble_1_13 0 := ⟨mm_tb_1 559 (by decide +kernel) rfl, mm_tb_1 1 (by decide +kernel) rfl, ⟨by decide, by decide⟩, by decide +kernel⟩
abbrev zy_readInto_2_2 : mm_Y := (⟨"TensorForge$Assembler", "readInto", "([J)I"⟩, prog_2_method_2_code, 3, (some .int))
theorem zyw_readInto_2_2 : mm_Yw zy_readInto_2_2 1 := ⟨mm_tb_1 563 (by decide +kernel) rfl, mm_tb_1 8 (by decide +kernel) rfl, ⟨by decide, by decide⟩, by decide +kernel⟩
theorem zg_1_13_0 : zq_at zy_assemble_1_13.2.1 0 42 ∧ zq_at zy_assemble_1_13.2.1 1 180 ∧ zq_at zy_assemble_1_13.2.1 2 0 ∧ zq_at zy_assemble_1_13.2.1 3 58 ∧ zq_at zy_assemble_1_13.2.1 4 42 ∧ zq_at zy_assemble_1_13.2.1 5 180 ∧ zq_at zy_assemble_1_13.2.1 6 0 ∧ zq_at zy_assemble_1_13.2.1 7 23 ∧ zq_at zy_assemble_1_13.2.1 8 182 ∧ zq_at zy_assemble_1_13.2.1 9 0 ∧ zq_at zy_assemble_1_13.2.1 10 162 := by decide +kernel
theorem zd_1_13_0 : zz_D zy_assemble_1_13 0 (.aload_n 0) 1 1 := ⟨zq_42 zg_1_13_0.1, rfl⟩
theorem zd_1_13_1 : zz_D zy_assemble_1_13 1 (.getfield 58) 3 4 := ⟨zq_180 zg_1_13_0.2.1 zg_1_13_0.2.2.1 zg_1_13_0.2.2.2.1 rfl, rfl⟩
theorem zd_1_13_4 : zz_D zy_assemble_1_13 4 (.aload_n 0) 1 5 := ⟨zq_42 zg_1_13_0.2.2.2.2.1, rfl⟩
theorem zd_1_13_5 : zz_D zy_assemble_1_13 5 (.getfield 23) 3 8 := ⟨zq_180 zg_1_13_0.2.2.2.2.2.1 zg_1_13_0.2.2.2.2.2.2.1 zg_1_13_0.2.2.2.2.2.2.2.1 rfl, rfl⟩
theorem zd_1_13_8 : zz_D zy_assemble_1_13 8 (.invokevirtual 162) 3 11 := ⟨zq_182 zg_1_13_0.2.2.2.2.2.2.2.2.1 zg_1_13_0.2.2.2.2.2.2.2.2.2.1 zg_1_13_0.2.2.2.2.2.2.2.2.2.2 rfl, rfl⟩
theorem zg_2_2_0 : zq_at zy_readInto_2_2.2.1 0 42 ∧ zq_at zy_readInto_2_2.2.1 1 3 ∧ zq_at zy_readInto_2_2.2.1 2 181 ∧ zq_at zy_readInto_2_2.2.1 3 0 ∧ zq_at zy_readInto_2_2.2.1 4 15 ∧ zq_at zy_readInto_2_2.2.1 5 42 ∧ zq_at zy_readInto_2_2.2.1 6 180 ∧ zq_at zy_readInto_2_2.2.1 7 0 ∧ zq_at zy_readInto_2_2.2.1 8 9 ∧ zq_at zy_readInto_2_2.2.1 9 182 ∧ zq_at zy_readInto_2_2.2.1 10 0 ∧ zq_at zy_readInto_2_2.2.1 11 26 := by decide +kernel
theorem zd_2_2_0 : zz_D zy_readInto_2_2 0 (.aload_n 0) 1 1 := ⟨zq_42 zg_2_2_0.1, rfl⟩
theorem zd_2_2_1 : zz_D zy_readInto_2_2 1 (.iconst 0) 1 2 := ⟨zq_3 zg_2_2_0.2.1, rfl⟩
theorem zd_2_2_2 : zz_D zy_readInto_2_2 2 (.putfield 15) 3 5 := ⟨zq_181 zg_2_2_0.2.2.1 zg_2_2_0.2.2.2.1 zg_2_2_0.2.2.2.2.1 rfl, rfl⟩
theorem zd_2_2_5 : zz_D zy_readInto_2_2 5 (.aload_n 0) 1 6 := ⟨zq_42 zg_2_2_0.2.2.2.2.2.1, rfl⟩
theorem zd_2_2_6 : zz_D zy_readInto_2_2 6 (.getfield 9) 3 9 := ⟨zq_180 zg_2_2_0.2.2.2.2.2.2.1 zg_2_2_0.2.2.2.2.2.2.2.1 zg_2_2_0.2.2.2.2.2.2.2.2.1 rfl, rfl⟩
theorem zd_2_2_9 : zz_D zy_readInto_2_2 9 (.invokevirtual 26) 3 12 := ⟨zq_182 zg_2_2_0.2.2.2.2.2.2.2.2.2.1 zg_2_2_0.2.2.2.2.2.2.2.2.2.2.1 zg_2_2_0.2.2.2.2.2.2.2.2.2.2.2 rfl, rfl⟩
-- TensorForge$Text rewind ()V
abbrev zr_rewind_11_5 : Room := { frames := 0, cells := 0, slots := 0, locals := 0 }
def zp_rewind_11_5  (S0 : zz_S) : zz_S → Prop := fun S => zz_G S ∧ zz_fr [(1070, 2), (1070, 3), (1070, 4), (1070, 5), (1070, 6)] [] (fun _ _ => False) S0 S ∧ (S 1070 2 = -1 ∧ S 1070 3 = 0)
theorem zc_rewind_11_5 {g : mm_G} {l : Launch}  (S0 : zz_S) (n : Nat) (hn : zz_end ≤ n) (G_S0 : zz_G S0)  : mm_Met g l zy_rewind_11_5 zr_rewind_11_5 [.ref 1070] (zz_M S0 n) n (zz_QV n (zp_rewind_11_5  S0)) := by
  refine zz_enter (by decide) (Nat.le_of_ble_eq_true rfl) (zz_less (ls1 := [some (.ref 1070)]) ⟨rfl, trivial⟩ ?_)
  have F_S0 : zz_fr [(1070, 2), (1070, 3), (1070, 4), (1070, 5), (1070, 6)] [] (fun _ _ => False) S0 S0 := zz_fr.refl
  refine zz_aload_n (x := 1070) rfl zd_11_5_0 ?_
  refine zz_iconst zd_11_5_1 ?_
  refine zz_puti zd_11_5_2 zf_Text_22 zT_1070 rfl (zz_ltn hn rfl) (fun S1 qS1 => ?_)
  have G_S1 := zz_G.put G_S0 qS1 (-1) 1500 rfl (by omega)
  have F_S1 := zz_fr.puts F_S0 qS1 rfl
  refine zz_aload_n (x := 1070) rfl zd_11_5_5 ?_
  refine zz_iconst zd_11_5_6 ?_
  refine zz_puti zd_11_5_7 zf_Text_25 zT_1070 rfl (zz_ltn hn rfl) (fun S2 qS2 => ?_)
  have G_S2 := zz_G.put G_S1 qS2 0 1500 rfl (by omega)
  have F_S2 := zz_fr.puts F_S1 qS2 rfl
  refine zz_aload_n (x := 1070) rfl zd_11_5_10 ?_
  refine zz_iconst zd_11_5_11 ?_
  refine zz_puti zd_11_5_12 zf_Text_28 zT_1070 rfl (zz_ltn hn rfl) (fun S3 qS3 => ?_)
  have G_S3 := zz_G.put G_S2 qS3 (-2147483648) 2147483647 rfl (by omega)
  have F_S3 := zz_fr.puts F_S2 qS3 rfl
  refine zz_aload_n (x := 1070) rfl zd_11_5_15 ?_
  refine zz_iconst zd_11_5_16 ?_
  refine zz_puti zd_11_5_17 zf_Text_31 zT_1070 rfl (zz_ltn hn rfl) (fun S4 qS4 => ?_)
  have G_S4 := zz_G.put G_S3 qS4 0 1500 rfl (by omega)
  have F_S4 := zz_fr.puts F_S3 qS4 rfl
  refine zz_aload_n (x := 1070) rfl zd_11_5_20 ?_
  refine zz_iconst zd_11_5_21 ?_
  refine zz_puti zd_11_5_22 zf_Text_34 zT_1070 rfl (zz_ltn hn rfl) (fun S5 qS5 => ?_)
  have G_S5 := zz_G.put G_S4 qS5 (-2147483648) 2147483647 rfl (by omega)
  have F_S5 := zz_fr.puts F_S4 qS5 rfl
  have e6 : S5 1070 2 = (-1) := (zz_ro qS5 (fun h => absurd h.2 (by decide)) (zz_ro qS4 (fun h => absurd h.2 (by decide)) (zz_ro qS3 (fun h => absurd h.2 (by decide)) (zz_ro qS2 (fun h => absurd h.2 (by decide)) (zz_rs qS1)))))
  have e7 : S5 1070 3 = 0 := (zz_ro qS5 (fun h => absurd h.2 (by decide)) (zz_ro qS4 (fun h => absurd h.2 (by decide)) (zz_ro qS3 (fun h => absurd h.2 (by decide)) (zz_rs qS2))))
  exact zz_vret zd_11_5_25 rfl (Nat.zero_le _) (Nat.zero_le _) ⟨_, rfl, G_S5, F_S5, by omega⟩
theorem zk_Assembler_26 : mm_Vl "TensorForge$Assembler" 26 6 0 zy_rewind_11_5 := ⟨zyw_rewind_11_5, (R_Text, F_Text, 7), rfl, mm_tb_1 564 (by decide +kernel) rfl, mm_tb_1 282 (by decide +kernel) rfl, mm_tb_1 283 (by decide +kernel) rfl⟩
abbrev zy_nextLine_11_6 : mm_Y := (⟨"TensorForge$Text", "nextLine", "()Z"⟩, prog_11_method_6_code, 1, (some .boolean))
theorem zyw_nextLine_11_6 : mm_Yw zy_nextLine_11_6 0 := ⟨mm_tb_1 568 (by decide +kernel) rfl, mm_tb_1 7 (by decide +kernel) rfl, ⟨by decide, by decide⟩, by decide +kernel⟩
theorem zg_2_2_12 : zq_at zy_readInto_2_2.2.1 12 3 ∧ zq_at zy_readInto_2_2.2.1 13 61 ∧ zq_at zy_readInto_2_2.2.1 14 28 ∧ zq_at zy_readInto_2_2.2.1 15 17 ∧ zq_at zy_readInto_2_2.2.1 16 5 ∧ zq_at zy_readInto_2_2.2.1 17 220 ∧ zq_at zy_readInto_2_2.2.1 18 163 ∧ zq_at zy_readInto_2_2.2.1 19 0 ∧ zq_at zy_readInto_2_2.2.1 20 84 ∧ zq_at zy_readInto_2_2.2.1 102 2 ∧ zq_at zy_readInto_2_2.2.1 103 172 ∧ zq_at zy_readInto_2_2.2.1 21 42 ∧ zq_at zy_readInto_2_2.2.1 22 180 ∧ zq_at zy_readInto_2_2.2.1 23 0 ∧ zq_at zy_readInto_2_2.2.1 24 9 ∧ zq_at zy_readInto_2_2.2.1 25 182 ∧ zq_at zy_readInto_2_2.2.1 26 0 ∧ zq_at zy_readInto_2_2.2.1 27 31 := by decide +kernel
theorem zd_2_2_12 : zz_D zy_readInto_2_2 12 (.iconst 0) 1 13 := ⟨zq_3 zg_2_2_12.1, rfl⟩
theorem zd_2_2_13 : zz_D zy_readInto_2_2 13 (.istore_n 2) 1 14 := ⟨zq_61 zg_2_2_12.2.1, rfl⟩
theorem zd_2_2_14 : zz_D zy_readInto_2_2 14 (.iload_n 2) 1 15 := ⟨zq_28 zg_2_2_12.2.2.1, rfl⟩
theorem zd_2_2_15 : zz_D zy_readInto_2_2 15 (.sipush 1500) 3 18 := ⟨zq_17 zg_2_2_12.2.2.2.1 zg_2_2_12.2.2.2.2.1 zg_2_2_12.2.2.2.2.2.1 (by decide), rfl⟩
theorem zd_2_2_18 : zz_B zy_readInto_2_2 18 (Instr.if_icmp .gt) 102 21 := ⟨84, zq_163 zg_2_2_12.2.2.2.2.2.2.1 zg_2_2_12.2.2.2.2.2.2.2.1 zg_2_2_12.2.2.2.2.2.2.2.2.1 (by decide), rfl, rfl⟩
theorem zd_2_2_102 : zz_D zy_readInto_2_2 102 (.iconst (-1)) 1 103 := ⟨zq_2 zg_2_2_12.2.2.2.2.2.2.2.2.2.1, rfl⟩
theorem zd_2_2_103 : zz_D zy_readInto_2_2 103 (.ireturn) 1 104 := ⟨zq_172 zg_2_2_12.2.2.2.2.2.2.2.2.2.2.1, rfl⟩
theorem zd_2_2_21 : zz_D zy_readInto_2_2 21 (.aload_n 0) 1 22 := ⟨zq_42 zg_2_2_12.2.2.2.2.2.2.2.2.2.2.2.1, rfl⟩
theorem zd_2_2_22 : zz_D zy_readInto_2_2 22 (.getfield 9) 3 25 := ⟨zq_180 zg_2_2_12.2.2.2.2.2.2.2.2.2.2.2.2.1 zg_2_2_12.2.2.2.2.2.2.2.2.2.2.2.2.2.1 zg_2_2_12.2.2.2.2.2.2.2.2.2.2.2.2.2.2.1 rfl, rfl⟩
theorem zd_2_2_25 : zz_D zy_readInto_2_2 25 (.invokevirtual 31) 3 28 := ⟨zq_182 zg_2_2_12.2.2.2.2.2.2.2.2.2.2.2.2.2.2.2.1 zg_2_2_12.2.2.2.2.2.2.2.2.2.2.2.2.2.2.2.2.1 zg_2_2_12.2.2.2.2.2.2.2.2.2.2.2.2.2.2.2.2.2 rfl, rfl⟩
theorem zg_11_6_0 : zq_at zy_nextLine_11_6.2.1 0 42 ∧ zq_at zy_nextLine_11_6.2.1 1 180 ∧ zq_at zy_nextLine_11_6.2.1 2 0 ∧ zq_at zy_nextLine_11_6.2.1 3 22 ∧ zq_at zy_nextLine_11_6.2.1 4 42 ∧ zq_at zy_nextLine_11_6.2.1 5 180 ∧ zq_at zy_nextLine_11_6.2.1 6 0 ∧ zq_at zy_nextLine_11_6.2.1 7 15 ∧ zq_at zy_nextLine_11_6.2.1 8 161 ∧ zq_at zy_nextLine_11_6.2.1 9 0 ∧ zq_at zy_nextLine_11_6.2.1 10 5 ∧ zq_at zy_nextLine_11_6.2.1 13 42 ∧ zq_at zy_nextLine_11_6.2.1 14 42 ∧ zq_at zy_nextLine_11_6.2.1 15 180 ∧ zq_at zy_nextLine_11_6.2.1 16 0 ∧ zq_at zy_nextLine_11_6.2.1 17 22 ∧ zq_at zy_nextLine_11_6.2.1 18 4 ∧ zq_at zy_nextLine_11_6.2.1 19 96 ∧ zq_at zy_nextLine_11_6.2.1 20 181 ∧ zq_at zy_nextLine_11_6.2.1 21 0 ∧ zq_at zy_nextLine_11_6.2.1 22 25 ∧ zq_at zy_nextLine_11_6.2.1 23 42 ∧ zq_at zy_nextLine_11_6.2.1 24 42 := by decide +kernel
theorem zd_11_6_0 : zz_D zy_nextLine_11_6 0 (.aload_n 0) 1 1 := ⟨zq_42 zg_11_6_0.1, rfl⟩
theorem zd_11_6_1 : zz_D zy_nextLine_11_6 1 (.getfield 22) 3 4 := ⟨zq_180 zg_11_6_0.2.1 zg_11_6_0.2.2.1 zg_11_6_0.2.2.2.1 rfl, rfl⟩
theorem zd_11_6_4 : zz_D zy_nextLine_11_6 4 (.aload_n 0) 1 5 := ⟨zq_42 zg_11_6_0.2.2.2.2.1, rfl⟩
theorem zd_11_6_5 : zz_D zy_nextLine_11_6 5 (.getfield 15) 3 8 := ⟨zq_180 zg_11_6_0.2.2.2.2.2.1 zg_11_6_0.2.2.2.2.2.2.1 zg_11_6_0.2.2.2.2.2.2.2.1 rfl, rfl⟩
theorem zd_11_6_8 : zz_B zy_nextLine_11_6 8 (Instr.if_icmp .lt) 13 11 := ⟨5, zq_161 zg_11_6_0.2.2.2.2.2.2.2.2.1 zg_11_6_0.2.2.2.2.2.2.2.2.2.1 zg_11_6_0.2.2.2.2.2.2.2.2.2.2.1 (by decide), rfl, rfl⟩
theorem zd_11_6_13 : zz_D zy_nextLine_11_6 13 (.aload_n 0) 1 14 := ⟨zq_42 zg_11_6_0.2.2.2.2.2.2.2.2.2.2.2.1, rfl⟩
theorem zd_11_6_14 : zz_D zy_nextLine_11_6 14 (.aload_n 0) 1 15 := ⟨zq_42 zg_11_6_0.2.2.2.2.2.2.2.2.2.2.2.2.1, rfl⟩
theorem zd_11_6_15 : zz_D zy_nextLine_11_6 15 (.getfield 22) 3 18 := ⟨zq_180 zg_11_6_0.2.2.2.2.2.2.2.2.2.2.2.2.2.1 zg_11_6_0.2.2.2.2.2.2.2.2.2.2.2.2.2.2.1 zg_11_6_0.2.2.2.2.2.2.2.2.2.2.2.2.2.2.2.1 rfl, rfl⟩
theorem zd_11_6_18 : zz_D zy_nextLine_11_6 18 (.iconst 1) 1 19 := ⟨zq_4 zg_11_6_0.2.2.2.2.2.2.2.2.2.2.2.2.2.2.2.2.1, rfl⟩
theorem zd_11_6_19 : zz_D zy_nextLine_11_6 19 (.iadd) 1 20 := ⟨zq_96 zg_11_6_0.2.2.2.2.2.2.2.2.2.2.2.2.2.2.2.2.2.1, rfl⟩
theorem zd_11_6_20 : zz_D zy_nextLine_11_6 20 (.putfield 25) 3 23 := ⟨zq_181 zg_11_6_0.2.2.2.2.2.2.2.2.2.2.2.2.2.2.2.2.2.2.1 zg_11_6_0.2.2.2.2.2.2.2.2.2.2.2.2.2.2.2.2.2.2.2.1 zg_11_6_0.2.2.2.2.2.2.2.2.2.2.2.2.2.2.2.2.2.2.2.2.1 rfl, rfl⟩
theorem zd_11_6_23 : zz_D zy_nextLine_11_6 23 (.aload_n 0) 1 24 := ⟨zq_42 zg_11_6_0.2.2.2.2.2.2.2.2.2.2.2.2.2.2.2.2.2.2.2.2.2.1, rfl⟩
theorem zd_11_6_24 : zz_D zy_nextLine_11_6 24 (.aload_n 0) 1 25 := ⟨zq_42 zg_11_6_0.2.2.2.2.2.2.2.2.2.2.2.2.2.2.2.2.2.2.2.2.2.2, rfl⟩
theorem zg_11_6_25 : zq_at zy_nextLine_11_6.2.1 25 180 ∧ zq_at zy_nextLine_11_6.2.1 26 0 ∧ zq_at zy_nextLine_11_6.2.1 27 25 ∧ zq_at zy_nextLine_11_6.2.1 28 181 ∧ zq_at zy_nextLine_11_6.2.1 29 0 ∧ zq_at zy_nextLine_11_6.2.1 30 22 ∧ zq_at zy_nextLine_11_6.2.1 11 3 ∧ zq_at zy_nextLine_11_6.2.1 12 172 ∧ zq_at zy_nextLine_11_6.2.1 31 42 ∧ zq_at zy_nextLine_11_6.2.1 32 180 ∧ zq_at zy_nextLine_11_6.2.1 33 0 ∧ zq_at zy_nextLine_11_6.2.1 34 22 ∧ zq_at zy_nextLine_11_6.2.1 35 42 ∧ zq_at zy_nextLine_11_6.2.1 36 180 ∧ zq_at zy_nextLine_11_6.2.1 37 0 ∧ zq_at zy_nextLine_11_6.2.1 38 15 ∧ zq_at zy_nextLine_11_6.2.1 39 162 ∧ zq_at zy_nextLine_11_6.2.1 40 0 ∧ zq_at zy_nextLine_11_6.2.1 41 30 ∧ zq_at zy_nextLine_11_6.2.1 69 4 ∧ zq_at zy_nextLine_11_6.2.1 70 172 ∧ zq_at zy_nextLine_11_6.2.1 42 42 := by decide +kernel
theorem zd_11_6_25 : zz_D zy_nextLine_11_6 25 (.getfield 25) 3 28 := ⟨zq_180 zg_11_6_25.1 zg_11_6_25.2.1 zg_11_6_25.2.2.1 rfl, rfl⟩
theorem zd_11_6_28 : zz_D zy_nextLine_11_6 28 (.putfield 22) 3 31 := ⟨zq_181 zg_11_6_25.2.2.2.1 zg_11_6_25.2.2.2.2.1 zg_11_6_25.2.2.2.2.2.1 rfl, rfl⟩
theorem zd_11_6_11 : zz_D zy_nextLine_11_6 11 (.iconst 0) 1 12 := ⟨zq_3 zg_11_6_25.2.2.2.2.2.2.1, rfl⟩
theorem zd_11_6_12 : zz_D zy_nextLine_11_6 12 (.ireturn) 1 13 := ⟨zq_172 zg_11_6_25.2.2.2.2.2.2.2.1, rfl⟩
theorem zd_11_6_31 : zz_D zy_nextLine_11_6 31 (.aload_n 0) 1 32 := ⟨zq_42 zg_11_6_25.2.2.2.2.2.2.2.2.1, rfl⟩
theorem zd_11_6_32 : zz_D zy_nextLine_11_6 32 (.getfield 22) 3 35 := ⟨zq_180 zg_11_6_25.2.2.2.2.2.2.2.2.2.1 zg_11_6_25.2.2.2.2.2.2.2.2.2.2.1 zg_11_6_25.2.2.2.2.2.2.2.2.2.2.2.1 rfl, rfl⟩
theorem zd_11_6_35 : zz_D zy_nextLine_11_6 35 (.aload_n 0) 1 36 := ⟨zq_42 zg_11_6_25.2.2.2.2.2.2.2.2.2.2.2.2.1, rfl⟩
theorem zd_11_6_36 : zz_D zy_nextLine_11_6 36 (.getfield 15) 3 39 := ⟨zq_180 zg_11_6_25.2.2.2.2.2.2.2.2.2.2.2.2.2.1 zg_11_6_25.2.2.2.2.2.2.2.2.2.2.2.2.2.2.1 zg_11_6_25.2.2.2.2.2.2.2.2.2.2.2.2.2.2.2.1 rfl, rfl⟩
theorem zd_11_6_39 : zz_B zy_nextLine_11_6 39 (Instr.if_icmp .ge) 69 42 := ⟨30, zq_162 zg_11_6_25.2.2.2.2.2.2.2.2.2.2.2.2.2.2.2.2.1 zg_11_6_25.2.2.2.2.2.2.2.2.2.2.2.2.2.2.2.2.2.1 zg_11_6_25.2.2.2.2.2.2.2.2.2.2.2.2.2.2.2.2.2.2.1 (by decide), rfl, rfl⟩
theorem zd_11_6_69 : zz_D zy_nextLine_11_6 69 (.iconst 1) 1 70 := ⟨zq_4 zg_11_6_25.2.2.2.2.2.2.2.2.2.2.2.2.2.2.2.2.2.2.2.1, rfl⟩
theorem zd_11_6_70 : zz_D zy_nextLine_11_6 70 (.ireturn) 1 71 := ⟨zq_172 zg_11_6_25.2.2.2.2.2.2.2.2.2.2.2.2.2.2.2.2.2.2.2.2.1, rfl⟩
theorem zd_11_6_42 : zz_D zy_nextLine_11_6 42 (.aload_n 0) 1 43 := ⟨zq_42 zg_11_6_25.2.2.2.2.2.2.2.2.2.2.2.2.2.2.2.2.2.2.2.2.2, rfl⟩
theorem zg_11_6_43 : zq_at zy_nextLine_11_6.2.1 43 180 ∧ zq_at zy_nextLine_11_6.2.1 44 0 ∧ zq_at zy_nextLine_11_6.2.1 45 9 ∧ zq_at zy_nextLine_11_6.2.1 46 42 ∧ zq_at zy_nextLine_11_6.2.1 47 180 ∧ zq_at zy_nextLine_11_6.2.1 48 0 ∧ zq_at zy_nextLine_11_6.2.1 49 22 ∧ zq_at zy_nextLine_11_6.2.1 50 52 ∧ zq_at zy_nextLine_11_6.2.1 51 16 ∧ zq_at zy_nextLine_11_6.2.1 52 10 ∧ zq_at zy_nextLine_11_6.2.1 53 159 ∧ zq_at zy_nextLine_11_6.2.1 54 0 ∧ zq_at zy_nextLine_11_6.2.1 55 16 ∧ zq_at zy_nextLine_11_6.2.1 56 42 ∧ zq_at zy_nextLine_11_6.2.1 57 89 ∧ zq_at zy_nextLine_11_6.2.1 58 180 ∧ zq_at zy_nextLine_11_6.2.1 59 0 ∧ zq_at zy_nextLine_11_6.2.1 60 22 ∧ zq_at zy_nextLine_11_6.2.1 61 4 ∧ zq_at zy_nextLine_11_6.2.1 62 96 ∧ zq_at zy_nextLine_11_6.2.1 63 181 ∧ zq_at zy_nextLine_11_6.2.1 64 0 ∧ zq_at zy_nextLine_11_6.2.1 65 22 := by decide +kernel
theorem zd_11_6_43 : zz_D zy_nextLine_11_6 43 (.getfield 9) 3 46 := ⟨zq_180 zg_11_6_43.1 zg_11_6_43.2.1 zg_11_6_43.2.2.1 rfl, rfl⟩
theorem zd_11_6_46 : zz_D zy_nextLine_11_6 46 (.aload_n 0) 1 47 := ⟨zq_42 zg_11_6_43.2.2.2.1, rfl⟩
theorem zd_11_6_47 : zz_D zy_nextLine_11_6 47 (.getfield 22) 3 50 := ⟨zq_180 zg_11_6_43.2.2.2.2.1 zg_11_6_43.2.2.2.2.2.1 zg_11_6_43.2.2.2.2.2.2.1 rfl, rfl⟩
theorem zd_11_6_50 : zz_D zy_nextLine_11_6 50 (.caload) 1 51 := ⟨zq_52 zg_11_6_43.2.2.2.2.2.2.2.1, rfl⟩
theorem zd_11_6_51 : zz_D zy_nextLine_11_6 51 (.bipush 10) 2 53 := ⟨zq_16 zg_11_6_43.2.2.2.2.2.2.2.2.1 zg_11_6_43.2.2.2.2.2.2.2.2.2.1 (by decide), rfl⟩
theorem zd_11_6_53 : zz_B zy_nextLine_11_6 53 (Instr.if_icmp .eq) 69 56 := ⟨16, zq_159 zg_11_6_43.2.2.2.2.2.2.2.2.2.2.1 zg_11_6_43.2.2.2.2.2.2.2.2.2.2.2.1 zg_11_6_43.2.2.2.2.2.2.2.2.2.2.2.2.1 (by decide), rfl, rfl⟩
theorem zd_11_6_56 : zz_D zy_nextLine_11_6 56 (.aload_n 0) 1 57 := ⟨zq_42 zg_11_6_43.2.2.2.2.2.2.2.2.2.2.2.2.2.1, rfl⟩
theorem zd_11_6_57 : zz_D zy_nextLine_11_6 57 (.dup) 1 58 := ⟨zq_89 zg_11_6_43.2.2.2.2.2.2.2.2.2.2.2.2.2.2.1, rfl⟩
theorem zd_11_6_58 : zz_D zy_nextLine_11_6 58 (.getfield 22) 3 61 := ⟨zq_180 zg_11_6_43.2.2.2.2.2.2.2.2.2.2.2.2.2.2.2.1 zg_11_6_43.2.2.2.2.2.2.2.2.2.2.2.2.2.2.2.2.1 zg_11_6_43.2.2.2.2.2.2.2.2.2.2.2.2.2.2.2.2.2.1 rfl, rfl⟩
theorem zd_11_6_61 : zz_D zy_nextLine_11_6 61 (.iconst 1) 1 62 := ⟨zq_4 zg_11_6_43.2.2.2.2.2.2.2.2.2.2.2.2.2.2.2.2.2.2.1, rfl⟩
theorem zd_11_6_62 : zz_D zy_nextLine_11_6 62 (.iadd) 1 63 := ⟨zq_96 zg_11_6_43.2.2.2.2.2.2.2.2.2.2.2.2.2.2.2.2.2.2.2.1, rfl⟩
theorem zd_11_6_63 : zz_D zy_nextLine_11_6 63 (.putfield 22) 3 66 := ⟨zq_181 zg_11_6_43.2.2.2.2.2.2.2.2.2.2.2.2.2.2.2.2.2.2.2.2.1 zg_11_6_43.2.2.2.2.2.2.2.2.2.2.2.2.2.2.2.2.2.2.2.2.2.1 zg_11_6_43.2.2.2.2.2.2.2.2.2.2.2.2.2.2.2.2.2.2.2.2.2.2 rfl, rfl⟩
theorem zg_11_6_66 : zq_at zy_nextLine_11_6.2.1 66 167 ∧ zq_at zy_nextLine_11_6.2.1 67 255 ∧ zq_at zy_nextLine_11_6.2.1 68 221 := by decide +kernel
theorem zd_11_6_66 : zz_B zy_nextLine_11_6 66 Instr.goto 31 69 := ⟨(-35), zq_167 zg_11_6_66.1 zg_11_6_66.2.1 zg_11_6_66.2.2 (by decide), rfl, rfl⟩
-- TensorForge$Text nextLine ()Z
abbrev zr_nextLine_11_6 : Room := { frames := 0, cells := 0, slots := 0, locals := 0 }
def zp_nextLine_11_6  (S0 : zz_S) : Int → zz_S → Prop := fun r S => zz_G S ∧ zz_fr [(1070, 2), (1070, 3)] [] (fun _ _ => False) S0 S ∧ (0 ≤ r ∧ r ≤ 1) ∧ ((r = 0 ∧ S0 1070 1 ≤ S0 1070 2) ∨ (r = 1 ∧ S0 1070 2 < S0 1070 1 ∧ S 1070 3 = S0 1070 2 + 1 ∧ S 1070 2 = zt_U 10 (S0 1071) (S0 1070 1) (S0 1070 2 + 1)))
theorem zb_nextLine_11_6_31 {g : mm_G} {l : Launch}  (S0 : zz_S) (n : Nat) (hn : zz_end ≤ n) (G_S0 : zz_G S0)   (S : zz_S) (G_S : zz_G S) (F_S : zz_fr [(1070, 2), (1070, 3)] [] (fun _ _ => False) S0 S) (i31_0 : S0 1070 2 < S0 1070 1) (i31_1 : 0 ≤ S 1070 2) (i31_2 : S0 1070 2 < S0 1070 1) (i31_3 : S 1070 3 = S0 1070 2 + 1) (i31_4 : S0 1070 2 + 1 ≤ S 1070 2 ∧ S 1070 2 ≤ S0 1070 1) (i31_5 : zt_U 10 (S0 1071) (S0 1070 1) (S 1070 2) = zt_U 10 (S0 1071) (S0 1070 1) (S0 1070 2 + 1)) (R : Nat) (hR : (S0 1070 1 - S 1070 2).toNat = R) (k31 : ∀  (S : zz_S), zz_G S → zz_fr [(1070, 2), (1070, 3)] [] (fun _ _ => False) S0 S → (S0 1070 2 < S0 1070 1) → (0 ≤ S 1070 2) → (S0 1070 2 < S0 1070 1) → (S 1070 3 = S0 1070 2 + 1) → (S0 1070 2 + 1 ≤ S 1070 2 ∧ S 1070 2 ≤ S0 1070 1) → (zt_U 10 (S0 1071) (S0 1070 1) (S 1070 2) = zt_U 10 (S0 1071) (S0 1070 1) (S0 1070 2 + 1)) → (S0 1070 1 - S 1070 2).toNat < R → zz_E g l zy_nextLine_11_6 zr_nextLine_11_6 (zz_QI n (zp_nextLine_11_6  S0)) S n 31 [some (.ref 1070)] [] 0 0) : zz_E g l zy_nextLine_11_6 zr_nextLine_11_6 (zz_QI n (zp_nextLine_11_6  S0)) S n 31 [some (.ref 1070)] [] 0 0 := by
  refine zz_aload_n (x := 1070) rfl zd_11_6_31 ?_
  have g9 := zz_G.r G_S 1070 2 (-1) 1500 rfl rfl
  refine zz_geti (z := S 1070 2) zd_11_6_32 zf_Text_22 zT_1070 rfl (zz_ltn hn rfl) rfl ?_
  refine zz_aload_n (x := 1070) rfl zd_11_6_35 ?_
  have g10 := zz_G.r G_S0 1070 1 0 1500 rfl rfl
  refine zz_geti (z := S0 1070 1) zd_11_6_36 zf_Text_15 zT_1070 rfl (zz_ltn hn rfl) (zz_rc F_S rfl rfl (fun h => h) rfl) ?_
  refine zz_icmp_ge (by omega) (by omega) zd_11_6_39 (fun c11 => ?_) (fun c11 => ?_)
  · refine zz_iconst zd_11_6_69 ?_
    have g12 := zz_G.r G_S 1070 3 0 1500 rfl rfl
    exact zz_zret zd_11_6_70 rfl (by omega) (Nat.zero_le _) (Nat.zero_le _) ⟨_, _, rfl, G_S, F_S, by omega, (by have h9 := zt_U0 (c := 10) (f := (S0 1071)) (e := S0 1070 1) (p := S 1070 2) (by omega); have h8 := i31_5; omega)⟩
  · refine zz_aload_n (x := 1070) rfl zd_11_6_42 ?_
    refine zz_getr (kd := 0) (z := 1071) zd_11_6_43 zf_Text_9 zT_1070 rfl (zz_ltn hn rfl) (zz_G.eq G_S 1070 0 1071 rfl rfl) (by decide) 1071 rfl ?_
    refine zz_aload_n (x := 1070) rfl zd_11_6_46 ?_
    refine zz_geti (z := S 1070 2) zd_11_6_47 zf_Text_22 zT_1070 rfl (zz_ltn hn rfl) rfl ?_
    have g13 := zz_G.r G_S0 1071 ((S 1070 2).toNat) 0 65535 rfl rfl
    refine zz_cald (z := S0 1071 ((S 1070 2).toNat)) zd_11_6_50 zT_1071 rfl (zz_ltn hn rfl) (by decide) (by omega) (zz_rc F_S (zz_nc1 rfl) rfl (fun h => h) rfl) ?_
    refine zz_bipush (by decide) zd_11_6_51 ?_
    refine zz_icmp_eq (by omega) (by omega) zd_11_6_53 (fun c14 => ?_) (fun c14 => ?_)
    · refine zz_iconst zd_11_6_69 ?_
      have g15 := zz_G.r G_S 1070 3 0 1500 rfl rfl
      exact zz_zret zd_11_6_70 rfl (by omega) (Nat.zero_le _) (Nat.zero_le _) ⟨_, _, rfl, G_S, F_S, by omega, (by have h9 := zt_U0 (c := 10) (f := (S0 1071)) (e := S0 1070 1) (p := S 1070 2) (by omega); have h8 := i31_5; omega)⟩
    · refine zz_aload_n (x := 1070) rfl zd_11_6_56 ?_
      refine zz_dup rfl zd_11_6_57 ?_
      refine zz_geti (z := S 1070 2) zd_11_6_58 zf_Text_22 zT_1070 rfl (zz_ltn hn rfl) rfl ?_
      refine zz_iconst zd_11_6_61 ?_
      refine zz_iadd zd_11_6_62 ?_
      refine zz_puti zd_11_6_63 zf_Text_22 zT_1070 rfl (zz_ltn hn rfl) (fun S16 qS16 => ?_)
      have G_S16 := zz_G.put G_S qS16 (-1) 1500 rfl (by omega)
      have F_S16 := zz_fr.puts F_S qS16 rfl
      refine zz_goto zd_11_6_66 ?_
      have e17 : S16 1070 2 = (S 1070 2) + 1 := (zz_rs qS16)
      have g18 := zz_G.r G_S 1070 3 0 1500 rfl rfl
      have e19 : S16 1070 3 = S 1070 3 := (zz_ro qS16 (fun h => absurd h.2 (by decide)) rfl)
      exact k31 S16 G_S16 F_S16 (by omega) (by omega) (by omega) (by omega) (by omega) (by rw [show S16 1070 2 = S 1070 2 + 1 by omega, zt_US (by omega) (by omega)]; exact i31_5) (by omega)
theorem zi_nextLine_11_6 {g : mm_G} {l : Launch}  (S0 : zz_S) (n : Nat) (hn : zz_end ≤ n) (G_S0 : zz_G S0)  : ∀ N : Nat, (∀  (S : zz_S), zz_G S → zz_fr [(1070, 2), (1070, 3)] [] (fun _ _ => False) S0 S → (S0 1070 2 < S0 1070 1) → (0 ≤ S 1070 2) → (S0 1070 2 < S0 1070 1) → (S 1070 3 = S0 1070 2 + 1) → (S0 1070 2 + 1 ≤ S 1070 2 ∧ S 1070 2 ≤ S0 1070 1) → (zt_U 10 (S0 1071) (S0 1070 1) (S 1070 2) = zt_U 10 (S0 1071) (S0 1070 1) (S0 1070 2 + 1)) → (S0 1070 1 - S 1070 2).toNat < N → zz_E g l zy_nextLine_11_6 zr_nextLine_11_6 (zz_QI n (zp_nextLine_11_6  S0)) S n 31 [some (.ref 1070)] [] 0 0) := by
  intro N
  induction N with
  | zero => exact fun  S _ _ _ _ _ _ _ _ h => absurd h (Nat.not_lt_zero _)
  | succ N ih =>
    exact fun  S a b j0 j1 j2 j3 j4 j5 hR => zb_nextLine_11_6_31  S0 n hn G_S0   S a b j0 j1 j2 j3 j4 j5 _ rfl (fun  S a b j0 j1 j2 j3 j4 j5 h => ih  S a b j0 j1 j2 j3 j4 j5 (Nat.lt_of_lt_of_le h (Nat.le_of_lt_succ hR)))
theorem zc_nextLine_11_6 {g : mm_G} {l : Launch}  (S0 : zz_S) (n : Nat) (hn : zz_end ≤ n) (G_S0 : zz_G S0)  : mm_Met g l zy_nextLine_11_6 zr_nextLine_11_6 [.ref 1070] (zz_M S0 n) n (zz_QI n (zp_nextLine_11_6  S0)) := by
  refine zz_enter (by decide) (Nat.le_of_ble_eq_true rfl) (zz_less (ls1 := [some (.ref 1070)]) ⟨rfl, trivial⟩ ?_)
  have F_S0 : zz_fr [(1070, 2), (1070, 3)] [] (fun _ _ => False) S0 S0 := zz_fr.refl
  have k31 : ∀  (S : zz_S), zz_G S → zz_fr [(1070, 2), (1070, 3)] [] (fun _ _ => False) S0 S → (S0 1070 2 < S0 1070 1) → (0 ≤ S 1070 2) → (S0 1070 2 < S0 1070 1) → (S 1070 3 = S0 1070 2 + 1) → (S0 1070 2 + 1 ≤ S 1070 2 ∧ S 1070 2 ≤ S0 1070 1) → (zt_U 10 (S0 1071) (S0 1070 1) (S 1070 2) = zt_U 10 (S0 1071) (S0 1070 1) (S0 1070 2 + 1)) → zz_E g l zy_nextLine_11_6 zr_nextLine_11_6 (zz_QI n (zp_nextLine_11_6  S0)) S n 31 [some (.ref 1070)] [] 0 0 := fun  S a b j0 j1 j2 j3 j4 j5 => (zi_nextLine_11_6 (g := g) (l := l)  S0 n hn G_S0  _)  S a b j0 j1 j2 j3 j4 j5 (Nat.lt_succ_self _)
  refine zz_aload_n (x := 1070) rfl zd_11_6_0 ?_
  have g1 := zz_G.r G_S0 1070 2 (-1) 1500 rfl rfl
  refine zz_geti (z := S0 1070 2) zd_11_6_1 zf_Text_22 zT_1070 rfl (zz_ltn hn rfl) rfl ?_
  refine zz_aload_n (x := 1070) rfl zd_11_6_4 ?_
  have g2 := zz_G.r G_S0 1070 1 0 1500 rfl rfl
  refine zz_geti (z := S0 1070 1) zd_11_6_5 zf_Text_15 zT_1070 rfl (zz_ltn hn rfl) rfl ?_
  refine zz_icmp_lt (by omega) (by omega) zd_11_6_8 (fun c3 => ?_) (fun c3 => ?_)
  · refine zz_aload_n (x := 1070) rfl zd_11_6_13 ?_
    refine zz_aload_n (x := 1070) rfl zd_11_6_14 ?_
    refine zz_geti (z := S0 1070 2) zd_11_6_15 zf_Text_22 zT_1070 rfl (zz_ltn hn rfl) rfl ?_
    refine zz_iconst zd_11_6_18 ?_
    refine zz_iadd zd_11_6_19 ?_
    refine zz_puti zd_11_6_20 zf_Text_25 zT_1070 rfl (zz_ltn hn rfl) (fun S4 qS4 => ?_)
    have G_S4 := zz_G.put G_S0 qS4 0 1500 rfl (by omega)
    have F_S4 := zz_fr.puts F_S0 qS4 rfl
    refine zz_aload_n (x := 1070) rfl zd_11_6_23 ?_
    refine zz_aload_n (x := 1070) rfl zd_11_6_24 ?_
    refine zz_geti (z := (S0 1070 2) + 1) zd_11_6_25 zf_Text_25 zT_1070 rfl (zz_ltn hn rfl) (zz_rs qS4) ?_
    refine zz_puti zd_11_6_28 zf_Text_22 zT_1070 rfl (zz_ltn hn rfl) (fun S5 qS5 => ?_)
    have G_S5 := zz_G.put G_S4 qS5 (-1) 1500 rfl (by omega)
    have F_S5 := zz_fr.puts F_S4 qS5 rfl
    have e6 : S5 1070 2 = (S0 1070 2) + 1 := (zz_rs qS5)
    have e7 : S5 1070 3 = (S0 1070 2) + 1 := (zz_ro qS5 (fun h => absurd h.2 (by decide)) (zz_rs qS4))
    exact k31 S5 G_S5 F_S5 (by omega) (by omega) (by omega) (by omega) (by omega) (by rw [show S5 1070 2 = S0 1070 2 + 1 by omega])
  · refine zz_iconst zd_11_6_11 ?_
    have g8 := zz_G.r G_S0 1070 3 0 1500 rfl rfl
    exact zz_zret zd_11_6_12 rfl (by omega) (Nat.zero_le _) (Nat.zero_le _) ⟨_, _, rfl, G_S0, F_S0, by omega, by omega⟩
theorem zk_Assembler_31 : mm_Vl "TensorForge$Assembler" 31 6 0 zy_nextLine_11_6 := ⟨zyw_nextLine_11_6, (R_Text, F_Text, 7), rfl, mm_tb_1 565 (by decide +kernel) rfl, mm_tb_1 566 (by decide +kernel) rfl, mm_tb_1 567 (by decide +kernel) rfl⟩
abbrev zy_nextToken_11_7 : mm_Y := (⟨"TensorForge$Text", "nextToken", "()V"⟩, prog_11_method_7_code, 1, none)
theorem zyw_nextToken_11_7 : mm_Yw zy_nextToken_11_7 0 := ⟨mm_tb_1 572 (by decide +kernel) rfl, mm_tb_1 7 (by decide +kernel) rfl, ⟨by decide, by decide⟩, by decide +kernel⟩
theorem zg_2_2_28 : zq_at zy_readInto_2_2.2.1 28 153 ∧ zq_at zy_readInto_2_2.2.1 29 0 ∧ zq_at zy_readInto_2_2.2.1 30 74 ∧ zq_at zy_readInto_2_2.2.1 31 42 ∧ zq_at zy_readInto_2_2.2.1 32 180 ∧ zq_at zy_readInto_2_2.2.1 33 0 ∧ zq_at zy_readInto_2_2.2.1 34 9 ∧ zq_at zy_readInto_2_2.2.1 35 182 ∧ zq_at zy_readInto_2_2.2.1 36 0 ∧ zq_at zy_readInto_2_2.2.1 37 35 := by decide +kernel
theorem zd_2_2_28 : zz_B zy_readInto_2_2 28 (Instr.ifCond .eq) 102 31 := ⟨74, zq_153 zg_2_2_28.1 zg_2_2_28.2.1 zg_2_2_28.2.2.1 (by decide), rfl, rfl⟩
theorem zd_2_2_31 : zz_D zy_readInto_2_2 31 (.aload_n 0) 1 32 := ⟨zq_42 zg_2_2_28.2.2.2.1, rfl⟩
theorem zd_2_2_32 : zz_D zy_readInto_2_2 32 (.getfield 9) 3 35 := ⟨zq_180 zg_2_2_28.2.2.2.2.1 zg_2_2_28.2.2.2.2.2.1 zg_2_2_28.2.2.2.2.2.2.1 rfl, rfl⟩
theorem zd_2_2_35 : zz_D zy_readInto_2_2 35 (.invokevirtual 35) 3 38 := ⟨zq_182 zg_2_2_28.2.2.2.2.2.2.2.1 zg_2_2_28.2.2.2.2.2.2.2.2.1 zg_2_2_28.2.2.2.2.2.2.2.2.2 rfl, rfl⟩
theorem zg_11_7_0 : zq_at zy_nextToken_11_7.2.1 0 42 ∧ zq_at zy_nextToken_11_7.2.1 1 180 ∧ zq_at zy_nextToken_11_7.2.1 2 0 ∧ zq_at zy_nextToken_11_7.2.1 3 25 ∧ zq_at zy_nextToken_11_7.2.1 4 42 ∧ zq_at zy_nextToken_11_7.2.1 5 180 ∧ zq_at zy_nextToken_11_7.2.1 6 0 ∧ zq_at zy_nextToken_11_7.2.1 7 22 ∧ zq_at zy_nextToken_11_7.2.1 8 162 ∧ zq_at zy_nextToken_11_7.2.1 9 0 ∧ zq_at zy_nextToken_11_7.2.1 10 30 ∧ zq_at zy_nextToken_11_7.2.1 38 42 ∧ zq_at zy_nextToken_11_7.2.1 39 42 ∧ zq_at zy_nextToken_11_7.2.1 40 180 ∧ zq_at zy_nextToken_11_7.2.1 41 0 ∧ zq_at zy_nextToken_11_7.2.1 42 25 ∧ zq_at zy_nextToken_11_7.2.1 43 181 ∧ zq_at zy_nextToken_11_7.2.1 44 0 ∧ zq_at zy_nextToken_11_7.2.1 45 31 ∧ zq_at zy_nextToken_11_7.2.1 46 42 ∧ zq_at zy_nextToken_11_7.2.1 47 3 ∧ zq_at zy_nextToken_11_7.2.1 48 181 ∧ zq_at zy_nextToken_11_7.2.1 49 0 ∧ zq_at zy_nextToken_11_7.2.1 50 34 := by decide +kernel
theorem zd_11_7_0 : zz_D zy_nextToken_11_7 0 (.aload_n 0) 1 1 := ⟨zq_42 zg_11_7_0.1, rfl⟩
theorem zd_11_7_1 : zz_D zy_nextToken_11_7 1 (.getfield 25) 3 4 := ⟨zq_180 zg_11_7_0.2.1 zg_11_7_0.2.2.1 zg_11_7_0.2.2.2.1 rfl, rfl⟩
theorem zd_11_7_4 : zz_D zy_nextToken_11_7 4 (.aload_n 0) 1 5 := ⟨zq_42 zg_11_7_0.2.2.2.2.1, rfl⟩
theorem zd_11_7_5 : zz_D zy_nextToken_11_7 5 (.getfield 22) 3 8 := ⟨zq_180 zg_11_7_0.2.2.2.2.2.1 zg_11_7_0.2.2.2.2.2.2.1 zg_11_7_0.2.2.2.2.2.2.2.1 rfl, rfl⟩
theorem zd_11_7_8 : zz_B zy_nextToken_11_7 8 (Instr.if_icmp .ge) 38 11 := ⟨30, zq_162 zg_11_7_0.2.2.2.2.2.2.2.2.1 zg_11_7_0.2.2.2.2.2.2.2.2.2.1 zg_11_7_0.2.2.2.2.2.2.2.2.2.2.1 (by decide), rfl, rfl⟩
theorem zd_11_7_38 : zz_D zy_nextToken_11_7 38 (.aload_n 0) 1 39 := ⟨zq_42 zg_11_7_0.2.2.2.2.2.2.2.2.2.2.2.1, rfl⟩
theorem zd_11_7_39 : zz_D zy_nextToken_11_7 39 (.aload_n 0) 1 40 := ⟨zq_42 zg_11_7_0.2.2.2.2.2.2.2.2.2.2.2.2.1, rfl⟩
theorem zd_11_7_40 : zz_D zy_nextToken_11_7 40 (.getfield 25) 3 43 := ⟨zq_180 zg_11_7_0.2.2.2.2.2.2.2.2.2.2.2.2.2.1 zg_11_7_0.2.2.2.2.2.2.2.2.2.2.2.2.2.2.1 zg_11_7_0.2.2.2.2.2.2.2.2.2.2.2.2.2.2.2.1 rfl, rfl⟩
theorem zd_11_7_43 : zz_D zy_nextToken_11_7 43 (.putfield 31) 3 46 := ⟨zq_181 zg_11_7_0.2.2.2.2.2.2.2.2.2.2.2.2.2.2.2.2.1 zg_11_7_0.2.2.2.2.2.2.2.2.2.2.2.2.2.2.2.2.2.1 zg_11_7_0.2.2.2.2.2.2.2.2.2.2.2.2.2.2.2.2.2.2.1 rfl, rfl⟩
theorem zd_11_7_46 : zz_D zy_nextToken_11_7 46 (.aload_n 0) 1 47 := ⟨zq_42 zg_11_7_0.2.2.2.2.2.2.2.2.2.2.2.2.2.2.2.2.2.2.2.1, rfl⟩
theorem zd_11_7_47 : zz_D zy_nextToken_11_7 47 (.iconst 0) 1 48 := ⟨zq_3 zg_11_7_0.2.2.2.2.2.2.2.2.2.2.2.2.2.2.2.2.2.2.2.2.1, rfl⟩
theorem zd_11_7_48 : zz_D zy_nextToken_11_7 48 (.putfield 34) 3 51 := ⟨zq_181 zg_11_7_0.2.2.2.2.2.2.2.2.2.2.2.2.2.2.2.2.2.2.2.2.2.1 zg_11_7_0.2.2.2.2.2.2.2.2.2.2.2.2.2.2.2.2.2.2.2.2.2.2.1 zg_11_7_0.2.2.2.2.2.2.2.2.2.2.2.2.2.2.2.2.2.2.2.2.2.2.2 rfl, rfl⟩
theorem zg_11_7_51 : zq_at zy_nextToken_11_7.2.1 51 42 ∧ zq_at zy_nextToken_11_7.2.1 52 180 ∧ zq_at zy_nextToken_11_7.2.1 53 0 ∧ zq_at zy_nextToken_11_7.2.1 54 25 ∧ zq_at zy_nextToken_11_7.2.1 55 42 ∧ zq_at zy_nextToken_11_7.2.1 56 180 ∧ zq_at zy_nextToken_11_7.2.1 57 0 ∧ zq_at zy_nextToken_11_7.2.1 58 22 ∧ zq_at zy_nextToken_11_7.2.1 59 162 ∧ zq_at zy_nextToken_11_7.2.1 60 0 ∧ zq_at zy_nextToken_11_7.2.1 61 17 ∧ zq_at zy_nextToken_11_7.2.1 76 42 ∧ zq_at zy_nextToken_11_7.2.1 77 3 ∧ zq_at zy_nextToken_11_7.2.1 78 181 ∧ zq_at zy_nextToken_11_7.2.1 79 0 ∧ zq_at zy_nextToken_11_7.2.1 80 28 ∧ zq_at zy_nextToken_11_7.2.1 81 167 ∧ zq_at zy_nextToken_11_7.2.1 82 0 ∧ zq_at zy_nextToken_11_7.2.1 83 200 ∧ zq_at zy_nextToken_11_7.2.1 281 177 ∧ zq_at zy_nextToken_11_7.2.1 62 42 ∧ zq_at zy_nextToken_11_7.2.1 63 180 ∧ zq_at zy_nextToken_11_7.2.1 64 0 ∧ zq_at zy_nextToken_11_7.2.1 65 9 := by decide +kernel
theorem zd_11_7_51 : zz_D zy_nextToken_11_7 51 (.aload_n 0) 1 52 := ⟨zq_42 zg_11_7_51.1, rfl⟩
theorem zd_11_7_52 : zz_D zy_nextToken_11_7 52 (.getfield 25) 3 55 := ⟨zq_180 zg_11_7_51.2.1 zg_11_7_51.2.2.1 zg_11_7_51.2.2.2.1 rfl, rfl⟩
theorem zd_11_7_55 : zz_D zy_nextToken_11_7 55 (.aload_n 0) 1 56 := ⟨zq_42 zg_11_7_51.2.2.2.2.1, rfl⟩
theorem zd_11_7_56 : zz_D zy_nextToken_11_7 56 (.getfield 22) 3 59 := ⟨zq_180 zg_11_7_51.2.2.2.2.2.1 zg_11_7_51.2.2.2.2.2.2.1 zg_11_7_51.2.2.2.2.2.2.2.1 rfl, rfl⟩
theorem zd_11_7_59 : zz_B zy_nextToken_11_7 59 (Instr.if_icmp .ge) 76 62 := ⟨17, zq_162 zg_11_7_51.2.2.2.2.2.2.2.2.1 zg_11_7_51.2.2.2.2.2.2.2.2.2.1 zg_11_7_51.2.2.2.2.2.2.2.2.2.2.1 (by decide), rfl, rfl⟩
theorem zd_11_7_76 : zz_D zy_nextToken_11_7 76 (.aload_n 0) 1 77 := ⟨zq_42 zg_11_7_51.2.2.2.2.2.2.2.2.2.2.2.1, rfl⟩
theorem zd_11_7_77 : zz_D zy_nextToken_11_7 77 (.iconst 0) 1 78 := ⟨zq_3 zg_11_7_51.2.2.2.2.2.2.2.2.2.2.2.2.1, rfl⟩
theorem zd_11_7_78 : zz_D zy_nextToken_11_7 78 (.putfield 28) 3 81 := ⟨zq_181 zg_11_7_51.2.2.2.2.2.2.2.2.2.2.2.2.2.1 zg_11_7_51.2.2.2.2.2.2.2.2.2.2.2.2.2.2.1 zg_11_7_51.2.2.2.2.2.2.2.2.2.2.2.2.2.2.2.1 rfl, rfl⟩
theorem zd_11_7_81 : zz_B zy_nextToken_11_7 81 Instr.goto 281 84 := ⟨200, zq_167 zg_11_7_51.2.2.2.2.2.2.2.2.2.2.2.2.2.2.2.2.1 zg_11_7_51.2.2.2.2.2.2.2.2.2.2.2.2.2.2.2.2.2.1 zg_11_7_51.2.2.2.2.2.2.2.2.2.2.2.2.2.2.2.2.2.2.1 (by decide), rfl, rfl⟩
theorem zd_11_7_281 : zz_D zy_nextToken_11_7 281 (.return_) 1 282 := ⟨zq_177 zg_11_7_51.2.2.2.2.2.2.2.2.2.2.2.2.2.2.2.2.2.2.2.1, rfl⟩
theorem zd_11_7_62 : zz_D zy_nextToken_11_7 62 (.aload_n 0) 1 63 := ⟨zq_42 zg_11_7_51.2.2.2.2.2.2.2.2.2.2.2.2.2.2.2.2.2.2.2.2.1, rfl⟩
theorem zd_11_7_63 : zz_D zy_nextToken_11_7 63 (.getfield 9) 3 66 := ⟨zq_180 zg_11_7_51.2.2.2.2.2.2.2.2.2.2.2.2.2.2.2.2.2.2.2.2.2.1 zg_11_7_51.2.2.2.2.2.2.2.2.2.2.2.2.2.2.2.2.2.2.2.2.2.2.1 zg_11_7_51.2.2.2.2.2.2.2.2.2.2.2.2.2.2.2.2.2.2.2.2.2.2.2 rfl, rfl⟩
theorem zg_11_7_66 : zq_at zy_nextToken_11_7.2.1 66 42 ∧ zq_at zy_nextToken_11_7.2.1 67 180 ∧ zq_at zy_nextToken_11_7.2.1 68 0 ∧ zq_at zy_nextToken_11_7.2.1 69 25 ∧ zq_at zy_nextToken_11_7.2.1 70 52 ∧ zq_at zy_nextToken_11_7.2.1 71 16 ∧ zq_at zy_nextToken_11_7.2.1 72 35 ∧ zq_at zy_nextToken_11_7.2.1 73 160 ∧ zq_at zy_nextToken_11_7.2.1 74 0 ∧ zq_at zy_nextToken_11_7.2.1 75 11 ∧ zq_at zy_nextToken_11_7.2.1 84 42 ∧ zq_at zy_nextToken_11_7.2.1 85 180 ∧ zq_at zy_nextToken_11_7.2.1 86 0 ∧ zq_at zy_nextToken_11_7.2.1 87 9 ∧ zq_at zy_nextToken_11_7.2.1 88 42 ∧ zq_at zy_nextToken_11_7.2.1 89 180 ∧ zq_at zy_nextToken_11_7.2.1 90 0 ∧ zq_at zy_nextToken_11_7.2.1 91 25 ∧ zq_at zy_nextToken_11_7.2.1 92 52 ∧ zq_at zy_nextToken_11_7.2.1 93 16 ∧ zq_at zy_nextToken_11_7.2.1 94 97 ∧ zq_at zy_nextToken_11_7.2.1 95 161 ∧ zq_at zy_nextToken_11_7.2.1 96 0 ∧ zq_at zy_nextToken_11_7.2.1 97 77 := by decide +kernel
theorem zd_11_7_66 : zz_D zy_nextToken_11_7 66 (.aload_n 0) 1 67 := ⟨zq_42 zg_11_7_66.1, rfl⟩
theorem zd_11_7_67 : zz_D zy_nextToken_11_7 67 (.getfield 25) 3 70 := ⟨zq_180 zg_11_7_66.2.1 zg_11_7_66.2.2.1 zg_11_7_66.2.2.2.1 rfl, rfl⟩
theorem zd_11_7_70 : zz_D zy_nextToken_11_7 70 (.caload) 1 71 := ⟨zq_52 zg_11_7_66.2.2.2.2.1, rfl⟩
theorem zd_11_7_71 : zz_D zy_nextToken_11_7 71 (.bipush 35) 2 73 := ⟨zq_16 zg_11_7_66.2.2.2.2.2.1 zg_11_7_66.2.2.2.2.2.2.1 (by decide), rfl⟩
theorem zd_11_7_73 : zz_B zy_nextToken_11_7 73 (Instr.if_icmp .ne) 84 76 := ⟨11, zq_160 zg_11_7_66.2.2.2.2.2.2.2.1 zg_11_7_66.2.2.2.2.2.2.2.2.1 zg_11_7_66.2.2.2.2.2.2.2.2.2.1 (by decide), rfl, rfl⟩
theorem zd_11_7_84 : zz_D zy_nextToken_11_7 84 (.aload_n 0) 1 85 := ⟨zq_42 zg_11_7_66.2.2.2.2.2.2.2.2.2.2.1, rfl⟩
theorem zd_11_7_85 : zz_D zy_nextToken_11_7 85 (.getfield 9) 3 88 := ⟨zq_180 zg_11_7_66.2.2.2.2.2.2.2.2.2.2.2.1 zg_11_7_66.2.2.2.2.2.2.2.2.2.2.2.2.1 zg_11_7_66.2.2.2.2.2.2.2.2.2.2.2.2.2.1 rfl, rfl⟩
theorem zd_11_7_88 : zz_D zy_nextToken_11_7 88 (.aload_n 0) 1 89 := ⟨zq_42 zg_11_7_66.2.2.2.2.2.2.2.2.2.2.2.2.2.2.1, rfl⟩
theorem zd_11_7_89 : zz_D zy_nextToken_11_7 89 (.getfield 25) 3 92 := ⟨zq_180 zg_11_7_66.2.2.2.2.2.2.2.2.2.2.2.2.2.2.2.1 zg_11_7_66.2.2.2.2.2.2.2.2.2.2.2.2.2.2.2.2.1 zg_11_7_66.2.2.2.2.2.2.2.2.2.2.2.2.2.2.2.2.2.1 rfl, rfl⟩
theorem zd_11_7_92 : zz_D zy_nextToken_11_7 92 (.caload) 1 93 := ⟨zq_52 zg_11_7_66.2.2.2.2.2.2.2.2.2.2.2.2.2.2.2.2.2.2.1, rfl⟩
theorem zd_11_7_93 : zz_D zy_nextToken_11_7 93 (.bipush 97) 2 95 := ⟨zq_16 zg_11_7_66.2.2.2.2.2.2.2.2.2.2.2.2.2.2.2.2.2.2.2.1 zg_11_7_66.2.2.2.2.2.2.2.2.2.2.2.2.2.2.2.2.2.2.2.2.1 (by decide), rfl⟩
theorem zd_11_7_95 : zz_B zy_nextToken_11_7 95 (Instr.if_icmp .lt) 172 98 := ⟨77, zq_161 zg_11_7_66.2.2.2.2.2.2.2.2.2.2.2.2.2.2.2.2.2.2.2.2.2.1 zg_11_7_66.2.2.2.2.2.2.2.2.2.2.2.2.2.2.2.2.2.2.2.2.2.2.1 zg_11_7_66.2.2.2.2.2.2.2.2.2.2.2.2.2.2.2.2.2.2.2.2.2.2.2 (by decide), rfl, rfl⟩
theorem zg_11_7_98 : zq_at zy_nextToken_11_7.2.1 98 42 ∧ zq_at zy_nextToken_11_7.2.1 99 180 ∧ zq_at zy_nextToken_11_7.2.1 100 0 ∧ zq_at zy_nextToken_11_7.2.1 101 9 ∧ zq_at zy_nextToken_11_7.2.1 102 42 ∧ zq_at zy_nextToken_11_7.2.1 103 180 ∧ zq_at zy_nextToken_11_7.2.1 104 0 ∧ zq_at zy_nextToken_11_7.2.1 105 25 ∧ zq_at zy_nextToken_11_7.2.1 106 52 ∧ zq_at zy_nextToken_11_7.2.1 107 16 ∧ zq_at zy_nextToken_11_7.2.1 108 122 ∧ zq_at zy_nextToken_11_7.2.1 109 163 ∧ zq_at zy_nextToken_11_7.2.1 110 0 ∧ zq_at zy_nextToken_11_7.2.1 111 63 ∧ zq_at zy_nextToken_11_7.2.1 11 42 ∧ zq_at zy_nextToken_11_7.2.1 12 180 ∧ zq_at zy_nextToken_11_7.2.1 13 0 ∧ zq_at zy_nextToken_11_7.2.1 14 9 ∧ zq_at zy_nextToken_11_7.2.1 15 42 ∧ zq_at zy_nextToken_11_7.2.1 16 180 ∧ zq_at zy_nextToken_11_7.2.1 17 0 ∧ zq_at zy_nextToken_11_7.2.1 18 25 ∧ zq_at zy_nextToken_11_7.2.1 19 52 := by decide +kernel
theorem zd_11_7_98 : zz_D zy_nextToken_11_7 98 (.aload_n 0) 1 99 := ⟨zq_42 zg_11_7_98.1, rfl⟩
theorem zd_11_7_99 : zz_D zy_nextToken_11_7 99 (.getfield 9) 3 102 := ⟨zq_180 zg_11_7_98.2.1 zg_11_7_98.2.2.1 zg_11_7_98.2.2.2.1 rfl, rfl⟩
theorem zd_11_7_102 : zz_D zy_nextToken_11_7 102 (.aload_n 0) 1 103 := ⟨zq_42 zg_11_7_98.2.2.2.2.1, rfl⟩
theorem zd_11_7_103 : zz_D zy_nextToken_11_7 103 (.getfield 25) 3 106 := ⟨zq_180 zg_11_7_98.2.2.2.2.2.1 zg_11_7_98.2.2.2.2.2.2.1 zg_11_7_98.2.2.2.2.2.2.2.1 rfl, rfl⟩
theorem zd_11_7_106 : zz_D zy_nextToken_11_7 106 (.caload) 1 107 := ⟨zq_52 zg_11_7_98.2.2.2.2.2.2.2.2.1, rfl⟩
theorem zd_11_7_107 : zz_D zy_nextToken_11_7 107 (.bipush 122) 2 109 := ⟨zq_16 zg_11_7_98.2.2.2.2.2.2.2.2.2.1 zg_11_7_98.2.2.2.2.2.2.2.2.2.2.1 (by decide), rfl⟩
theorem zd_11_7_109 : zz_B zy_nextToken_11_7 109 (Instr.if_icmp .gt) 172 112 := ⟨63, zq_163 zg_11_7_98.2.2.2.2.2.2.2.2.2.2.2.1 zg_11_7_98.2.2.2.2.2.2.2.2.2.2.2.2.1 zg_11_7_98.2.2.2.2.2.2.2.2.2.2.2.2.2.1 (by decide), rfl, rfl⟩
theorem zd_11_7_11 : zz_D zy_nextToken_11_7 11 (.aload_n 0) 1 12 := ⟨zq_42 zg_11_7_98.2.2.2.2.2.2.2.2.2.2.2.2.2.2.1, rfl⟩
theorem zd_11_7_12 : zz_D zy_nextToken_11_7 12 (.getfield 9) 3 15 := ⟨zq_180 zg_11_7_98.2.2.2.2.2.2.2.2.2.2.2.2.2.2.2.1 zg_11_7_98.2.2.2.2.2.2.2.2.2.2.2.2.2.2.2.2.1 zg_11_7_98.2.2.2.2.2.2.2.2.2.2.2.2.2.2.2.2.2.1 rfl, rfl⟩
theorem zd_11_7_15 : zz_D zy_nextToken_11_7 15 (.aload_n 0) 1 16 := ⟨zq_42 zg_11_7_98.2.2.2.2.2.2.2.2.2.2.2.2.2.2.2.2.2.2.1, rfl⟩
theorem zd_11_7_16 : zz_D zy_nextToken_11_7 16 (.getfield 25) 3 19 := ⟨zq_180 zg_11_7_98.2.2.2.2.2.2.2.2.2.2.2.2.2.2.2.2.2.2.2.1 zg_11_7_98.2.2.2.2.2.2.2.2.2.2.2.2.2.2.2.2.2.2.2.2.1 zg_11_7_98.2.2.2.2.2.2.2.2.2.2.2.2.2.2.2.2.2.2.2.2.2.1 rfl, rfl⟩
theorem zd_11_7_19 : zz_D zy_nextToken_11_7 19 (.caload) 1 20 := ⟨zq_52 zg_11_7_98.2.2.2.2.2.2.2.2.2.2.2.2.2.2.2.2.2.2.2.2.2.2, rfl⟩
theorem zg_11_7_20 : zq_at zy_nextToken_11_7.2.1 20 16 ∧ zq_at zy_nextToken_11_7.2.1 21 32 ∧ zq_at zy_nextToken_11_7.2.1 22 160 ∧ zq_at zy_nextToken_11_7.2.1 23 0 ∧ zq_at zy_nextToken_11_7.2.1 24 16 ∧ zq_at zy_nextToken_11_7.2.1 25 42 ∧ zq_at zy_nextToken_11_7.2.1 26 89 ∧ zq_at zy_nextToken_11_7.2.1 27 180 ∧ zq_at zy_nextToken_11_7.2.1 28 0 ∧ zq_at zy_nextToken_11_7.2.1 29 25 ∧ zq_at zy_nextToken_11_7.2.1 30 4 ∧ zq_at zy_nextToken_11_7.2.1 31 96 ∧ zq_at zy_nextToken_11_7.2.1 32 181 ∧ zq_at zy_nextToken_11_7.2.1 33 0 ∧ zq_at zy_nextToken_11_7.2.1 34 25 ∧ zq_at zy_nextToken_11_7.2.1 35 167 ∧ zq_at zy_nextToken_11_7.2.1 36 255 ∧ zq_at zy_nextToken_11_7.2.1 37 221 ∧ zq_at zy_nextToken_11_7.2.1 172 42 ∧ zq_at zy_nextToken_11_7.2.1 173 180 ∧ zq_at zy_nextToken_11_7.2.1 174 0 ∧ zq_at zy_nextToken_11_7.2.1 175 25 ∧ zq_at zy_nextToken_11_7.2.1 176 42 := by decide +kernel
theorem zd_11_7_20 : zz_D zy_nextToken_11_7 20 (.bipush 32) 2 22 := ⟨zq_16 zg_11_7_20.1 zg_11_7_20.2.1 (by decide), rfl⟩
theorem zd_11_7_22 : zz_B zy_nextToken_11_7 22 (Instr.if_icmp .ne) 38 25 := ⟨16, zq_160 zg_11_7_20.2.2.1 zg_11_7_20.2.2.2.1 zg_11_7_20.2.2.2.2.1 (by decide), rfl, rfl⟩
theorem zd_11_7_25 : zz_D zy_nextToken_11_7 25 (.aload_n 0) 1 26 := ⟨zq_42 zg_11_7_20.2.2.2.2.2.1, rfl⟩
theorem zd_11_7_26 : zz_D zy_nextToken_11_7 26 (.dup) 1 27 := ⟨zq_89 zg_11_7_20.2.2.2.2.2.2.1, rfl⟩
theorem zd_11_7_27 : zz_D zy_nextToken_11_7 27 (.getfield 25) 3 30 := ⟨zq_180 zg_11_7_20.2.2.2.2.2.2.2.1 zg_11_7_20.2.2.2.2.2.2.2.2.1 zg_11_7_20.2.2.2.2.2.2.2.2.2.1 rfl, rfl⟩
theorem zd_11_7_30 : zz_D zy_nextToken_11_7 30 (.iconst 1) 1 31 := ⟨zq_4 zg_11_7_20.2.2.2.2.2.2.2.2.2.2.1, rfl⟩
theorem zd_11_7_31 : zz_D zy_nextToken_11_7 31 (.iadd) 1 32 := ⟨zq_96 zg_11_7_20.2.2.2.2.2.2.2.2.2.2.2.1, rfl⟩
theorem zd_11_7_32 : zz_D zy_nextToken_11_7 32 (.putfield 25) 3 35 := ⟨zq_181 zg_11_7_20.2.2.2.2.2.2.2.2.2.2.2.2.1 zg_11_7_20.2.2.2.2.2.2.2.2.2.2.2.2.2.1 zg_11_7_20.2.2.2.2.2.2.2.2.2.2.2.2.2.2.1 rfl, rfl⟩
theorem zd_11_7_35 : zz_B zy_nextToken_11_7 35 Instr.goto 0 38 := ⟨(-35), zq_167 zg_11_7_20.2.2.2.2.2.2.2.2.2.2.2.2.2.2.2.1 zg_11_7_20.2.2.2.2.2.2.2.2.2.2.2.2.2.2.2.2.1 zg_11_7_20.2.2.2.2.2.2.2.2.2.2.2.2.2.2.2.2.2.1 (by decide), rfl, rfl⟩
theorem zd_11_7_172 : zz_D zy_nextToken_11_7 172 (.aload_n 0) 1 173 := ⟨zq_42 zg_11_7_20.2.2.2.2.2.2.2.2.2.2.2.2.2.2.2.2.2.2.1, rfl⟩
theorem zd_11_7_173 : zz_D zy_nextToken_11_7 173 (.getfield 25) 3 176 := ⟨zq_180 zg_11_7_20.2.2.2.2.2.2.2.2.2.2.2.2.2.2.2.2.2.2.2.1 zg_11_7_20.2.2.2.2.2.2.2.2.2.2.2.2.2.2.2.2.2.2.2.2.1 zg_11_7_20.2.2.2.2.2.2.2.2.2.2.2.2.2.2.2.2.2.2.2.2.2.1 rfl, rfl⟩
theorem zd_11_7_176 : zz_D zy_nextToken_11_7 176 (.aload_n 0) 1 177 := ⟨zq_42 zg_11_7_20.2.2.2.2.2.2.2.2.2.2.2.2.2.2.2.2.2.2.2.2.2.2, rfl⟩
theorem zg_11_7_177 : zq_at zy_nextToken_11_7.2.1 177 180 ∧ zq_at zy_nextToken_11_7.2.1 178 0 ∧ zq_at zy_nextToken_11_7.2.1 179 22 ∧ zq_at zy_nextToken_11_7.2.1 180 162 ∧ zq_at zy_nextToken_11_7.2.1 181 0 ∧ zq_at zy_nextToken_11_7.2.1 182 68 ∧ zq_at zy_nextToken_11_7.2.1 248 42 ∧ zq_at zy_nextToken_11_7.2.1 249 42 ∧ zq_at zy_nextToken_11_7.2.1 250 180 ∧ zq_at zy_nextToken_11_7.2.1 251 0 ∧ zq_at zy_nextToken_11_7.2.1 252 25 ∧ zq_at zy_nextToken_11_7.2.1 253 42 ∧ zq_at zy_nextToken_11_7.2.1 254 180 ∧ zq_at zy_nextToken_11_7.2.1 255 0 ∧ zq_at zy_nextToken_11_7.2.1 256 31 ∧ zq_at zy_nextToken_11_7.2.1 257 164 ∧ zq_at zy_nextToken_11_7.2.1 258 0 ∧ zq_at zy_nextToken_11_7.2.1 259 20 ∧ zq_at zy_nextToken_11_7.2.1 277 6 ∧ zq_at zy_nextToken_11_7.2.1 278 181 ∧ zq_at zy_nextToken_11_7.2.1 279 0 ∧ zq_at zy_nextToken_11_7.2.1 280 28 ∧ zq_at zy_nextToken_11_7.2.1 260 42 := by decide +kernel
theorem zd_11_7_177 : zz_D zy_nextToken_11_7 177 (.getfield 22) 3 180 := ⟨zq_180 zg_11_7_177.1 zg_11_7_177.2.1 zg_11_7_177.2.2.1 rfl, rfl⟩
theorem zd_11_7_180 : zz_B zy_nextToken_11_7 180 (Instr.if_icmp .ge) 248 183 := ⟨68, zq_162 zg_11_7_177.2.2.2.1 zg_11_7_177.2.2.2.2.1 zg_11_7_177.2.2.2.2.2.1 (by decide), rfl, rfl⟩
theorem zd_11_7_248 : zz_D zy_nextToken_11_7 248 (.aload_n 0) 1 249 := ⟨zq_42 zg_11_7_177.2.2.2.2.2.2.1, rfl⟩
theorem zd_11_7_249 : zz_D zy_nextToken_11_7 249 (.aload_n 0) 1 250 := ⟨zq_42 zg_11_7_177.2.2.2.2.2.2.2.1, rfl⟩
theorem zd_11_7_250 : zz_D zy_nextToken_11_7 250 (.getfield 25) 3 253 := ⟨zq_180 zg_11_7_177.2.2.2.2.2.2.2.2.1 zg_11_7_177.2.2.2.2.2.2.2.2.2.1 zg_11_7_177.2.2.2.2.2.2.2.2.2.2.1 rfl, rfl⟩
theorem zd_11_7_253 : zz_D zy_nextToken_11_7 253 (.aload_n 0) 1 254 := ⟨zq_42 zg_11_7_177.2.2.2.2.2.2.2.2.2.2.2.1, rfl⟩
theorem zd_11_7_254 : zz_D zy_nextToken_11_7 254 (.getfield 31) 3 257 := ⟨zq_180 zg_11_7_177.2.2.2.2.2.2.2.2.2.2.2.2.1 zg_11_7_177.2.2.2.2.2.2.2.2.2.2.2.2.2.1 zg_11_7_177.2.2.2.2.2.2.2.2.2.2.2.2.2.2.1 rfl, rfl⟩
theorem zd_11_7_257 : zz_B zy_nextToken_11_7 257 (Instr.if_icmp .le) 277 260 := ⟨20, zq_164 zg_11_7_177.2.2.2.2.2.2.2.2.2.2.2.2.2.2.2.1 zg_11_7_177.2.2.2.2.2.2.2.2.2.2.2.2.2.2.2.2.1 zg_11_7_177.2.2.2.2.2.2.2.2.2.2.2.2.2.2.2.2.2.1 (by decide), rfl, rfl⟩
theorem zd_11_7_277 : zz_D zy_nextToken_11_7 277 (.iconst 3) 1 278 := ⟨zq_6 zg_11_7_177.2.2.2.2.2.2.2.2.2.2.2.2.2.2.2.2.2.2.1, rfl⟩
theorem zd_11_7_278 : zz_D zy_nextToken_11_7 278 (.putfield 28) 3 281 := ⟨zq_181 zg_11_7_177.2.2.2.2.2.2.2.2.2.2.2.2.2.2.2.2.2.2.2.1 zg_11_7_177.2.2.2.2.2.2.2.2.2.2.2.2.2.2.2.2.2.2.2.2.1 zg_11_7_177.2.2.2.2.2.2.2.2.2.2.2.2.2.2.2.2.2.2.2.2.2.1 rfl, rfl⟩
theorem zd_11_7_260 : zz_D zy_nextToken_11_7 260 (.aload_n 0) 1 261 := ⟨zq_42 zg_11_7_177.2.2.2.2.2.2.2.2.2.2.2.2.2.2.2.2.2.2.2.2.2.2, rfl⟩
theorem zg_11_7_261 : zq_at zy_nextToken_11_7.2.1 261 180 ∧ zq_at zy_nextToken_11_7.2.1 262 0 ∧ zq_at zy_nextToken_11_7.2.1 263 25 ∧ zq_at zy_nextToken_11_7.2.1 264 42 ∧ zq_at zy_nextToken_11_7.2.1 265 180 ∧ zq_at zy_nextToken_11_7.2.1 266 0 ∧ zq_at zy_nextToken_11_7.2.1 267 31 ∧ zq_at zy_nextToken_11_7.2.1 268 100 ∧ zq_at zy_nextToken_11_7.2.1 269 7 ∧ zq_at zy_nextToken_11_7.2.1 270 163 ∧ zq_at zy_nextToken_11_7.2.1 271 0 ∧ zq_at zy_nextToken_11_7.2.1 272 7 ∧ zq_at zy_nextToken_11_7.2.1 273 5 ∧ zq_at zy_nextToken_11_7.2.1 274 167 ∧ zq_at zy_nextToken_11_7.2.1 275 0 ∧ zq_at zy_nextToken_11_7.2.1 276 4 ∧ zq_at zy_nextToken_11_7.2.1 183 42 ∧ zq_at zy_nextToken_11_7.2.1 184 180 ∧ zq_at zy_nextToken_11_7.2.1 185 0 ∧ zq_at zy_nextToken_11_7.2.1 186 9 ∧ zq_at zy_nextToken_11_7.2.1 187 42 ∧ zq_at zy_nextToken_11_7.2.1 188 180 ∧ zq_at zy_nextToken_11_7.2.1 189 0 ∧ zq_at zy_nextToken_11_7.2.1 190 25 := by decide +kernel
theorem zd_11_7_261 : zz_D zy_nextToken_11_7 261 (.getfield 25) 3 264 := ⟨zq_180 zg_11_7_261.1 zg_11_7_261.2.1 zg_11_7_261.2.2.1 rfl, rfl⟩
theorem zd_11_7_264 : zz_D zy_nextToken_11_7 264 (.aload_n 0) 1 265 := ⟨zq_42 zg_11_7_261.2.2.2.1, rfl⟩
theorem zd_11_7_265 : zz_D zy_nextToken_11_7 265 (.getfield 31) 3 268 := ⟨zq_180 zg_11_7_261.2.2.2.2.1 zg_11_7_261.2.2.2.2.2.1 zg_11_7_261.2.2.2.2.2.2.1 rfl, rfl⟩
theorem zd_11_7_268 : zz_D zy_nextToken_11_7 268 (.isub) 1 269 := ⟨zq_100 zg_11_7_261.2.2.2.2.2.2.2.1, rfl⟩
theorem zd_11_7_269 : zz_D zy_nextToken_11_7 269 (.iconst 4) 1 270 := ⟨zq_7 zg_11_7_261.2.2.2.2.2.2.2.2.1, rfl⟩
theorem zd_11_7_270 : zz_B zy_nextToken_11_7 270 (Instr.if_icmp .gt) 277 273 := ⟨7, zq_163 zg_11_7_261.2.2.2.2.2.2.2.2.2.1 zg_11_7_261.2.2.2.2.2.2.2.2.2.2.1 zg_11_7_261.2.2.2.2.2.2.2.2.2.2.2.1 (by decide), rfl, rfl⟩
theorem zd_11_7_273 : zz_D zy_nextToken_11_7 273 (.iconst 2) 1 274 := ⟨zq_5 zg_11_7_261.2.2.2.2.2.2.2.2.2.2.2.2.1, rfl⟩
theorem zd_11_7_274 : zz_B zy_nextToken_11_7 274 Instr.goto 278 277 := ⟨4, zq_167 zg_11_7_261.2.2.2.2.2.2.2.2.2.2.2.2.2.1 zg_11_7_261.2.2.2.2.2.2.2.2.2.2.2.2.2.2.1 zg_11_7_261.2.2.2.2.2.2.2.2.2.2.2.2.2.2.2.1 (by decide), rfl, rfl⟩
theorem zd_11_7_183 : zz_D zy_nextToken_11_7 183 (.aload_n 0) 1 184 := ⟨zq_42 zg_11_7_261.2.2.2.2.2.2.2.2.2.2.2.2.2.2.2.2.1, rfl⟩
theorem zd_11_7_184 : zz_D zy_nextToken_11_7 184 (.getfield 9) 3 187 := ⟨zq_180 zg_11_7_261.2.2.2.2.2.2.2.2.2.2.2.2.2.2.2.2.2.1 zg_11_7_261.2.2.2.2.2.2.2.2.2.2.2.2.2.2.2.2.2.2.1 zg_11_7_261.2.2.2.2.2.2.2.2.2.2.2.2.2.2.2.2.2.2.2.1 rfl, rfl⟩
theorem zd_11_7_187 : zz_D zy_nextToken_11_7 187 (.aload_n 0) 1 188 := ⟨zq_42 zg_11_7_261.2.2.2.2.2.2.2.2.2.2.2.2.2.2.2.2.2.2.2.2.1, rfl⟩
theorem zd_11_7_188 : zz_D zy_nextToken_11_7 188 (.getfield 25) 3 191 := ⟨zq_180 zg_11_7_261.2.2.2.2.2.2.2.2.2.2.2.2.2.2.2.2.2.2.2.2.2.1 zg_11_7_261.2.2.2.2.2.2.2.2.2.2.2.2.2.2.2.2.2.2.2.2.2.2.1 zg_11_7_261.2.2.2.2.2.2.2.2.2.2.2.2.2.2.2.2.2.2.2.2.2.2.2 rfl, rfl⟩
theorem zg_11_7_191 : zq_at zy_nextToken_11_7.2.1 191 52 ∧ zq_at zy_nextToken_11_7.2.1 192 16 ∧ zq_at zy_nextToken_11_7.2.1 193 48 ∧ zq_at zy_nextToken_11_7.2.1 194 161 ∧ zq_at zy_nextToken_11_7.2.1 195 0 ∧ zq_at zy_nextToken_11_7.2.1 196 54 ∧ zq_at zy_nextToken_11_7.2.1 197 42 ∧ zq_at zy_nextToken_11_7.2.1 198 180 ∧ zq_at zy_nextToken_11_7.2.1 199 0 ∧ zq_at zy_nextToken_11_7.2.1 200 9 ∧ zq_at zy_nextToken_11_7.2.1 201 42 ∧ zq_at zy_nextToken_11_7.2.1 202 180 ∧ zq_at zy_nextToken_11_7.2.1 203 0 ∧ zq_at zy_nextToken_11_7.2.1 204 25 ∧ zq_at zy_nextToken_11_7.2.1 205 52 ∧ zq_at zy_nextToken_11_7.2.1 206 16 ∧ zq_at zy_nextToken_11_7.2.1 207 57 ∧ zq_at zy_nextToken_11_7.2.1 208 163 ∧ zq_at zy_nextToken_11_7.2.1 209 0 ∧ zq_at zy_nextToken_11_7.2.1 210 40 ∧ zq_at zy_nextToken_11_7.2.1 211 42 ∧ zq_at zy_nextToken_11_7.2.1 212 16 ∧ zq_at zy_nextToken_11_7.2.1 213 10 ∧ zq_at zy_nextToken_11_7.2.1 214 42 := by decide +kernel
theorem zd_11_7_191 : zz_D zy_nextToken_11_7 191 (.caload) 1 192 := ⟨zq_52 zg_11_7_191.1, rfl⟩
theorem zd_11_7_192 : zz_D zy_nextToken_11_7 192 (.bipush 48) 2 194 := ⟨zq_16 zg_11_7_191.2.1 zg_11_7_191.2.2.1 (by decide), rfl⟩
theorem zd_11_7_194 : zz_B zy_nextToken_11_7 194 (Instr.if_icmp .lt) 248 197 := ⟨54, zq_161 zg_11_7_191.2.2.2.1 zg_11_7_191.2.2.2.2.1 zg_11_7_191.2.2.2.2.2.1 (by decide), rfl, rfl⟩
theorem zd_11_7_197 : zz_D zy_nextToken_11_7 197 (.aload_n 0) 1 198 := ⟨zq_42 zg_11_7_191.2.2.2.2.2.2.1, rfl⟩
theorem zd_11_7_198 : zz_D zy_nextToken_11_7 198 (.getfield 9) 3 201 := ⟨zq_180 zg_11_7_191.2.2.2.2.2.2.2.1 zg_11_7_191.2.2.2.2.2.2.2.2.1 zg_11_7_191.2.2.2.2.2.2.2.2.2.1 rfl, rfl⟩
theorem zd_11_7_201 : zz_D zy_nextToken_11_7 201 (.aload_n 0) 1 202 := ⟨zq_42 zg_11_7_191.2.2.2.2.2.2.2.2.2.2.1, rfl⟩
theorem zd_11_7_202 : zz_D zy_nextToken_11_7 202 (.getfield 25) 3 205 := ⟨zq_180 zg_11_7_191.2.2.2.2.2.2.2.2.2.2.2.1 zg_11_7_191.2.2.2.2.2.2.2.2.2.2.2.2.1 zg_11_7_191.2.2.2.2.2.2.2.2.2.2.2.2.2.1 rfl, rfl⟩
theorem zd_11_7_205 : zz_D zy_nextToken_11_7 205 (.caload) 1 206 := ⟨zq_52 zg_11_7_191.2.2.2.2.2.2.2.2.2.2.2.2.2.2.1, rfl⟩
theorem zd_11_7_206 : zz_D zy_nextToken_11_7 206 (.bipush 57) 2 208 := ⟨zq_16 zg_11_7_191.2.2.2.2.2.2.2.2.2.2.2.2.2.2.2.1 zg_11_7_191.2.2.2.2.2.2.2.2.2.2.2.2.2.2.2.2.1 (by decide), rfl⟩
theorem zd_11_7_208 : zz_B zy_nextToken_11_7 208 (Instr.if_icmp .gt) 248 211 := ⟨40, zq_163 zg_11_7_191.2.2.2.2.2.2.2.2.2.2.2.2.2.2.2.2.2.1 zg_11_7_191.2.2.2.2.2.2.2.2.2.2.2.2.2.2.2.2.2.2.1 zg_11_7_191.2.2.2.2.2.2.2.2.2.2.2.2.2.2.2.2.2.2.2.1 (by decide), rfl, rfl⟩
theorem zd_11_7_211 : zz_D zy_nextToken_11_7 211 (.aload_n 0) 1 212 := ⟨zq_42 zg_11_7_191.2.2.2.2.2.2.2.2.2.2.2.2.2.2.2.2.2.2.2.2.1, rfl⟩
theorem zd_11_7_212 : zz_D zy_nextToken_11_7 212 (.bipush 10) 2 214 := ⟨zq_16 zg_11_7_191.2.2.2.2.2.2.2.2.2.2.2.2.2.2.2.2.2.2.2.2.2.1 zg_11_7_191.2.2.2.2.2.2.2.2.2.2.2.2.2.2.2.2.2.2.2.2.2.2.1 (by decide), rfl⟩
theorem zd_11_7_214 : zz_D zy_nextToken_11_7 214 (.aload_n 0) 1 215 := ⟨zq_42 zg_11_7_191.2.2.2.2.2.2.2.2.2.2.2.2.2.2.2.2.2.2.2.2.2.2.2, rfl⟩
theorem zg_11_7_215 : zq_at zy_nextToken_11_7.2.1 215 180 ∧ zq_at zy_nextToken_11_7.2.1 216 0 ∧ zq_at zy_nextToken_11_7.2.1 217 34 ∧ zq_at zy_nextToken_11_7.2.1 218 104 ∧ zq_at zy_nextToken_11_7.2.1 219 42 ∧ zq_at zy_nextToken_11_7.2.1 220 180 ∧ zq_at zy_nextToken_11_7.2.1 221 0 ∧ zq_at zy_nextToken_11_7.2.1 222 9 ∧ zq_at zy_nextToken_11_7.2.1 223 42 ∧ zq_at zy_nextToken_11_7.2.1 224 180 ∧ zq_at zy_nextToken_11_7.2.1 225 0 ∧ zq_at zy_nextToken_11_7.2.1 226 25 ∧ zq_at zy_nextToken_11_7.2.1 227 52 ∧ zq_at zy_nextToken_11_7.2.1 228 96 ∧ zq_at zy_nextToken_11_7.2.1 229 16 ∧ zq_at zy_nextToken_11_7.2.1 230 48 ∧ zq_at zy_nextToken_11_7.2.1 231 100 ∧ zq_at zy_nextToken_11_7.2.1 232 181 ∧ zq_at zy_nextToken_11_7.2.1 233 0 ∧ zq_at zy_nextToken_11_7.2.1 234 34 ∧ zq_at zy_nextToken_11_7.2.1 235 42 ∧ zq_at zy_nextToken_11_7.2.1 236 89 := by decide +kernel
theorem zd_11_7_215 : zz_D zy_nextToken_11_7 215 (.getfield 34) 3 218 := ⟨zq_180 zg_11_7_215.1 zg_11_7_215.2.1 zg_11_7_215.2.2.1 rfl, rfl⟩
theorem zd_11_7_218 : zz_D zy_nextToken_11_7 218 (.imul) 1 219 := ⟨zq_104 zg_11_7_215.2.2.2.1, rfl⟩
theorem zd_11_7_219 : zz_D zy_nextToken_11_7 219 (.aload_n 0) 1 220 := ⟨zq_42 zg_11_7_215.2.2.2.2.1, rfl⟩
theorem zd_11_7_220 : zz_D zy_nextToken_11_7 220 (.getfield 9) 3 223 := ⟨zq_180 zg_11_7_215.2.2.2.2.2.1 zg_11_7_215.2.2.2.2.2.2.1 zg_11_7_215.2.2.2.2.2.2.2.1 rfl, rfl⟩
theorem zd_11_7_223 : zz_D zy_nextToken_11_7 223 (.aload_n 0) 1 224 := ⟨zq_42 zg_11_7_215.2.2.2.2.2.2.2.2.1, rfl⟩
theorem zd_11_7_224 : zz_D zy_nextToken_11_7 224 (.getfield 25) 3 227 := ⟨zq_180 zg_11_7_215.2.2.2.2.2.2.2.2.2.1 zg_11_7_215.2.2.2.2.2.2.2.2.2.2.1 zg_11_7_215.2.2.2.2.2.2.2.2.2.2.2.1 rfl, rfl⟩
theorem zd_11_7_227 : zz_D zy_nextToken_11_7 227 (.caload) 1 228 := ⟨zq_52 zg_11_7_215.2.2.2.2.2.2.2.2.2.2.2.2.1, rfl⟩
theorem zd_11_7_228 : zz_D zy_nextToken_11_7 228 (.iadd) 1 229 := ⟨zq_96 zg_11_7_215.2.2.2.2.2.2.2.2.2.2.2.2.2.1, rfl⟩
theorem zd_11_7_229 : zz_D zy_nextToken_11_7 229 (.bipush 48) 2 231 := ⟨zq_16 zg_11_7_215.2.2.2.2.2.2.2.2.2.2.2.2.2.2.1 zg_11_7_215.2.2.2.2.2.2.2.2.2.2.2.2.2.2.2.1 (by decide), rfl⟩
theorem zd_11_7_231 : zz_D zy_nextToken_11_7 231 (.isub) 1 232 := ⟨zq_100 zg_11_7_215.2.2.2.2.2.2.2.2.2.2.2.2.2.2.2.2.1, rfl⟩
theorem zd_11_7_232 : zz_D zy_nextToken_11_7 232 (.putfield 34) 3 235 := ⟨zq_181 zg_11_7_215.2.2.2.2.2.2.2.2.2.2.2.2.2.2.2.2.2.1 zg_11_7_215.2.2.2.2.2.2.2.2.2.2.2.2.2.2.2.2.2.2.1 zg_11_7_215.2.2.2.2.2.2.2.2.2.2.2.2.2.2.2.2.2.2.2.1 rfl, rfl⟩
theorem zd_11_7_235 : zz_D zy_nextToken_11_7 235 (.aload_n 0) 1 236 := ⟨zq_42 zg_11_7_215.2.2.2.2.2.2.2.2.2.2.2.2.2.2.2.2.2.2.2.2.1, rfl⟩
theorem zd_11_7_236 : zz_D zy_nextToken_11_7 236 (.dup) 1 237 := ⟨zq_89 zg_11_7_215.2.2.2.2.2.2.2.2.2.2.2.2.2.2.2.2.2.2.2.2.2, rfl⟩
theorem zg_11_7_237 : zq_at zy_nextToken_11_7.2.1 237 180 ∧ zq_at zy_nextToken_11_7.2.1 238 0 ∧ zq_at zy_nextToken_11_7.2.1 239 25 ∧ zq_at zy_nextToken_11_7.2.1 240 4 ∧ zq_at zy_nextToken_11_7.2.1 241 96 ∧ zq_at zy_nextToken_11_7.2.1 242 181 ∧ zq_at zy_nextToken_11_7.2.1 243 0 ∧ zq_at zy_nextToken_11_7.2.1 244 25 ∧ zq_at zy_nextToken_11_7.2.1 245 167 ∧ zq_at zy_nextToken_11_7.2.1 246 255 ∧ zq_at zy_nextToken_11_7.2.1 247 183 ∧ zq_at zy_nextToken_11_7.2.1 112 42 ∧ zq_at zy_nextToken_11_7.2.1 113 180 ∧ zq_at zy_nextToken_11_7.2.1 114 0 ∧ zq_at zy_nextToken_11_7.2.1 115 25 ∧ zq_at zy_nextToken_11_7.2.1 116 42 ∧ zq_at zy_nextToken_11_7.2.1 117 180 ∧ zq_at zy_nextToken_11_7.2.1 118 0 ∧ zq_at zy_nextToken_11_7.2.1 119 22 ∧ zq_at zy_nextToken_11_7.2.1 120 162 ∧ zq_at zy_nextToken_11_7.2.1 121 0 ∧ zq_at zy_nextToken_11_7.2.1 122 44 ∧ zq_at zy_nextToken_11_7.2.1 164 42 ∧ zq_at zy_nextToken_11_7.2.1 165 4 := by decide +kernel
theorem zd_11_7_237 : zz_D zy_nextToken_11_7 237 (.getfield 25) 3 240 := ⟨zq_180 zg_11_7_237.1 zg_11_7_237.2.1 zg_11_7_237.2.2.1 rfl, rfl⟩
theorem zd_11_7_240 : zz_D zy_nextToken_11_7 240 (.iconst 1) 1 241 := ⟨zq_4 zg_11_7_237.2.2.2.1, rfl⟩
theorem zd_11_7_241 : zz_D zy_nextToken_11_7 241 (.iadd) 1 242 := ⟨zq_96 zg_11_7_237.2.2.2.2.1, rfl⟩
theorem zd_11_7_242 : zz_D zy_nextToken_11_7 242 (.putfield 25) 3 245 := ⟨zq_181 zg_11_7_237.2.2.2.2.2.1 zg_11_7_237.2.2.2.2.2.2.1 zg_11_7_237.2.2.2.2.2.2.2.1 rfl, rfl⟩
theorem zd_11_7_245 : zz_B zy_nextToken_11_7 245 Instr.goto 172 248 := ⟨(-73), zq_167 zg_11_7_237.2.2.2.2.2.2.2.2.1 zg_11_7_237.2.2.2.2.2.2.2.2.2.1 zg_11_7_237.2.2.2.2.2.2.2.2.2.2.1 (by decide), rfl, rfl⟩
theorem zd_11_7_112 : zz_D zy_nextToken_11_7 112 (.aload_n 0) 1 113 := ⟨zq_42 zg_11_7_237.2.2.2.2.2.2.2.2.2.2.2.1, rfl⟩
theorem zd_11_7_113 : zz_D zy_nextToken_11_7 113 (.getfield 25) 3 116 := ⟨zq_180 zg_11_7_237.2.2.2.2.2.2.2.2.2.2.2.2.1 zg_11_7_237.2.2.2.2.2.2.2.2.2.2.2.2.2.1 zg_11_7_237.2.2.2.2.2.2.2.2.2.2.2.2.2.2.1 rfl, rfl⟩
theorem zd_11_7_116 : zz_D zy_nextToken_11_7 116 (.aload_n 0) 1 117 := ⟨zq_42 zg_11_7_237.2.2.2.2.2.2.2.2.2.2.2.2.2.2.2.1, rfl⟩
theorem zd_11_7_117 : zz_D zy_nextToken_11_7 117 (.getfield 22) 3 120 := ⟨zq_180 zg_11_7_237.2.2.2.2.2.2.2.2.2.2.2.2.2.2.2.2.1 zg_11_7_237.2.2.2.2.2.2.2.2.2.2.2.2.2.2.2.2.2.1 zg_11_7_237.2.2.2.2.2.2.2.2.2.2.2.2.2.2.2.2.2.2.1 rfl, rfl⟩
theorem zd_11_7_120 : zz_B zy_nextToken_11_7 120 (Instr.if_icmp .ge) 164 123 := ⟨44, zq_162 zg_11_7_237.2.2.2.2.2.2.2.2.2.2.2.2.2.2.2.2.2.2.2.1 zg_11_7_237.2.2.2.2.2.2.2.2.2.2.2.2.2.2.2.2.2.2.2.2.1 zg_11_7_237.2.2.2.2.2.2.2.2.2.2.2.2.2.2.2.2.2.2.2.2.2.1 (by decide), rfl, rfl⟩
theorem zd_11_7_164 : zz_D zy_nextToken_11_7 164 (.aload_n 0) 1 165 := ⟨zq_42 zg_11_7_237.2.2.2.2.2.2.2.2.2.2.2.2.2.2.2.2.2.2.2.2.2.2.1, rfl⟩
theorem zd_11_7_165 : zz_D zy_nextToken_11_7 165 (.iconst 1) 1 166 := ⟨zq_4 zg_11_7_237.2.2.2.2.2.2.2.2.2.2.2.2.2.2.2.2.2.2.2.2.2.2.2, rfl⟩
theorem zg_11_7_166 : zq_at zy_nextToken_11_7.2.1 166 181 ∧ zq_at zy_nextToken_11_7.2.1 167 0 ∧ zq_at zy_nextToken_11_7.2.1 168 28 ∧ zq_at zy_nextToken_11_7.2.1 169 167 ∧ zq_at zy_nextToken_11_7.2.1 170 0 ∧ zq_at zy_nextToken_11_7.2.1 171 112 ∧ zq_at zy_nextToken_11_7.2.1 123 42 ∧ zq_at zy_nextToken_11_7.2.1 124 180 ∧ zq_at zy_nextToken_11_7.2.1 125 0 ∧ zq_at zy_nextToken_11_7.2.1 126 9 ∧ zq_at zy_nextToken_11_7.2.1 127 42 ∧ zq_at zy_nextToken_11_7.2.1 128 180 ∧ zq_at zy_nextToken_11_7.2.1 129 0 ∧ zq_at zy_nextToken_11_7.2.1 130 25 ∧ zq_at zy_nextToken_11_7.2.1 131 52 ∧ zq_at zy_nextToken_11_7.2.1 132 16 ∧ zq_at zy_nextToken_11_7.2.1 133 97 ∧ zq_at zy_nextToken_11_7.2.1 134 161 ∧ zq_at zy_nextToken_11_7.2.1 135 0 ∧ zq_at zy_nextToken_11_7.2.1 136 30 ∧ zq_at zy_nextToken_11_7.2.1 137 42 ∧ zq_at zy_nextToken_11_7.2.1 138 180 ∧ zq_at zy_nextToken_11_7.2.1 139 0 ∧ zq_at zy_nextToken_11_7.2.1 140 9 := by decide +kernel
theorem zd_11_7_166 : zz_D zy_nextToken_11_7 166 (.putfield 28) 3 169 := ⟨zq_181 zg_11_7_166.1 zg_11_7_166.2.1 zg_11_7_166.2.2.1 rfl, rfl⟩
theorem zd_11_7_169 : zz_B zy_nextToken_11_7 169 Instr.goto 281 172 := ⟨112, zq_167 zg_11_7_166.2.2.2.1 zg_11_7_166.2.2.2.2.1 zg_11_7_166.2.2.2.2.2.1 (by decide), rfl, rfl⟩
theorem zd_11_7_123 : zz_D zy_nextToken_11_7 123 (.aload_n 0) 1 124 := ⟨zq_42 zg_11_7_166.2.2.2.2.2.2.1, rfl⟩
theorem zd_11_7_124 : zz_D zy_nextToken_11_7 124 (.getfield 9) 3 127 := ⟨zq_180 zg_11_7_166.2.2.2.2.2.2.2.1 zg_11_7_166.2.2.2.2.2.2.2.2.1 zg_11_7_166.2.2.2.2.2.2.2.2.2.1 rfl, rfl⟩
theorem zd_11_7_127 : zz_D zy_nextToken_11_7 127 (.aload_n 0) 1 128 := ⟨zq_42 zg_11_7_166.2.2.2.2.2.2.2.2.2.2.1, rfl⟩
theorem zd_11_7_128 : zz_D zy_nextToken_11_7 128 (.getfield 25) 3 131 := ⟨zq_180 zg_11_7_166.2.2.2.2.2.2.2.2.2.2.2.1 zg_11_7_166.2.2.2.2.2.2.2.2.2.2.2.2.1 zg_11_7_166.2.2.2.2.2.2.2.2.2.2.2.2.2.1 rfl, rfl⟩
theorem zd_11_7_131 : zz_D zy_nextToken_11_7 131 (.caload) 1 132 := ⟨zq_52 zg_11_7_166.2.2.2.2.2.2.2.2.2.2.2.2.2.2.1, rfl⟩
theorem zd_11_7_132 : zz_D zy_nextToken_11_7 132 (.bipush 97) 2 134 := ⟨zq_16 zg_11_7_166.2.2.2.2.2.2.2.2.2.2.2.2.2.2.2.1 zg_11_7_166.2.2.2.2.2.2.2.2.2.2.2.2.2.2.2.2.1 (by decide), rfl⟩
theorem zd_11_7_134 : zz_B zy_nextToken_11_7 134 (Instr.if_icmp .lt) 164 137 := ⟨30, zq_161 zg_11_7_166.2.2.2.2.2.2.2.2.2.2.2.2.2.2.2.2.2.1 zg_11_7_166.2.2.2.2.2.2.2.2.2.2.2.2.2.2.2.2.2.2.1 zg_11_7_166.2.2.2.2.2.2.2.2.2.2.2.2.2.2.2.2.2.2.2.1 (by decide), rfl, rfl⟩
theorem zd_11_7_137 : zz_D zy_nextToken_11_7 137 (.aload_n 0) 1 138 := ⟨zq_42 zg_11_7_166.2.2.2.2.2.2.2.2.2.2.2.2.2.2.2.2.2.2.2.2.1, rfl⟩
theorem zd_11_7_138 : zz_D zy_nextToken_11_7 138 (.getfield 9) 3 141 := ⟨zq_180 zg_11_7_166.2.2.2.2.2.2.2.2.2.2.2.2.2.2.2.2.2.2.2.2.2.1 zg_11_7_166.2.2.2.2.2.2.2.2.2.2.2.2.2.2.2.2.2.2.2.2.2.2.1 zg_11_7_166.2.2.2.2.2.2.2.2.2.2.2.2.2.2.2.2.2.2.2.2.2.2.2 rfl, rfl⟩
theorem zg_11_7_141 : zq_at zy_nextToken_11_7.2.1 141 42 ∧ zq_at zy_nextToken_11_7.2.1 142 180 ∧ zq_at zy_nextToken_11_7.2.1 143 0 ∧ zq_at zy_nextToken_11_7.2.1 144 25 ∧ zq_at zy_nextToken_11_7.2.1 145 52 ∧ zq_at zy_nextToken_11_7.2.1 146 16 ∧ zq_at zy_nextToken_11_7.2.1 147 122 ∧ zq_at zy_nextToken_11_7.2.1 148 163 ∧ zq_at zy_nextToken_11_7.2.1 149 0 ∧ zq_at zy_nextToken_11_7.2.1 150 16 ∧ zq_at zy_nextToken_11_7.2.1 151 42 ∧ zq_at zy_nextToken_11_7.2.1 152 89 ∧ zq_at zy_nextToken_11_7.2.1 153 180 ∧ zq_at zy_nextToken_11_7.2.1 154 0 ∧ zq_at zy_nextToken_11_7.2.1 155 25 ∧ zq_at zy_nextToken_11_7.2.1 156 4 ∧ zq_at zy_nextToken_11_7.2.1 157 96 ∧ zq_at zy_nextToken_11_7.2.1 158 181 ∧ zq_at zy_nextToken_11_7.2.1 159 0 ∧ zq_at zy_nextToken_11_7.2.1 160 25 ∧ zq_at zy_nextToken_11_7.2.1 161 167 ∧ zq_at zy_nextToken_11_7.2.1 162 255 ∧ zq_at zy_nextToken_11_7.2.1 163 207 := by decide +kernel
theorem zd_11_7_141 : zz_D zy_nextToken_11_7 141 (.aload_n 0) 1 142 := ⟨zq_42 zg_11_7_141.1, rfl⟩
theorem zd_11_7_142 : zz_D zy_nextToken_11_7 142 (.getfield 25) 3 145 := ⟨zq_180 zg_11_7_141.2.1 zg_11_7_141.2.2.1 zg_11_7_141.2.2.2.1 rfl, rfl⟩
theorem zd_11_7_145 : zz_D zy_nextToken_11_7 145 (.caload) 1 146 := ⟨zq_52 zg_11_7_141.2.2.2.2.1, rfl⟩
theorem zd_11_7_146 : zz_D zy_nextToken_11_7 146 (.bipush 122) 2 148 := ⟨zq_16 zg_11_7_141.2.2.2.2.2.1 zg_11_7_141.2.2.2.2.2.2.1 (by decide), rfl⟩
theorem zd_11_7_148 : zz_B zy_nextToken_11_7 148 (Instr.if_icmp .gt) 164 151 := ⟨16, zq_163 zg_11_7_141.2.2.2.2.2.2.2.1 zg_11_7_141.2.2.2.2.2.2.2.2.1 zg_11_7_141.2.2.2.2.2.2.2.2.2.1 (by decide), rfl, rfl⟩
theorem zd_11_7_151 : zz_D zy_nextToken_11_7 151 (.aload_n 0) 1 152 := ⟨zq_42 zg_11_7_141.2.2.2.2.2.2.2.2.2.2.1, rfl⟩
theorem zd_11_7_152 : zz_D zy_nextToken_11_7 152 (.dup) 1 153 := ⟨zq_89 zg_11_7_141.2.2.2.2.2.2.2.2.2.2.2.1, rfl⟩
theorem zd_11_7_153 : zz_D zy_nextToken_11_7 153 (.getfield 25) 3 156 := ⟨zq_180 zg_11_7_141.2.2.2.2.2.2.2.2.2.2.2.2.1 zg_11_7_141.2.2.2.2.2.2.2.2.2.2.2.2.2.1 zg_11_7_141.2.2.2.2.2.2.2.2.2.2.2.2.2.2.1 rfl, rfl⟩
theorem zd_11_7_156 : zz_D zy_nextToken_11_7 156 (.iconst 1) 1 157 := ⟨zq_4 zg_11_7_141.2.2.2.2.2.2.2.2.2.2.2.2.2.2.2.1, rfl⟩
theorem zd_11_7_157 : zz_D zy_nextToken_11_7 157 (.iadd) 1 158 := ⟨zq_96 zg_11_7_141.2.2.2.2.2.2.2.2.2.2.2.2.2.2.2.2.1, rfl⟩
theorem zd_11_7_158 : zz_D zy_nextToken_11_7 158 (.putfield 25) 3 161 := ⟨zq_181 zg_11_7_141.2.2.2.2.2.2.2.2.2.2.2.2.2.2.2.2.2.1 zg_11_7_141.2.2.2.2.2.2.2.2.2.2.2.2.2.2.2.2.2.2.1 zg_11_7_141.2.2.2.2.2.2.2.2.2.2.2.2.2.2.2.2.2.2.2.1 rfl, rfl⟩
theorem zd_11_7_161 : zz_B zy_nextToken_11_7 161 Instr.goto 112 164 := ⟨(-49), zq_167 zg_11_7_141.2.2.2.2.2.2.2.2.2.2.2.2.2.2.2.2.2.2.2.2.1 zg_11_7_141.2.2.2.2.2.2.2.2.2.2.2.2.2.2.2.2.2.2.2.2.2.1 zg_11_7_141.2.2.2.2.2.2.2.2.2.2.2.2.2.2.2.2.2.2.2.2.2.2 (by decide), rfl, rfl⟩
-- TensorForge$Text nextToken ()V
abbrev zr_nextToken_11_7 : Room := { frames := 0, cells := 0, slots := 0, locals := 0 }
def zp_nextToken_11_7  (S0 : zz_S) : zz_S → Prop := fun S => zz_G S ∧ zz_fr [(1070, 3), (1070, 4), (1070, 5), (1070, 6)] [] (fun _ _ => False) S0 S ∧ (zt_co (S 1070 4) (zt_wl (S0 1071) (S 1070 5) (S 1070 3) 20) = zt_tk (S0 1071) (S0 1070 2) (S0 1070 3)) ∧ (S 1070 3 = zt_te (S0 1071) (S0 1070 2) (S0 1070 3)) ∧ (S 1070 4 = 2 → S 1070 6 = zt_tv (S0 1071) (S0 1070 2) (S0 1070 3)) ∧ (0 ≤ S 1070 4 ∧ S 1070 4 ≤ 3) ∧ (S0 1070 3 ≤ S 1070 3) ∧ (S 1070 4 = 1 ∨ S 1070 4 = 2 → S0 1070 3 < S 1070 3) ∧ (S 1070 4 = 2 → 0 ≤ S 1070 6 ∧ S 1070 6 ≤ 9999) ∧ (S0 1070 3 ≤ S0 1070 2 → S 1070 3 ≤ S0 1070 2) ∧ (zt_NK (S0 1071) (S0 1070 2) (S0 1070 3) (S 1070 4) (S 1070 5) (S 1070 3))
theorem zb_nextToken_11_7_0 {g : mm_G} {l : Launch}  (S0 : zz_S) (n : Nat) (hn : zz_end ≤ n) (G_S0 : zz_G S0)   (S : zz_S) (G_S : zz_G S) (F_S : zz_fr [(1070, 3), (1070, 4), (1070, 5), (1070, 6)] [] (fun _ _ => False) S0 S) (i0_0 : S0 1070 3 < S0 1070 2) (i0_1 : S0 1071 ((S0 1070 3).toNat) = 32) (i0_2 : S0 1070 3 ≤ S 1070 3 ∧ S 1070 3 ≤ S0 1070 2) (i0_3 : zt_R 32 32 (S0 1071) (S0 1070 2) (S 1070 3) = zt_R 32 32 (S0 1071) (S0 1070 2) (S0 1070 3)) (R : Nat) (hR : (51539607552 + (S0 1070 2 - S 1070 3).toNat) = R) (k0 : ∀  (S : zz_S), zz_G S → zz_fr [(1070, 3), (1070, 4), (1070, 5), (1070, 6)] [] (fun _ _ => False) S0 S → (S0 1070 3 < S0 1070 2) → (S0 1071 ((S0 1070 3).toNat) = 32) → (S0 1070 3 ≤ S 1070 3 ∧ S 1070 3 ≤ S0 1070 2) → (zt_R 32 32 (S0 1071) (S0 1070 2) (S 1070 3) = zt_R 32 32 (S0 1071) (S0 1070 2) (S0 1070 3)) → (51539607552 + (S0 1070 2 - S 1070 3).toNat) < R → zz_E g l zy_nextToken_11_7 zr_nextToken_11_7 (zz_QV n (zp_nextToken_11_7  S0)) S n 0 [some (.ref 1070)] [] 0 0) (k112 : ∀  (S : zz_S), zz_G S → zz_fr [(1070, 3), (1070, 4), (1070, 5), (1070, 6)] [] (fun _ _ => False) S0 S → (S0 1070 3 < S0 1070 2) → (S0 1070 3 ≤ S 1070 5 ∧ S 1070 5 ≤ S 1070 3 ∧ S 1070 3 ≤ S0 1070 2) → (S 1070 5 = zt_R 32 32 (S0 1071) (S0 1070 2) (S0 1070 3)) → (S 1070 5 < S0 1070 2 ∧ 97 ≤ S0 1071 (S 1070 5).toNat ∧ S0 1071 (S 1070 5).toNat ≤ 122) → (zt_R 97 122 (S0 1071) (S0 1070 2) (S 1070 3) = zt_R 97 122 (S0 1071) (S0 1070 2) (S 1070 5)) → (34359738368 + (S0 1070 2 - S 1070 3).toNat) < R → zz_E g l zy_nextToken_11_7 zr_nextToken_11_7 (zz_QV n (zp_nextToken_11_7  S0)) S n 112 [some (.ref 1070)] [] 0 0) (k172 : ∀  (S : zz_S), zz_G S → zz_fr [(1070, 3), (1070, 4), (1070, 5), (1070, 6)] [] (fun _ _ => False) S0 S → (S0 1070 3 < S0 1070 2) → (S0 1070 3 ≤ S 1070 5 ∧ S 1070 5 ≤ S 1070 3 ∧ S 1070 3 ≤ S0 1070 2) → (S 1070 5 = zt_R 32 32 (S0 1071) (S0 1070 2) (S0 1070 3)) → (S 1070 5 < S0 1070 2 ∧ S0 1071 (S 1070 5).toNat ≠ 35 ∧ ¬ (97 ≤ S0 1071 (S 1070 5).toNat ∧ S0 1071 (S 1070 5).toNat ≤ 122)) → (zt_R 48 57 (S0 1071) (S0 1070 2) (S 1070 3) = zt_R 48 57 (S0 1071) (S0 1070 2) (S 1070 5)) → (zt_nb (S 1070 3 - S 1070 5) (S 1070 6)) → (S 1070 5 < S 1070 3 → 48 ≤ S0 1071 (S 1070 5).toNat ∧ S0 1071 (S 1070 5).toNat ≤ 57) → (S 1070 3 - S 1070 5 ≤ 4 → S 1070 6 = zt_nv (S0 1071) (S 1070 5) (S 1070 3 - S 1070 5).toNat) → (17179869184 + (S0 1070 2 - S 1070 3).toNat) < R → zz_E g l zy_nextToken_11_7 zr_nextToken_11_7 (zz_QV n (zp_nextToken_11_7  S0)) S n 172 [some (.ref 1070)] [] 0 0) : zz_E g l zy_nextToken_11_7 zr_nextToken_11_7 (zz_QV n (zp_nextToken_11_7  S0)) S n 0 [some (.ref 1070)] [] 0 0 := by
  refine zz_aload_n (x := 1070) rfl zd_11_7_0 ?_
  have g167 := zz_G.r G_S 1070 3 0 1500 rfl rfl
  refine zz_geti (z := S 1070 3) zd_11_7_1 zf_Text_25 zT_1070 rfl (zz_ltn hn rfl) rfl ?_
  refine zz_aload_n (x := 1070) rfl zd_11_7_4 ?_
  have g168 := zz_G.r G_S0 1070 2 (-1) 1500 rfl rfl
  refine zz_geti (z := S0 1070 2) zd_11_7_5 zf_Text_22 zT_1070 rfl (zz_ltn hn rfl) (zz_rc F_S rfl rfl (fun h => h) rfl) ?_
  refine zz_icmp_ge (by omega) (by omega) zd_11_7_8 (fun c169 => ?_) (fun c169 => ?_)
  · refine zz_aload_n (x := 1070) rfl zd_11_7_38 ?_
    refine zz_aload_n (x := 1070) rfl zd_11_7_39 ?_
    refine zz_geti (z := S 1070 3) zd_11_7_40 zf_Text_25 zT_1070 rfl (zz_ltn hn rfl) rfl ?_
    refine zz_puti zd_11_7_43 zf_Text_31 zT_1070 rfl (zz_ltn hn rfl) (fun S170 qS170 => ?_)
    have G_S170 := zz_G.put G_S qS170 0 1500 rfl (by omega)
    have F_S170 := zz_fr.puts F_S qS170 rfl
    refine zz_aload_n (x := 1070) rfl zd_11_7_46 ?_
    refine zz_iconst zd_11_7_47 ?_
    refine zz_puti zd_11_7_48 zf_Text_34 zT_1070 rfl (zz_ltn hn rfl) (fun S171 qS171 => ?_)
    have G_S171 := zz_G.put G_S170 qS171 (-2147483648) 2147483647 rfl (by omega)
    have F_S171 := zz_fr.puts F_S170 qS171 rfl
    refine zz_aload_n (x := 1070) rfl zd_11_7_51 ?_
    refine zz_geti (z := S 1070 3) zd_11_7_52 zf_Text_25 zT_1070 rfl (zz_ltn hn rfl) (zz_ro qS171 (fun h => absurd h.2 (by decide)) (zz_ro qS170 (fun h => absurd h.2 (by decide)) rfl)) ?_
    refine zz_aload_n (x := 1070) rfl zd_11_7_55 ?_
    refine zz_geti (z := S0 1070 2) zd_11_7_56 zf_Text_22 zT_1070 rfl (zz_ltn hn rfl) (zz_ro qS171 (fun h => absurd h.2 (by decide)) (zz_ro qS170 (fun h => absurd h.2 (by decide)) (zz_rc F_S rfl rfl (fun h => h) rfl))) ?_
    refine zz_icmp_ge (by omega) (by omega) zd_11_7_59 (fun c172 => ?_) (fun c172 => ?_)
    · skip
      refine zz_aload_n (x := 1070) rfl zd_11_7_76 ?_
      refine zz_iconst zd_11_7_77 ?_
      refine zz_puti zd_11_7_78 zf_Text_28 zT_1070 rfl (zz_ltn hn rfl) (fun S173 qS173 => ?_)
      have G_S173 := zz_G.put G_S171 qS173 (-2147483648) 2147483647 rfl (by omega)
      have F_S173 := zz_fr.puts F_S171 qS173 rfl
      refine zz_goto zd_11_7_81 ?_
      have e174 : S173 1070 3 = S 1070 3 := (zz_ro qS173 (fun h => absurd h.2 (by decide)) (zz_ro qS171 (fun h => absurd h.2 (by decide)) (zz_ro qS170 (fun h => absurd h.2 (by decide)) rfl)))
      have e175 : S173 1070 4 = 0 := (zz_rs qS173)
      have e176 : S173 1070 5 = S 1070 3 := (zz_ro qS173 (fun h => absurd h.2 (by decide)) (zz_ro qS171 (fun h => absurd h.2 (by decide)) (zz_rs qS170)))
      have e177 : S173 1070 6 = 0 := (zz_ro qS173 (fun h => absurd h.2 (by decide)) (zz_rs qS171))
      have hq9 : S 1070 3 = zt_R 32 32 (S0 1071) (S0 1070 2) (S0 1070 3) := (zt_R0 (by omega)).symm.trans i0_3
      have ht9 := zt_tk0 (f := (S0 1071)) (e := S0 1070 2) (p := S0 1070 3) hq9 (by omega)
      exact zz_vret zd_11_7_281 rfl (Nat.zero_le _) (Nat.zero_le _) ⟨_, rfl, G_S173, F_S173, (by have hc9 := zt_cox (s := S173 1070 4) (w := zt_wl (S0 1071) (S173 1070 5) (S173 1070 3) 20); rw [hc9.1 (by omega)]; exact ht9.1.symm), by omega, by omega, by omega, by omega, by omega, by omega, by omega, ⟨(by rw [zt_kn0 ht9.1]; exact zt_k4x.1 (by omega)), by omega, by omega, by omega, by omega, fun h => by omega, fun h => absurd h (by omega)⟩⟩
    · refine zz_aload_n (x := 1070) rfl zd_11_7_62 ?_
      refine zz_getr (kd := 0) (z := 1071) zd_11_7_63 zf_Text_9 zT_1070 rfl (zz_ltn hn rfl) (zz_G.eq G_S171 1070 0 1071 rfl rfl) (by decide) 1071 rfl ?_
      refine zz_aload_n (x := 1070) rfl zd_11_7_66 ?_
      refine zz_geti (z := S 1070 3) zd_11_7_67 zf_Text_25 zT_1070 rfl (zz_ltn hn rfl) (zz_ro qS171 (fun h => absurd h.2 (by decide)) (zz_ro qS170 (fun h => absurd h.2 (by decide)) rfl)) ?_
      have g178 := zz_G.r G_S0 1071 ((S 1070 3).toNat) 0 65535 rfl rfl
      refine zz_cald (z := S0 1071 ((S 1070 3).toNat)) zd_11_7_70 zT_1071 rfl (zz_ltn hn rfl) (by decide) (by omega) (zz_ro qS171 (fun h => absurd h.1 (by decide)) (zz_ro qS170 (fun h => absurd h.1 (by decide)) (zz_rc F_S (zz_nc1 rfl) rfl (fun h => h) rfl))) ?_
      refine zz_bipush (by decide) zd_11_7_71 ?_
      refine zz_icmp_ne (by omega) (by omega) zd_11_7_73 (fun c179 => ?_) (fun c179 => ?_)
      · refine zz_aload_n (x := 1070) rfl zd_11_7_84 ?_
        refine zz_getr (kd := 0) (z := 1071) zd_11_7_85 zf_Text_9 zT_1070 rfl (zz_ltn hn rfl) (zz_G.eq G_S171 1070 0 1071 rfl rfl) (by decide) 1071 rfl ?_
        refine zz_aload_n (x := 1070) rfl zd_11_7_88 ?_
        refine zz_geti (z := S 1070 3) zd_11_7_89 zf_Text_25 zT_1070 rfl (zz_ltn hn rfl) (zz_ro qS171 (fun h => absurd h.2 (by decide)) (zz_ro qS170 (fun h => absurd h.2 (by decide)) rfl)) ?_
        refine zz_cald (z := S0 1071 ((S 1070 3).toNat)) zd_11_7_92 zT_1071 rfl (zz_ltn hn rfl) (by decide) (by omega) (zz_ro qS171 (fun h => absurd h.1 (by decide)) (zz_ro qS170 (fun h => absurd h.1 (by decide)) (zz_rc F_S (zz_nc1 rfl) rfl (fun h => h) rfl))) ?_
        refine zz_bipush (by decide) zd_11_7_93 ?_
        refine zz_icmp_lt (by omega) (by omega) zd_11_7_95 (fun c180 => ?_) (fun c180 => ?_)
        · have e181 : S171 1070 3 = S 1070 3 := (zz_ro qS171 (fun h => absurd h.2 (by decide)) (zz_ro qS170 (fun h => absurd h.2 (by decide)) rfl))
          have e182 : S171 1070 5 = S 1070 3 := (zz_ro qS171 (fun h => absurd h.2 (by decide)) (zz_rs qS170))
          have e183 : S171 1070 6 = 0 := (zz_rs qS171)
          exact k172 S171 G_S171 F_S171 (by omega) ⟨by omega, by omega, by omega⟩ (by rw [show S171 1070 5 = S 1070 3 by omega]; exact (zt_R0 (by omega)).symm.trans i0_3) (by rw [show S171 1070 5 = S 1070 3 by omega]; omega) (by rw [show S171 1070 3 = S171 1070 5 by omega]) (zt_nb0 (by omega) (by omega)) (fun h9 => by omega) (fun _ => by rw [show S171 1070 3 = S171 1070 5 by omega, Int.sub_self]; exact (show S171 1070 6 = 0 by omega)) (by omega)
        · refine zz_aload_n (x := 1070) rfl zd_11_7_98 ?_
          refine zz_getr (kd := 0) (z := 1071) zd_11_7_99 zf_Text_9 zT_1070 rfl (zz_ltn hn rfl) (zz_G.eq G_S171 1070 0 1071 rfl rfl) (by decide) 1071 rfl ?_
          refine zz_aload_n (x := 1070) rfl zd_11_7_102 ?_
          refine zz_geti (z := S 1070 3) zd_11_7_103 zf_Text_25 zT_1070 rfl (zz_ltn hn rfl) (zz_ro qS171 (fun h => absurd h.2 (by decide)) (zz_ro qS170 (fun h => absurd h.2 (by decide)) rfl)) ?_
          refine zz_cald (z := S0 1071 ((S 1070 3).toNat)) zd_11_7_106 zT_1071 rfl (zz_ltn hn rfl) (by decide) (by omega) (zz_ro qS171 (fun h => absurd h.1 (by decide)) (zz_ro qS170 (fun h => absurd h.1 (by decide)) (zz_rc F_S (zz_nc1 rfl) rfl (fun h => h) rfl))) ?_
          refine zz_bipush (by decide) zd_11_7_107 ?_
          refine zz_icmp_gt (by omega) (by omega) zd_11_7_109 (fun c184 => ?_) (fun c184 => ?_)
          · have e185 : S171 1070 3 = S 1070 3 := (zz_ro qS171 (fun h => absurd h.2 (by decide)) (zz_ro qS170 (fun h => absurd h.2 (by decide)) rfl))
            have e186 : S171 1070 5 = S 1070 3 := (zz_ro qS171 (fun h => absurd h.2 (by decide)) (zz_rs qS170))
            have e187 : S171 1070 6 = 0 := (zz_rs qS171)
            exact k172 S171 G_S171 F_S171 (by omega) ⟨by omega, by omega, by omega⟩ (by rw [show S171 1070 5 = S 1070 3 by omega]; exact (zt_R0 (by omega)).symm.trans i0_3) (by rw [show S171 1070 5 = S 1070 3 by omega]; omega) (by rw [show S171 1070 3 = S171 1070 5 by omega]) (zt_nb0 (by omega) (by omega)) (fun h9 => by omega) (fun _ => by rw [show S171 1070 3 = S171 1070 5 by omega, Int.sub_self]; exact (show S171 1070 6 = 0 by omega)) (by omega)
          · have e188 : S171 1070 3 = S 1070 3 := (zz_ro qS171 (fun h => absurd h.2 (by decide)) (zz_ro qS170 (fun h => absurd h.2 (by decide)) rfl))
            have e189 : S171 1070 5 = S 1070 3 := (zz_ro qS171 (fun h => absurd h.2 (by decide)) (zz_rs qS170))
            exact k112 S171 G_S171 F_S171 (by omega) ⟨by omega, by omega, by omega⟩ (by rw [show S171 1070 5 = S 1070 3 by omega]; exact (zt_R0 (by omega)).symm.trans i0_3) (by rw [show S171 1070 5 = S 1070 3 by omega]; omega) (by rw [show S171 1070 3 = S171 1070 5 by omega]) (by omega)
      · skip
        refine zz_aload_n (x := 1070) rfl zd_11_7_76 ?_
        refine zz_iconst zd_11_7_77 ?_
        refine zz_puti zd_11_7_78 zf_Text_28 zT_1070 rfl (zz_ltn hn rfl) (fun S190 qS190 => ?_)
        have G_S190 := zz_G.put G_S171 qS190 (-2147483648) 2147483647 rfl (by omega)
        have F_S190 := zz_fr.puts F_S171 qS190 rfl
        refine zz_goto zd_11_7_81 ?_
        have e191 : S190 1070 3 = S 1070 3 := (zz_ro qS190 (fun h => absurd h.2 (by decide)) (zz_ro qS171 (fun h => absurd h.2 (by decide)) (zz_ro qS170 (fun h => absurd h.2 (by decide)) rfl)))
        have e192 : S190 1070 4 = 0 := (zz_rs qS190)
        have e193 : S190 1070 5 = S 1070 3 := (zz_ro qS190 (fun h => absurd h.2 (by decide)) (zz_ro qS171 (fun h => absurd h.2 (by decide)) (zz_rs qS170)))
        have e194 : S190 1070 6 = 0 := (zz_ro qS190 (fun h => absurd h.2 (by decide)) (zz_rs qS171))
        have hq9 : S 1070 3 = zt_R 32 32 (S0 1071) (S0 1070 2) (S0 1070 3) := (zt_R0 (by omega)).symm.trans i0_3
        have ht9 := zt_tk0 (f := (S0 1071)) (e := S0 1070 2) (p := S0 1070 3) hq9 (by omega)
        exact zz_vret zd_11_7_281 rfl (Nat.zero_le _) (Nat.zero_le _) ⟨_, rfl, G_S190, F_S190, (by have hc9 := zt_cox (s := S190 1070 4) (w := zt_wl (S0 1071) (S190 1070 5) (S190 1070 3) 20); rw [hc9.1 (by omega)]; exact ht9.1.symm), by omega, by omega, by omega, by omega, by omega, by omega, by omega, ⟨(by rw [zt_kn0 ht9.1]; exact zt_k4x.1 (by omega)), by omega, by omega, by omega, by omega, fun h => by omega, fun h => absurd h (by omega)⟩⟩
  · refine zz_aload_n (x := 1070) rfl zd_11_7_11 ?_
    refine zz_getr (kd := 0) (z := 1071) zd_11_7_12 zf_Text_9 zT_1070 rfl (zz_ltn hn rfl) (zz_G.eq G_S 1070 0 1071 rfl rfl) (by decide) 1071 rfl ?_
    refine zz_aload_n (x := 1070) rfl zd_11_7_15 ?_
    refine zz_geti (z := S 1070 3) zd_11_7_16 zf_Text_25 zT_1070 rfl (zz_ltn hn rfl) rfl ?_
    have g195 := zz_G.r G_S0 1071 ((S 1070 3).toNat) 0 65535 rfl rfl
    refine zz_cald (z := S0 1071 ((S 1070 3).toNat)) zd_11_7_19 zT_1071 rfl (zz_ltn hn rfl) (by decide) (by omega) (zz_rc F_S (zz_nc1 rfl) rfl (fun h => h) rfl) ?_
    refine zz_bipush (by decide) zd_11_7_20 ?_
    refine zz_icmp_ne (by omega) (by omega) zd_11_7_22 (fun c196 => ?_) (fun c196 => ?_)
    · refine zz_aload_n (x := 1070) rfl zd_11_7_38 ?_
      refine zz_aload_n (x := 1070) rfl zd_11_7_39 ?_
      refine zz_geti (z := S 1070 3) zd_11_7_40 zf_Text_25 zT_1070 rfl (zz_ltn hn rfl) rfl ?_
      refine zz_puti zd_11_7_43 zf_Text_31 zT_1070 rfl (zz_ltn hn rfl) (fun S197 qS197 => ?_)
      have G_S197 := zz_G.put G_S qS197 0 1500 rfl (by omega)
      have F_S197 := zz_fr.puts F_S qS197 rfl
      refine zz_aload_n (x := 1070) rfl zd_11_7_46 ?_
      refine zz_iconst zd_11_7_47 ?_
      refine zz_puti zd_11_7_48 zf_Text_34 zT_1070 rfl (zz_ltn hn rfl) (fun S198 qS198 => ?_)
      have G_S198 := zz_G.put G_S197 qS198 (-2147483648) 2147483647 rfl (by omega)
      have F_S198 := zz_fr.puts F_S197 qS198 rfl
      refine zz_aload_n (x := 1070) rfl zd_11_7_51 ?_
      refine zz_geti (z := S 1070 3) zd_11_7_52 zf_Text_25 zT_1070 rfl (zz_ltn hn rfl) (zz_ro qS198 (fun h => absurd h.2 (by decide)) (zz_ro qS197 (fun h => absurd h.2 (by decide)) rfl)) ?_
      refine zz_aload_n (x := 1070) rfl zd_11_7_55 ?_
      refine zz_geti (z := S0 1070 2) zd_11_7_56 zf_Text_22 zT_1070 rfl (zz_ltn hn rfl) (zz_ro qS198 (fun h => absurd h.2 (by decide)) (zz_ro qS197 (fun h => absurd h.2 (by decide)) (zz_rc F_S rfl rfl (fun h => h) rfl))) ?_
      refine zz_icmp_ge (by omega) (by omega) zd_11_7_59 (fun c199 => ?_) (fun c199 => ?_)
      · skip
        refine zz_aload_n (x := 1070) rfl zd_11_7_76 ?_
        refine zz_iconst zd_11_7_77 ?_
        refine zz_puti zd_11_7_78 zf_Text_28 zT_1070 rfl (zz_ltn hn rfl) (fun S200 qS200 => ?_)
        have G_S200 := zz_G.put G_S198 qS200 (-2147483648) 2147483647 rfl (by omega)
        have F_S200 := zz_fr.puts F_S198 qS200 rfl
        refine zz_goto zd_11_7_81 ?_
        have e201 : S200 1070 3 = S 1070 3 := (zz_ro qS200 (fun h => absurd h.2 (by decide)) (zz_ro qS198 (fun h => absurd h.2 (by decide)) (zz_ro qS197 (fun h => absurd h.2 (by decide)) rfl)))
        have e202 : S200 1070 4 = 0 := (zz_rs qS200)
        have e203 : S200 1070 5 = S 1070 3 := (zz_ro qS200 (fun h => absurd h.2 (by decide)) (zz_ro qS198 (fun h => absurd h.2 (by decide)) (zz_rs qS197)))
        have e204 : S200 1070 6 = 0 := (zz_ro qS200 (fun h => absurd h.2 (by decide)) (zz_rs qS198))
        have hq9 : S 1070 3 = zt_R 32 32 (S0 1071) (S0 1070 2) (S0 1070 3) := (zt_R0 (by omega)).symm.trans i0_3
        have ht9 := zt_tk0 (f := (S0 1071)) (e := S0 1070 2) (p := S0 1070 3) hq9 (by omega)
        exact zz_vret zd_11_7_281 rfl (Nat.zero_le _) (Nat.zero_le _) ⟨_, rfl, G_S200, F_S200, (by have hc9 := zt_cox (s := S200 1070 4) (w := zt_wl (S0 1071) (S200 1070 5) (S200 1070 3) 20); rw [hc9.1 (by omega)]; exact ht9.1.symm), by omega, by omega, by omega, by omega, by omega, by omega, by omega, ⟨(by rw [zt_kn0 ht9.1]; exact zt_k4x.1 (by omega)), by omega, by omega, by omega, by omega, fun h => by omega, fun h => absurd h (by omega)⟩⟩
      · refine zz_aload_n (x := 1070) rfl zd_11_7_62 ?_
        refine zz_getr (kd := 0) (z := 1071) zd_11_7_63 zf_Text_9 zT_1070 rfl (zz_ltn hn rfl) (zz_G.eq G_S198 1070 0 1071 rfl rfl) (by decide) 1071 rfl ?_
        refine zz_aload_n (x := 1070) rfl zd_11_7_66 ?_
        refine zz_geti (z := S 1070 3) zd_11_7_67 zf_Text_25 zT_1070 rfl (zz_ltn hn rfl) (zz_ro qS198 (fun h => absurd h.2 (by decide)) (zz_ro qS197 (fun h => absurd h.2 (by decide)) rfl)) ?_
        refine zz_cald (z := S0 1071 ((S 1070 3).toNat)) zd_11_7_70 zT_1071 rfl (zz_ltn hn rfl) (by decide) (by omega) (zz_ro qS198 (fun h => absurd h.1 (by decide)) (zz_ro qS197 (fun h => absurd h.1 (by decide)) (zz_rc F_S (zz_nc1 rfl) rfl (fun h => h) rfl))) ?_
        refine zz_bipush (by decide) zd_11_7_71 ?_
        refine zz_icmp_ne (by omega) (by omega) zd_11_7_73 (fun c205 => ?_) (fun c205 => ?_)
        · refine zz_aload_n (x := 1070) rfl zd_11_7_84 ?_
          refine zz_getr (kd := 0) (z := 1071) zd_11_7_85 zf_Text_9 zT_1070 rfl (zz_ltn hn rfl) (zz_G.eq G_S198 1070 0 1071 rfl rfl) (by decide) 1071 rfl ?_
          refine zz_aload_n (x := 1070) rfl zd_11_7_88 ?_
          refine zz_geti (z := S 1070 3) zd_11_7_89 zf_Text_25 zT_1070 rfl (zz_ltn hn rfl) (zz_ro qS198 (fun h => absurd h.2 (by decide)) (zz_ro qS197 (fun h => absurd h.2 (by decide)) rfl)) ?_
          refine zz_cald (z := S0 1071 ((S 1070 3).toNat)) zd_11_7_92 zT_1071 rfl (zz_ltn hn rfl) (by decide) (by omega) (zz_ro qS198 (fun h => absurd h.1 (by decide)) (zz_ro qS197 (fun h => absurd h.1 (by decide)) (zz_rc F_S (zz_nc1 rfl) rfl (fun h => h) rfl))) ?_
          refine zz_bipush (by decide) zd_11_7_93 ?_
          refine zz_icmp_lt (by omega) (by omega) zd_11_7_95 (fun c206 => ?_) (fun c206 => ?_)
          · have e207 : S198 1070 3 = S 1070 3 := (zz_ro qS198 (fun h => absurd h.2 (by decide)) (zz_ro qS197 (fun h => absurd h.2 (by decide)) rfl))
            have e208 : S198 1070 5 = S 1070 3 := (zz_ro qS198 (fun h => absurd h.2 (by decide)) (zz_rs qS197))
            have e209 : S198 1070 6 = 0 := (zz_rs qS198)
            exact k172 S198 G_S198 F_S198 (by omega) ⟨by omega, by omega, by omega⟩ (by rw [show S198 1070 5 = S 1070 3 by omega]; exact (zt_R0 (by omega)).symm.trans i0_3) (by rw [show S198 1070 5 = S 1070 3 by omega]; omega) (by rw [show S198 1070 3 = S198 1070 5 by omega]) (zt_nb0 (by omega) (by omega)) (fun h9 => by omega) (fun _ => by rw [show S198 1070 3 = S198 1070 5 by omega, Int.sub_self]; exact (show S198 1070 6 = 0 by omega)) (by omega)
          · refine zz_aload_n (x := 1070) rfl zd_11_7_98 ?_
            refine zz_getr (kd := 0) (z := 1071) zd_11_7_99 zf_Text_9 zT_1070 rfl (zz_ltn hn rfl) (zz_G.eq G_S198 1070 0 1071 rfl rfl) (by decide) 1071 rfl ?_
            refine zz_aload_n (x := 1070) rfl zd_11_7_102 ?_
            refine zz_geti (z := S 1070 3) zd_11_7_103 zf_Text_25 zT_1070 rfl (zz_ltn hn rfl) (zz_ro qS198 (fun h => absurd h.2 (by decide)) (zz_ro qS197 (fun h => absurd h.2 (by decide)) rfl)) ?_
            refine zz_cald (z := S0 1071 ((S 1070 3).toNat)) zd_11_7_106 zT_1071 rfl (zz_ltn hn rfl) (by decide) (by omega) (zz_ro qS198 (fun h => absurd h.1 (by decide)) (zz_ro qS197 (fun h => absurd h.1 (by decide)) (zz_rc F_S (zz_nc1 rfl) rfl (fun h => h) rfl))) ?_
            refine zz_bipush (by decide) zd_11_7_107 ?_
            refine zz_icmp_gt (by omega) (by omega) zd_11_7_109 (fun c210 => ?_) (fun c210 => ?_)
            · have e211 : S198 1070 3 = S 1070 3 := (zz_ro qS198 (fun h => absurd h.2 (by decide)) (zz_ro qS197 (fun h => absurd h.2 (by decide)) rfl))
              have e212 : S198 1070 5 = S 1070 3 := (zz_ro qS198 (fun h => absurd h.2 (by decide)) (zz_rs qS197))
              have e213 : S198 1070 6 = 0 := (zz_rs qS198)
              exact k172 S198 G_S198 F_S198 (by omega) ⟨by omega, by omega, by omega⟩ (by rw [show S198 1070 5 = S 1070 3 by omega]; exact (zt_R0 (by omega)).symm.trans i0_3) (by rw [show S198 1070 5 = S 1070 3 by omega]; omega) (by rw [show S198 1070 3 = S198 1070 5 by omega]) (zt_nb0 (by omega) (by omega)) (fun h9 => by omega) (fun _ => by rw [show S198 1070 3 = S198 1070 5 by omega, Int.sub_self]; exact (show S198 1070 6 = 0 by omega)) (by omega)
            · have e214 : S198 1070 3 = S 1070 3 := (zz_ro qS198 (fun h => absurd h.2 (by decide)) (zz_ro qS197 (fun h => absurd h.2 (by decide)) rfl))
              have e215 : S198 1070 5 = S 1070 3 := (zz_ro qS198 (fun h => absurd h.2 (by decide)) (zz_rs qS197))
              exact k112 S198 G_S198 F_S198 (by omega) ⟨by omega, by omega, by omega⟩ (by rw [show S198 1070 5 = S 1070 3 by omega]; exact (zt_R0 (by omega)).symm.trans i0_3) (by rw [show S198 1070 5 = S 1070 3 by omega]; omega) (by rw [show S198 1070 3 = S198 1070 5 by omega]) (by omega)
        · skip
          refine zz_aload_n (x := 1070) rfl zd_11_7_76 ?_
          refine zz_iconst zd_11_7_77 ?_
          refine zz_puti zd_11_7_78 zf_Text_28 zT_1070 rfl (zz_ltn hn rfl) (fun S216 qS216 => ?_)
          have G_S216 := zz_G.put G_S198 qS216 (-2147483648) 2147483647 rfl (by omega)
          have F_S216 := zz_fr.puts F_S198 qS216 rfl
          refine zz_goto zd_11_7_81 ?_
          have e217 : S216 1070 3 = S 1070 3 := (zz_ro qS216 (fun h => absurd h.2 (by decide)) (zz_ro qS198 (fun h => absurd h.2 (by decide)) (zz_ro qS197 (fun h => absurd h.2 (by decide)) rfl)))
          have e218 : S216 1070 4 = 0 := (zz_rs qS216)
          have e219 : S216 1070 5 = S 1070 3 := (zz_ro qS216 (fun h => absurd h.2 (by decide)) (zz_ro qS198 (fun h => absurd h.2 (by decide)) (zz_rs qS197)))
          have e220 : S216 1070 6 = 0 := (zz_ro qS216 (fun h => absurd h.2 (by decide)) (zz_rs qS198))
          have hq9 : S 1070 3 = zt_R 32 32 (S0 1071) (S0 1070 2) (S0 1070 3) := (zt_R0 (by omega)).symm.trans i0_3
          have ht9 := zt_tk0 (f := (S0 1071)) (e := S0 1070 2) (p := S0 1070 3) hq9 (by omega)
          exact zz_vret zd_11_7_281 rfl (Nat.zero_le _) (Nat.zero_le _) ⟨_, rfl, G_S216, F_S216, (by have hc9 := zt_cox (s := S216 1070 4) (w := zt_wl (S0 1071) (S216 1070 5) (S216 1070 3) 20); rw [hc9.1 (by omega)]; exact ht9.1.symm), by omega, by omega, by omega, by omega, by omega, by omega, by omega, ⟨(by rw [zt_kn0 ht9.1]; exact zt_k4x.1 (by omega)), by omega, by omega, by omega, by omega, fun h => by omega, fun h => absurd h (by omega)⟩⟩
    · refine zz_aload_n (x := 1070) rfl zd_11_7_25 ?_
      refine zz_dup rfl zd_11_7_26 ?_
      refine zz_geti (z := S 1070 3) zd_11_7_27 zf_Text_25 zT_1070 rfl (zz_ltn hn rfl) rfl ?_
      refine zz_iconst zd_11_7_30 ?_
      refine zz_iadd zd_11_7_31 ?_
      refine zz_puti zd_11_7_32 zf_Text_25 zT_1070 rfl (zz_ltn hn rfl) (fun S221 qS221 => ?_)
      have G_S221 := zz_G.put G_S qS221 0 1500 rfl (by omega)
      have F_S221 := zz_fr.puts F_S qS221 rfl
      refine zz_goto zd_11_7_35 ?_
      have e222 : S221 1070 3 = (S 1070 3) + 1 := (zz_rs qS221)
      exact k0 S221 G_S221 F_S221 (by omega) (by omega) (by omega) (by rw [show S221 1070 3 = S 1070 3 + 1 by omega, zt_RS (by omega) (by omega)]; exact i0_3) (by omega)
theorem zb_nextToken_11_7_112 {g : mm_G} {l : Launch}  (S0 : zz_S) (n : Nat) (hn : zz_end ≤ n) (G_S0 : zz_G S0)   (S : zz_S) (G_S : zz_G S) (F_S : zz_fr [(1070, 3), (1070, 4), (1070, 5), (1070, 6)] [] (fun _ _ => False) S0 S) (i112_0 : S0 1070 3 < S0 1070 2) (i112_1 : S0 1070 3 ≤ S 1070 5 ∧ S 1070 5 ≤ S 1070 3 ∧ S 1070 3 ≤ S0 1070 2) (i112_2 : S 1070 5 = zt_R 32 32 (S0 1071) (S0 1070 2) (S0 1070 3)) (i112_3 : S 1070 5 < S0 1070 2 ∧ 97 ≤ S0 1071 (S 1070 5).toNat ∧ S0 1071 (S 1070 5).toNat ≤ 122) (i112_4 : zt_R 97 122 (S0 1071) (S0 1070 2) (S 1070 3) = zt_R 97 122 (S0 1071) (S0 1070 2) (S 1070 5)) (R : Nat) (hR : (34359738368 + (S0 1070 2 - S 1070 3).toNat) = R) (k112 : ∀  (S : zz_S), zz_G S → zz_fr [(1070, 3), (1070, 4), (1070, 5), (1070, 6)] [] (fun _ _ => False) S0 S → (S0 1070 3 < S0 1070 2) → (S0 1070 3 ≤ S 1070 5 ∧ S 1070 5 ≤ S 1070 3 ∧ S 1070 3 ≤ S0 1070 2) → (S 1070 5 = zt_R 32 32 (S0 1071) (S0 1070 2) (S0 1070 3)) → (S 1070 5 < S0 1070 2 ∧ 97 ≤ S0 1071 (S 1070 5).toNat ∧ S0 1071 (S 1070 5).toNat ≤ 122) → (zt_R 97 122 (S0 1071) (S0 1070 2) (S 1070 3) = zt_R 97 122 (S0 1071) (S0 1070 2) (S 1070 5)) → (34359738368 + (S0 1070 2 - S 1070 3).toNat) < R → zz_E g l zy_nextToken_11_7 zr_nextToken_11_7 (zz_QV n (zp_nextToken_11_7  S0)) S n 112 [some (.ref 1070)] [] 0 0) : zz_E g l zy_nextToken_11_7 zr_nextToken_11_7 (zz_QV n (zp_nextToken_11_7  S0)) S n 112 [some (.ref 1070)] [] 0 0 := by
  refine zz_aload_n (x := 1070) rfl zd_11_7_112 ?_
  have g136 := zz_G.r G_S 1070 3 0 1500 rfl rfl
  refine zz_geti (z := S 1070 3) zd_11_7_113 zf_Text_25 zT_1070 rfl (zz_ltn hn rfl) rfl ?_
  refine zz_aload_n (x := 1070) rfl zd_11_7_116 ?_
  have g137 := zz_G.r G_S0 1070 2 (-1) 1500 rfl rfl
  refine zz_geti (z := S0 1070 2) zd_11_7_117 zf_Text_22 zT_1070 rfl (zz_ltn hn rfl) (zz_rc F_S rfl rfl (fun h => h) rfl) ?_
  refine zz_icmp_ge (by omega) (by omega) zd_11_7_120 (fun c138 => ?_) (fun c138 => ?_)
  · skip
    refine zz_aload_n (x := 1070) rfl zd_11_7_164 ?_
    refine zz_iconst zd_11_7_165 ?_
    refine zz_puti zd_11_7_166 zf_Text_28 zT_1070 rfl (zz_ltn hn rfl) (fun S139 qS139 => ?_)
    have G_S139 := zz_G.put G_S qS139 (-2147483648) 2147483647 rfl (by omega)
    have F_S139 := zz_fr.puts F_S qS139 rfl
    refine zz_goto zd_11_7_169 ?_
    have e140 : S139 1070 3 = S 1070 3 := (zz_ro qS139 (fun h => absurd h.2 (by decide)) rfl)
    have e141 : S139 1070 4 = 1 := (zz_rs qS139)
    have g142 := zz_G.r G_S 1070 5 0 1500 rfl rfl
    have e143 : S139 1070 5 = S 1070 5 := (zz_ro qS139 (fun h => absurd h.2 (by decide)) rfl)
    have g144 := zz_G.r G_S 1070 6 (-2147483648) 2147483647 rfl rfl
    have e145 : S139 1070 6 = S 1070 6 := (zz_ro qS139 (fun h => absurd h.2 (by decide)) rfl)
    have hr9 := zt_R0 (lo := 97) (hi := 122) (f := (S0 1071)) (e := S0 1070 2) (p := S 1070 3) (by omega)
    have ht9 := zt_tkw (f := (S0 1071)) (e := S0 1070 2) (p := S0 1070 3) (q := S 1070 5) (by omega) (by omega) (by omega)
    rw [show zt_R 97 122 (S0 1071) (S0 1070 2) (S 1070 5) = S 1070 3 by omega] at ht9
    have hp9 : S 1070 5 < S 1070 3 := (Int.lt_or_le (S 1070 5) (S 1070 3)).resolve_right (fun h7 => by have h6 : S0 1071 (S 1070 3).toNat = S0 1071 (S 1070 5).toNat := congrArg (fun u : Int => S0 1071 u.toNat) (show S 1070 3 = S 1070 5 by omega); omega)
    exact zz_vret zd_11_7_281 rfl (Nat.zero_le _) (Nat.zero_le _) ⟨_, rfl, G_S139, F_S139, (by have hc9 := zt_cox (s := S139 1070 4) (w := zt_wl (S0 1071) (S139 1070 5) (S139 1070 3) 20); rw [hc9.2.1 (by omega), show S139 1070 5 = S 1070 5 by omega, show S139 1070 3 = S 1070 3 by omega]; exact ht9.1.symm), by omega, by omega, by omega, by omega, by omega, by omega, by omega, ⟨(by rw [zt_knw (q := S 1070 5) (x := S 1070 3) (by omega) ht9.1 ht9.2 (by omega), show S139 1070 3 = S 1070 3 by omega, show S139 1070 5 = S 1070 5 by omega, show S139 1070 4 = 1 by omega]; exact zt_k41 _), by omega, by omega, by omega, by omega, fun h => by omega, fun _ i h1 h2 => zt_Rl (lo := 97) (hi := 122) (e := S0 1070 2) (p := S 1070 5) (by omega) (by rw [show zt_R 97 122 (S0 1071) (S0 1070 2) (S 1070 5) = S 1070 3 by omega]; omega)⟩⟩
  · refine zz_aload_n (x := 1070) rfl zd_11_7_123 ?_
    refine zz_getr (kd := 0) (z := 1071) zd_11_7_124 zf_Text_9 zT_1070 rfl (zz_ltn hn rfl) (zz_G.eq G_S 1070 0 1071 rfl rfl) (by decide) 1071 rfl ?_
    refine zz_aload_n (x := 1070) rfl zd_11_7_127 ?_
    refine zz_geti (z := S 1070 3) zd_11_7_128 zf_Text_25 zT_1070 rfl (zz_ltn hn rfl) rfl ?_
    have g146 := zz_G.r G_S0 1071 ((S 1070 3).toNat) 0 65535 rfl rfl
    refine zz_cald (z := S0 1071 ((S 1070 3).toNat)) zd_11_7_131 zT_1071 rfl (zz_ltn hn rfl) (by decide) (by omega) (zz_rc F_S (zz_nc1 rfl) rfl (fun h => h) rfl) ?_
    refine zz_bipush (by decide) zd_11_7_132 ?_
    refine zz_icmp_lt (by omega) (by omega) zd_11_7_134 (fun c147 => ?_) (fun c147 => ?_)
    · skip
      refine zz_aload_n (x := 1070) rfl zd_11_7_164 ?_
      refine zz_iconst zd_11_7_165 ?_
      refine zz_puti zd_11_7_166 zf_Text_28 zT_1070 rfl (zz_ltn hn rfl) (fun S148 qS148 => ?_)
      have G_S148 := zz_G.put G_S qS148 (-2147483648) 2147483647 rfl (by omega)
      have F_S148 := zz_fr.puts F_S qS148 rfl
      refine zz_goto zd_11_7_169 ?_
      have e149 : S148 1070 3 = S 1070 3 := (zz_ro qS148 (fun h => absurd h.2 (by decide)) rfl)
      have e150 : S148 1070 4 = 1 := (zz_rs qS148)
      have g151 := zz_G.r G_S 1070 5 0 1500 rfl rfl
      have e152 : S148 1070 5 = S 1070 5 := (zz_ro qS148 (fun h => absurd h.2 (by decide)) rfl)
      have g153 := zz_G.r G_S 1070 6 (-2147483648) 2147483647 rfl rfl
      have e154 : S148 1070 6 = S 1070 6 := (zz_ro qS148 (fun h => absurd h.2 (by decide)) rfl)
      have hr9 := zt_R0 (lo := 97) (hi := 122) (f := (S0 1071)) (e := S0 1070 2) (p := S 1070 3) (by omega)
      have ht9 := zt_tkw (f := (S0 1071)) (e := S0 1070 2) (p := S0 1070 3) (q := S 1070 5) (by omega) (by omega) (by omega)
      rw [show zt_R 97 122 (S0 1071) (S0 1070 2) (S 1070 5) = S 1070 3 by omega] at ht9
      have hp9 : S 1070 5 < S 1070 3 := (Int.lt_or_le (S 1070 5) (S 1070 3)).resolve_right (fun h7 => by have h6 : S0 1071 (S 1070 3).toNat = S0 1071 (S 1070 5).toNat := congrArg (fun u : Int => S0 1071 u.toNat) (show S 1070 3 = S 1070 5 by omega); omega)
      exact zz_vret zd_11_7_281 rfl (Nat.zero_le _) (Nat.zero_le _) ⟨_, rfl, G_S148, F_S148, (by have hc9 := zt_cox (s := S148 1070 4) (w := zt_wl (S0 1071) (S148 1070 5) (S148 1070 3) 20); rw [hc9.2.1 (by omega), show S148 1070 5 = S 1070 5 by omega, show S148 1070 3 = S 1070 3 by omega]; exact ht9.1.symm), by omega, by omega, by omega, by omega, by omega, by omega, by omega, ⟨(by rw [zt_knw (q := S 1070 5) (x := S 1070 3) (by omega) ht9.1 ht9.2 (by omega), show S148 1070 3 = S 1070 3 by omega, show S148 1070 5 = S 1070 5 by omega, show S148 1070 4 = 1 by omega]; exact zt_k41 _), by omega, by omega, by omega, by omega, fun h => by omega, fun _ i h1 h2 => zt_Rl (lo := 97) (hi := 122) (e := S0 1070 2) (p := S 1070 5) (by omega) (by rw [show zt_R 97 122 (S0 1071) (S0 1070 2) (S 1070 5) = S 1070 3 by omega]; omega)⟩⟩
    · refine zz_aload_n (x := 1070) rfl zd_11_7_137 ?_
      refine zz_getr (kd := 0) (z := 1071) zd_11_7_138 zf_Text_9 zT_1070 rfl (zz_ltn hn rfl) (zz_G.eq G_S 1070 0 1071 rfl rfl) (by decide) 1071 rfl ?_
      refine zz_aload_n (x := 1070) rfl zd_11_7_141 ?_
      refine zz_geti (z := S 1070 3) zd_11_7_142 zf_Text_25 zT_1070 rfl (zz_ltn hn rfl) rfl ?_
      refine zz_cald (z := S0 1071 ((S 1070 3).toNat)) zd_11_7_145 zT_1071 rfl (zz_ltn hn rfl) (by decide) (by omega) (zz_rc F_S (zz_nc1 rfl) rfl (fun h => h) rfl) ?_
      refine zz_bipush (by decide) zd_11_7_146 ?_
      refine zz_icmp_gt (by omega) (by omega) zd_11_7_148 (fun c155 => ?_) (fun c155 => ?_)
      · skip
        refine zz_aload_n (x := 1070) rfl zd_11_7_164 ?_
        refine zz_iconst zd_11_7_165 ?_
        refine zz_puti zd_11_7_166 zf_Text_28 zT_1070 rfl (zz_ltn hn rfl) (fun S156 qS156 => ?_)
        have G_S156 := zz_G.put G_S qS156 (-2147483648) 2147483647 rfl (by omega)
        have F_S156 := zz_fr.puts F_S qS156 rfl
        refine zz_goto zd_11_7_169 ?_
        have e157 : S156 1070 3 = S 1070 3 := (zz_ro qS156 (fun h => absurd h.2 (by decide)) rfl)
        have e158 : S156 1070 4 = 1 := (zz_rs qS156)
        have g159 := zz_G.r G_S 1070 5 0 1500 rfl rfl
        have e160 : S156 1070 5 = S 1070 5 := (zz_ro qS156 (fun h => absurd h.2 (by decide)) rfl)
        have g161 := zz_G.r G_S 1070 6 (-2147483648) 2147483647 rfl rfl
        have e162 : S156 1070 6 = S 1070 6 := (zz_ro qS156 (fun h => absurd h.2 (by decide)) rfl)
        have hr9 := zt_R0 (lo := 97) (hi := 122) (f := (S0 1071)) (e := S0 1070 2) (p := S 1070 3) (by omega)
        have ht9 := zt_tkw (f := (S0 1071)) (e := S0 1070 2) (p := S0 1070 3) (q := S 1070 5) (by omega) (by omega) (by omega)
        rw [show zt_R 97 122 (S0 1071) (S0 1070 2) (S 1070 5) = S 1070 3 by omega] at ht9
        have hp9 : S 1070 5 < S 1070 3 := (Int.lt_or_le (S 1070 5) (S 1070 3)).resolve_right (fun h7 => by have h6 : S0 1071 (S 1070 3).toNat = S0 1071 (S 1070 5).toNat := congrArg (fun u : Int => S0 1071 u.toNat) (show S 1070 3 = S 1070 5 by omega); omega)
        exact zz_vret zd_11_7_281 rfl (Nat.zero_le _) (Nat.zero_le _) ⟨_, rfl, G_S156, F_S156, (by have hc9 := zt_cox (s := S156 1070 4) (w := zt_wl (S0 1071) (S156 1070 5) (S156 1070 3) 20); rw [hc9.2.1 (by omega), show S156 1070 5 = S 1070 5 by omega, show S156 1070 3 = S 1070 3 by omega]; exact ht9.1.symm), by omega, by omega, by omega, by omega, by omega, by omega, by omega, ⟨(by rw [zt_knw (q := S 1070 5) (x := S 1070 3) (by omega) ht9.1 ht9.2 (by omega), show S156 1070 3 = S 1070 3 by omega, show S156 1070 5 = S 1070 5 by omega, show S156 1070 4 = 1 by omega]; exact zt_k41 _), by omega, by omega, by omega, by omega, fun h => by omega, fun _ i h1 h2 => zt_Rl (lo := 97) (hi := 122) (e := S0 1070 2) (p := S 1070 5) (by omega) (by rw [show zt_R 97 122 (S0 1071) (S0 1070 2) (S 1070 5) = S 1070 3 by omega]; omega)⟩⟩
      · refine zz_aload_n (x := 1070) rfl zd_11_7_151 ?_
        refine zz_dup rfl zd_11_7_152 ?_
        refine zz_geti (z := S 1070 3) zd_11_7_153 zf_Text_25 zT_1070 rfl (zz_ltn hn rfl) rfl ?_
        refine zz_iconst zd_11_7_156 ?_
        refine zz_iadd zd_11_7_157 ?_
        refine zz_puti zd_11_7_158 zf_Text_25 zT_1070 rfl (zz_ltn hn rfl) (fun S163 qS163 => ?_)
        have G_S163 := zz_G.put G_S qS163 0 1500 rfl (by omega)
        have F_S163 := zz_fr.puts F_S qS163 rfl
        refine zz_goto zd_11_7_161 ?_
        have e164 : S163 1070 3 = (S 1070 3) + 1 := (zz_rs qS163)
        have g165 := zz_G.r G_S 1070 5 0 1500 rfl rfl
        have e166 : S163 1070 5 = S 1070 5 := (zz_ro qS163 (fun h => absurd h.2 (by decide)) rfl)
        exact k112 S163 G_S163 F_S163 (by omega) ⟨by omega, by omega, by omega⟩ (by rw [show S163 1070 5 = S 1070 5 by omega]; exact i112_2) (by rw [show S163 1070 5 = S 1070 5 by omega]; exact i112_3) (by rw [show S163 1070 3 = S 1070 3 + 1 by omega, show S163 1070 5 = S 1070 5 by omega, zt_RS (by omega) (by omega)]; exact i112_4) (by omega)
theorem zb_nextToken_11_7_172 {g : mm_G} {l : Launch}  (S0 : zz_S) (n : Nat) (hn : zz_end ≤ n) (G_S0 : zz_G S0)   (S : zz_S) (G_S : zz_G S) (F_S : zz_fr [(1070, 3), (1070, 4), (1070, 5), (1070, 6)] [] (fun _ _ => False) S0 S) (i172_0 : S0 1070 3 < S0 1070 2) (i172_1 : S0 1070 3 ≤ S 1070 5 ∧ S 1070 5 ≤ S 1070 3 ∧ S 1070 3 ≤ S0 1070 2) (i172_2 : S 1070 5 = zt_R 32 32 (S0 1071) (S0 1070 2) (S0 1070 3)) (i172_3 : S 1070 5 < S0 1070 2 ∧ S0 1071 (S 1070 5).toNat ≠ 35 ∧ ¬ (97 ≤ S0 1071 (S 1070 5).toNat ∧ S0 1071 (S 1070 5).toNat ≤ 122)) (i172_4 : zt_R 48 57 (S0 1071) (S0 1070 2) (S 1070 3) = zt_R 48 57 (S0 1071) (S0 1070 2) (S 1070 5)) (i172_5 : zt_nb (S 1070 3 - S 1070 5) (S 1070 6)) (i172_6 : S 1070 5 < S 1070 3 → 48 ≤ S0 1071 (S 1070 5).toNat ∧ S0 1071 (S 1070 5).toNat ≤ 57) (i172_7 : S 1070 3 - S 1070 5 ≤ 4 → S 1070 6 = zt_nv (S0 1071) (S 1070 5) (S 1070 3 - S 1070 5).toNat) (R : Nat) (hR : (17179869184 + (S0 1070 2 - S 1070 3).toNat) = R) (k172 : ∀  (S : zz_S), zz_G S → zz_fr [(1070, 3), (1070, 4), (1070, 5), (1070, 6)] [] (fun _ _ => False) S0 S → (S0 1070 3 < S0 1070 2) → (S0 1070 3 ≤ S 1070 5 ∧ S 1070 5 ≤ S 1070 3 ∧ S 1070 3 ≤ S0 1070 2) → (S 1070 5 = zt_R 32 32 (S0 1071) (S0 1070 2) (S0 1070 3)) → (S 1070 5 < S0 1070 2 ∧ S0 1071 (S 1070 5).toNat ≠ 35 ∧ ¬ (97 ≤ S0 1071 (S 1070 5).toNat ∧ S0 1071 (S 1070 5).toNat ≤ 122)) → (zt_R 48 57 (S0 1071) (S0 1070 2) (S 1070 3) = zt_R 48 57 (S0 1071) (S0 1070 2) (S 1070 5)) → (zt_nb (S 1070 3 - S 1070 5) (S 1070 6)) → (S 1070 5 < S 1070 3 → 48 ≤ S0 1071 (S 1070 5).toNat ∧ S0 1071 (S 1070 5).toNat ≤ 57) → (S 1070 3 - S 1070 5 ≤ 4 → S 1070 6 = zt_nv (S0 1071) (S 1070 5) (S 1070 3 - S 1070 5).toNat) → (17179869184 + (S0 1070 2 - S 1070 3).toNat) < R → zz_E g l zy_nextToken_11_7 zr_nextToken_11_7 (zz_QV n (zp_nextToken_11_7  S0)) S n 172 [some (.ref 1070)] [] 0 0) : zz_E g l zy_nextToken_11_7 zr_nextToken_11_7 (zz_QV n (zp_nextToken_11_7  S0)) S n 172 [some (.ref 1070)] [] 0 0 := by
  refine zz_aload_n (x := 1070) rfl zd_11_7_172 ?_
  have g57 := zz_G.r G_S 1070 3 0 1500 rfl rfl
  refine zz_geti (z := S 1070 3) zd_11_7_173 zf_Text_25 zT_1070 rfl (zz_ltn hn rfl) rfl ?_
  refine zz_aload_n (x := 1070) rfl zd_11_7_176 ?_
  have g58 := zz_G.r G_S0 1070 2 (-1) 1500 rfl rfl
  refine zz_geti (z := S0 1070 2) zd_11_7_177 zf_Text_22 zT_1070 rfl (zz_ltn hn rfl) (zz_rc F_S rfl rfl (fun h => h) rfl) ?_
  refine zz_icmp_ge (by omega) (by omega) zd_11_7_180 (fun c59 => ?_) (fun c59 => ?_)
  · skip
    refine zz_aload_n (x := 1070) rfl zd_11_7_248 ?_
    refine zz_aload_n (x := 1070) rfl zd_11_7_249 ?_
    refine zz_geti (z := S 1070 3) zd_11_7_250 zf_Text_25 zT_1070 rfl (zz_ltn hn rfl) rfl ?_
    refine zz_aload_n (x := 1070) rfl zd_11_7_253 ?_
    have g60 := zz_G.r G_S 1070 5 0 1500 rfl rfl
    refine zz_geti (z := S 1070 5) zd_11_7_254 zf_Text_31 zT_1070 rfl (zz_ltn hn rfl) rfl ?_
    refine zz_icmp_le (by omega) (by omega) zd_11_7_257 (fun c61 => ?_) (fun c61 => ?_)
    · refine zz_iconst zd_11_7_277 ?_
      refine zz_puti zd_11_7_278 zf_Text_28 zT_1070 rfl (zz_ltn hn rfl) (fun S62 qS62 => ?_)
      have G_S62 := zz_G.put G_S qS62 (-2147483648) 2147483647 rfl (by omega)
      have F_S62 := zz_fr.puts F_S qS62 rfl
      have e63 : S62 1070 3 = S 1070 3 := (zz_ro qS62 (fun h => absurd h.2 (by decide)) rfl)
      have e64 : S62 1070 4 = 3 := (zz_rs qS62)
      have e65 : S62 1070 5 = S 1070 5 := (zz_ro qS62 (fun h => absurd h.2 (by decide)) rfl)
      have g66 := zz_G.r G_S 1070 6 (-2147483648) 2147483647 rfl rfl
      have e67 : S62 1070 6 = S 1070 6 := (zz_ro qS62 (fun h => absurd h.2 (by decide)) rfl)
      have hr9 := zt_R0 (lo := 48) (hi := 57) (f := (S0 1071)) (e := S0 1070 2) (p := S 1070 3) (by omega)
      have hv9 := zt_tvx (f := (S0 1071)) (e := S0 1070 2) (p := S0 1070 3) (q := S 1070 5) (x := S 1070 3) (by omega) (by omega)
      have ht9 := zt_tkd (f := (S0 1071)) (e := S0 1070 2) (p := S0 1070 3) (q := S 1070 5) (x := S 1070 3) (by omega) (by omega) (by omega) (by omega) i172_6
      have hb9 : S 1070 3 - S 1070 5 ≤ 4 → 0 ≤ S 1070 6 ∧ S 1070 6 ≤ 9999 := fun h9 => zt_nbb i172_5 h9
      exact zz_vret zd_11_7_281 rfl (Nat.zero_le _) (Nat.zero_le _) ⟨_, rfl, G_S62, F_S62, (by have hc9 := zt_cox (s := S62 1070 4) (w := zt_wl (S0 1071) (S62 1070 5) (S62 1070 3) 20); omega), by omega, by omega, by omega, by omega, by omega, by omega, by omega, ⟨(by rw [zt_knd (q := S 1070 5) (by omega) (by omega) (by omega)]; exact zt_k4x.2.2.2.2 (by omega) (by omega) (by omega)), by omega, by omega, by omega, by omega, fun h => by omega, fun h => absurd h (by omega)⟩⟩
    · refine zz_aload_n (x := 1070) rfl zd_11_7_260 ?_
      refine zz_geti (z := S 1070 3) zd_11_7_261 zf_Text_25 zT_1070 rfl (zz_ltn hn rfl) rfl ?_
      refine zz_aload_n (x := 1070) rfl zd_11_7_264 ?_
      refine zz_geti (z := S 1070 5) zd_11_7_265 zf_Text_31 zT_1070 rfl (zz_ltn hn rfl) rfl ?_
      refine zz_isub zd_11_7_268 ?_
      refine zz_iconst zd_11_7_269 ?_
      refine zz_icmp_gt (by omega) (by omega) zd_11_7_270 (fun c68 => ?_) (fun c68 => ?_)
      · refine zz_iconst zd_11_7_277 ?_
        refine zz_puti zd_11_7_278 zf_Text_28 zT_1070 rfl (zz_ltn hn rfl) (fun S69 qS69 => ?_)
        have G_S69 := zz_G.put G_S qS69 (-2147483648) 2147483647 rfl (by omega)
        have F_S69 := zz_fr.puts F_S qS69 rfl
        have e70 : S69 1070 3 = S 1070 3 := (zz_ro qS69 (fun h => absurd h.2 (by decide)) rfl)
        have e71 : S69 1070 4 = 3 := (zz_rs qS69)
        have e72 : S69 1070 5 = S 1070 5 := (zz_ro qS69 (fun h => absurd h.2 (by decide)) rfl)
        have g73 := zz_G.r G_S 1070 6 (-2147483648) 2147483647 rfl rfl
        have e74 : S69 1070 6 = S 1070 6 := (zz_ro qS69 (fun h => absurd h.2 (by decide)) rfl)
        have hr9 := zt_R0 (lo := 48) (hi := 57) (f := (S0 1071)) (e := S0 1070 2) (p := S 1070 3) (by omega)
        have hv9 := zt_tvx (f := (S0 1071)) (e := S0 1070 2) (p := S0 1070 3) (q := S 1070 5) (x := S 1070 3) (by omega) (by omega)
        have ht9 := zt_tkd (f := (S0 1071)) (e := S0 1070 2) (p := S0 1070 3) (q := S 1070 5) (x := S 1070 3) (by omega) (by omega) (by omega) (by omega) i172_6
        have hb9 : S 1070 3 - S 1070 5 ≤ 4 → 0 ≤ S 1070 6 ∧ S 1070 6 ≤ 9999 := fun h9 => zt_nbb i172_5 h9
        exact zz_vret zd_11_7_281 rfl (Nat.zero_le _) (Nat.zero_le _) ⟨_, rfl, G_S69, F_S69, (by have hc9 := zt_cox (s := S69 1070 4) (w := zt_wl (S0 1071) (S69 1070 5) (S69 1070 3) 20); omega), by omega, by omega, by omega, by omega, by omega, by omega, by omega, ⟨(by rw [zt_knd (q := S 1070 5) (by omega) (by omega) (by omega)]; exact zt_k4x.2.2.2.2 (by omega) (by omega) (by omega)), by omega, by omega, by omega, by omega, fun h => by omega, fun h => absurd h (by omega)⟩⟩
      · refine zz_iconst zd_11_7_273 ?_
        refine zz_goto zd_11_7_274 ?_
        refine zz_puti zd_11_7_278 zf_Text_28 zT_1070 rfl (zz_ltn hn rfl) (fun S75 qS75 => ?_)
        have G_S75 := zz_G.put G_S qS75 (-2147483648) 2147483647 rfl (by omega)
        have F_S75 := zz_fr.puts F_S qS75 rfl
        have e76 : S75 1070 3 = S 1070 3 := (zz_ro qS75 (fun h => absurd h.2 (by decide)) rfl)
        have e77 : S75 1070 4 = 2 := (zz_rs qS75)
        have e78 : S75 1070 5 = S 1070 5 := (zz_ro qS75 (fun h => absurd h.2 (by decide)) rfl)
        have g79 := zz_G.r G_S 1070 6 (-2147483648) 2147483647 rfl rfl
        have e80 : S75 1070 6 = S 1070 6 := (zz_ro qS75 (fun h => absurd h.2 (by decide)) rfl)
        have hr9 := zt_R0 (lo := 48) (hi := 57) (f := (S0 1071)) (e := S0 1070 2) (p := S 1070 3) (by omega)
        have hv9 := zt_tvx (f := (S0 1071)) (e := S0 1070 2) (p := S0 1070 3) (q := S 1070 5) (x := S 1070 3) (by omega) (by omega)
        have ht9 := zt_tkd (f := (S0 1071)) (e := S0 1070 2) (p := S0 1070 3) (q := S 1070 5) (x := S 1070 3) (by omega) (by omega) (by omega) (by omega) i172_6
        have hb9 : S 1070 3 - S 1070 5 ≤ 4 → 0 ≤ S 1070 6 ∧ S 1070 6 ≤ 9999 := fun h9 => zt_nbb i172_5 h9
        exact zz_vret zd_11_7_281 rfl (Nat.zero_le _) (Nat.zero_le _) ⟨_, rfl, G_S75, F_S75, (by have hc9 := zt_cox (s := S75 1070 4) (w := zt_wl (S0 1071) (S75 1070 5) (S75 1070 3) 20); omega), by omega, by omega, by omega, by omega, by omega, by omega, by omega, ⟨(by rw [zt_knx (by omega)]; exact zt_k4x.2.1 (by omega)), by omega, by omega, by omega, by omega, fun h => by omega, fun h => absurd h (by omega)⟩⟩
  · refine zz_aload_n (x := 1070) rfl zd_11_7_183 ?_
    refine zz_getr (kd := 0) (z := 1071) zd_11_7_184 zf_Text_9 zT_1070 rfl (zz_ltn hn rfl) (zz_G.eq G_S 1070 0 1071 rfl rfl) (by decide) 1071 rfl ?_
    refine zz_aload_n (x := 1070) rfl zd_11_7_187 ?_
    refine zz_geti (z := S 1070 3) zd_11_7_188 zf_Text_25 zT_1070 rfl (zz_ltn hn rfl) rfl ?_
    have g81 := zz_G.r G_S0 1071 ((S 1070 3).toNat) 0 65535 rfl rfl
    refine zz_cald (z := S0 1071 ((S 1070 3).toNat)) zd_11_7_191 zT_1071 rfl (zz_ltn hn rfl) (by decide) (by omega) (zz_rc F_S (zz_nc1 rfl) rfl (fun h => h) rfl) ?_
    refine zz_bipush (by decide) zd_11_7_192 ?_
    refine zz_icmp_lt (by omega) (by omega) zd_11_7_194 (fun c82 => ?_) (fun c82 => ?_)
    · skip
      refine zz_aload_n (x := 1070) rfl zd_11_7_248 ?_
      refine zz_aload_n (x := 1070) rfl zd_11_7_249 ?_
      refine zz_geti (z := S 1070 3) zd_11_7_250 zf_Text_25 zT_1070 rfl (zz_ltn hn rfl) rfl ?_
      refine zz_aload_n (x := 1070) rfl zd_11_7_253 ?_
      have g83 := zz_G.r G_S 1070 5 0 1500 rfl rfl
      refine zz_geti (z := S 1070 5) zd_11_7_254 zf_Text_31 zT_1070 rfl (zz_ltn hn rfl) rfl ?_
      refine zz_icmp_le (by omega) (by omega) zd_11_7_257 (fun c84 => ?_) (fun c84 => ?_)
      · refine zz_iconst zd_11_7_277 ?_
        refine zz_puti zd_11_7_278 zf_Text_28 zT_1070 rfl (zz_ltn hn rfl) (fun S85 qS85 => ?_)
        have G_S85 := zz_G.put G_S qS85 (-2147483648) 2147483647 rfl (by omega)
        have F_S85 := zz_fr.puts F_S qS85 rfl
        have e86 : S85 1070 3 = S 1070 3 := (zz_ro qS85 (fun h => absurd h.2 (by decide)) rfl)
        have e87 : S85 1070 4 = 3 := (zz_rs qS85)
        have e88 : S85 1070 5 = S 1070 5 := (zz_ro qS85 (fun h => absurd h.2 (by decide)) rfl)
        have g89 := zz_G.r G_S 1070 6 (-2147483648) 2147483647 rfl rfl
        have e90 : S85 1070 6 = S 1070 6 := (zz_ro qS85 (fun h => absurd h.2 (by decide)) rfl)
        have hr9 := zt_R0 (lo := 48) (hi := 57) (f := (S0 1071)) (e := S0 1070 2) (p := S 1070 3) (by omega)
        have hv9 := zt_tvx (f := (S0 1071)) (e := S0 1070 2) (p := S0 1070 3) (q := S 1070 5) (x := S 1070 3) (by omega) (by omega)
        have ht9 := zt_tkd (f := (S0 1071)) (e := S0 1070 2) (p := S0 1070 3) (q := S 1070 5) (x := S 1070 3) (by omega) (by omega) (by omega) (by omega) i172_6
        have hb9 : S 1070 3 - S 1070 5 ≤ 4 → 0 ≤ S 1070 6 ∧ S 1070 6 ≤ 9999 := fun h9 => zt_nbb i172_5 h9
        exact zz_vret zd_11_7_281 rfl (Nat.zero_le _) (Nat.zero_le _) ⟨_, rfl, G_S85, F_S85, (by have hc9 := zt_cox (s := S85 1070 4) (w := zt_wl (S0 1071) (S85 1070 5) (S85 1070 3) 20); omega), by omega, by omega, by omega, by omega, by omega, by omega, by omega, ⟨(by rw [zt_knd (q := S 1070 5) (by omega) (by omega) (by omega)]; exact zt_k4x.2.2.2.2 (by omega) (by omega) (by omega)), by omega, by omega, by omega, by omega, fun h => by omega, fun h => absurd h (by omega)⟩⟩
      · refine zz_aload_n (x := 1070) rfl zd_11_7_260 ?_
        refine zz_geti (z := S 1070 3) zd_11_7_261 zf_Text_25 zT_1070 rfl (zz_ltn hn rfl) rfl ?_
        refine zz_aload_n (x := 1070) rfl zd_11_7_264 ?_
        refine zz_geti (z := S 1070 5) zd_11_7_265 zf_Text_31 zT_1070 rfl (zz_ltn hn rfl) rfl ?_
        refine zz_isub zd_11_7_268 ?_
        refine zz_iconst zd_11_7_269 ?_
        refine zz_icmp_gt (by omega) (by omega) zd_11_7_270 (fun c91 => ?_) (fun c91 => ?_)
        · refine zz_iconst zd_11_7_277 ?_
          refine zz_puti zd_11_7_278 zf_Text_28 zT_1070 rfl (zz_ltn hn rfl) (fun S92 qS92 => ?_)
          have G_S92 := zz_G.put G_S qS92 (-2147483648) 2147483647 rfl (by omega)
          have F_S92 := zz_fr.puts F_S qS92 rfl
          have e93 : S92 1070 3 = S 1070 3 := (zz_ro qS92 (fun h => absurd h.2 (by decide)) rfl)
          have e94 : S92 1070 4 = 3 := (zz_rs qS92)
          have e95 : S92 1070 5 = S 1070 5 := (zz_ro qS92 (fun h => absurd h.2 (by decide)) rfl)
          have g96 := zz_G.r G_S 1070 6 (-2147483648) 2147483647 rfl rfl
          have e97 : S92 1070 6 = S 1070 6 := (zz_ro qS92 (fun h => absurd h.2 (by decide)) rfl)
          have hr9 := zt_R0 (lo := 48) (hi := 57) (f := (S0 1071)) (e := S0 1070 2) (p := S 1070 3) (by omega)
          have hv9 := zt_tvx (f := (S0 1071)) (e := S0 1070 2) (p := S0 1070 3) (q := S 1070 5) (x := S 1070 3) (by omega) (by omega)
          have ht9 := zt_tkd (f := (S0 1071)) (e := S0 1070 2) (p := S0 1070 3) (q := S 1070 5) (x := S 1070 3) (by omega) (by omega) (by omega) (by omega) i172_6
          have hb9 : S 1070 3 - S 1070 5 ≤ 4 → 0 ≤ S 1070 6 ∧ S 1070 6 ≤ 9999 := fun h9 => zt_nbb i172_5 h9
          exact zz_vret zd_11_7_281 rfl (Nat.zero_le _) (Nat.zero_le _) ⟨_, rfl, G_S92, F_S92, (by have hc9 := zt_cox (s := S92 1070 4) (w := zt_wl (S0 1071) (S92 1070 5) (S92 1070 3) 20); omega), by omega, by omega, by omega, by omega, by omega, by omega, by omega, ⟨(by rw [zt_knd (q := S 1070 5) (by omega) (by omega) (by omega)]; exact zt_k4x.2.2.2.2 (by omega) (by omega) (by omega)), by omega, by omega, by omega, by omega, fun h => by omega, fun h => absurd h (by omega)⟩⟩
        · refine zz_iconst zd_11_7_273 ?_
          refine zz_goto zd_11_7_274 ?_
          refine zz_puti zd_11_7_278 zf_Text_28 zT_1070 rfl (zz_ltn hn rfl) (fun S98 qS98 => ?_)
          have G_S98 := zz_G.put G_S qS98 (-2147483648) 2147483647 rfl (by omega)
          have F_S98 := zz_fr.puts F_S qS98 rfl
          have e99 : S98 1070 3 = S 1070 3 := (zz_ro qS98 (fun h => absurd h.2 (by decide)) rfl)
          have e100 : S98 1070 4 = 2 := (zz_rs qS98)
          have e101 : S98 1070 5 = S 1070 5 := (zz_ro qS98 (fun h => absurd h.2 (by decide)) rfl)
          have g102 := zz_G.r G_S 1070 6 (-2147483648) 2147483647 rfl rfl
          have e103 : S98 1070 6 = S 1070 6 := (zz_ro qS98 (fun h => absurd h.2 (by decide)) rfl)
          have hr9 := zt_R0 (lo := 48) (hi := 57) (f := (S0 1071)) (e := S0 1070 2) (p := S 1070 3) (by omega)
          have hv9 := zt_tvx (f := (S0 1071)) (e := S0 1070 2) (p := S0 1070 3) (q := S 1070 5) (x := S 1070 3) (by omega) (by omega)
          have ht9 := zt_tkd (f := (S0 1071)) (e := S0 1070 2) (p := S0 1070 3) (q := S 1070 5) (x := S 1070 3) (by omega) (by omega) (by omega) (by omega) i172_6
          have hb9 : S 1070 3 - S 1070 5 ≤ 4 → 0 ≤ S 1070 6 ∧ S 1070 6 ≤ 9999 := fun h9 => zt_nbb i172_5 h9
          exact zz_vret zd_11_7_281 rfl (Nat.zero_le _) (Nat.zero_le _) ⟨_, rfl, G_S98, F_S98, (by have hc9 := zt_cox (s := S98 1070 4) (w := zt_wl (S0 1071) (S98 1070 5) (S98 1070 3) 20); omega), by omega, by omega, by omega, by omega, by omega, by omega, by omega, ⟨(by rw [zt_knx (by omega)]; exact zt_k4x.2.1 (by omega)), by omega, by omega, by omega, by omega, fun h => by omega, fun h => absurd h (by omega)⟩⟩
    · refine zz_aload_n (x := 1070) rfl zd_11_7_197 ?_
      refine zz_getr (kd := 0) (z := 1071) zd_11_7_198 zf_Text_9 zT_1070 rfl (zz_ltn hn rfl) (zz_G.eq G_S 1070 0 1071 rfl rfl) (by decide) 1071 rfl ?_
      refine zz_aload_n (x := 1070) rfl zd_11_7_201 ?_
      refine zz_geti (z := S 1070 3) zd_11_7_202 zf_Text_25 zT_1070 rfl (zz_ltn hn rfl) rfl ?_
      refine zz_cald (z := S0 1071 ((S 1070 3).toNat)) zd_11_7_205 zT_1071 rfl (zz_ltn hn rfl) (by decide) (by omega) (zz_rc F_S (zz_nc1 rfl) rfl (fun h => h) rfl) ?_
      refine zz_bipush (by decide) zd_11_7_206 ?_
      refine zz_icmp_gt (by omega) (by omega) zd_11_7_208 (fun c104 => ?_) (fun c104 => ?_)
      · skip
        refine zz_aload_n (x := 1070) rfl zd_11_7_248 ?_
        refine zz_aload_n (x := 1070) rfl zd_11_7_249 ?_
        refine zz_geti (z := S 1070 3) zd_11_7_250 zf_Text_25 zT_1070 rfl (zz_ltn hn rfl) rfl ?_
        refine zz_aload_n (x := 1070) rfl zd_11_7_253 ?_
        have g105 := zz_G.r G_S 1070 5 0 1500 rfl rfl
        refine zz_geti (z := S 1070 5) zd_11_7_254 zf_Text_31 zT_1070 rfl (zz_ltn hn rfl) rfl ?_
        refine zz_icmp_le (by omega) (by omega) zd_11_7_257 (fun c106 => ?_) (fun c106 => ?_)
        · refine zz_iconst zd_11_7_277 ?_
          refine zz_puti zd_11_7_278 zf_Text_28 zT_1070 rfl (zz_ltn hn rfl) (fun S107 qS107 => ?_)
          have G_S107 := zz_G.put G_S qS107 (-2147483648) 2147483647 rfl (by omega)
          have F_S107 := zz_fr.puts F_S qS107 rfl
          have e108 : S107 1070 3 = S 1070 3 := (zz_ro qS107 (fun h => absurd h.2 (by decide)) rfl)
          have e109 : S107 1070 4 = 3 := (zz_rs qS107)
          have e110 : S107 1070 5 = S 1070 5 := (zz_ro qS107 (fun h => absurd h.2 (by decide)) rfl)
          have g111 := zz_G.r G_S 1070 6 (-2147483648) 2147483647 rfl rfl
          have e112 : S107 1070 6 = S 1070 6 := (zz_ro qS107 (fun h => absurd h.2 (by decide)) rfl)
          have hr9 := zt_R0 (lo := 48) (hi := 57) (f := (S0 1071)) (e := S0 1070 2) (p := S 1070 3) (by omega)
          have hv9 := zt_tvx (f := (S0 1071)) (e := S0 1070 2) (p := S0 1070 3) (q := S 1070 5) (x := S 1070 3) (by omega) (by omega)
          have ht9 := zt_tkd (f := (S0 1071)) (e := S0 1070 2) (p := S0 1070 3) (q := S 1070 5) (x := S 1070 3) (by omega) (by omega) (by omega) (by omega) i172_6
          have hb9 : S 1070 3 - S 1070 5 ≤ 4 → 0 ≤ S 1070 6 ∧ S 1070 6 ≤ 9999 := fun h9 => zt_nbb i172_5 h9
          exact zz_vret zd_11_7_281 rfl (Nat.zero_le _) (Nat.zero_le _) ⟨_, rfl, G_S107, F_S107, (by have hc9 := zt_cox (s := S107 1070 4) (w := zt_wl (S0 1071) (S107 1070 5) (S107 1070 3) 20); omega), by omega, by omega, by omega, by omega, by omega, by omega, by omega, ⟨(by rw [zt_knd (q := S 1070 5) (by omega) (by omega) (by omega)]; exact zt_k4x.2.2.2.2 (by omega) (by omega) (by omega)), by omega, by omega, by omega, by omega, fun h => by omega, fun h => absurd h (by omega)⟩⟩
        · refine zz_aload_n (x := 1070) rfl zd_11_7_260 ?_
          refine zz_geti (z := S 1070 3) zd_11_7_261 zf_Text_25 zT_1070 rfl (zz_ltn hn rfl) rfl ?_
          refine zz_aload_n (x := 1070) rfl zd_11_7_264 ?_
          refine zz_geti (z := S 1070 5) zd_11_7_265 zf_Text_31 zT_1070 rfl (zz_ltn hn rfl) rfl ?_
          refine zz_isub zd_11_7_268 ?_
          refine zz_iconst zd_11_7_269 ?_
          refine zz_icmp_gt (by omega) (by omega) zd_11_7_270 (fun c113 => ?_) (fun c113 => ?_)
          · refine zz_iconst zd_11_7_277 ?_
            refine zz_puti zd_11_7_278 zf_Text_28 zT_1070 rfl (zz_ltn hn rfl) (fun S114 qS114 => ?_)
            have G_S114 := zz_G.put G_S qS114 (-2147483648) 2147483647 rfl (by omega)
            have F_S114 := zz_fr.puts F_S qS114 rfl
            have e115 : S114 1070 3 = S 1070 3 := (zz_ro qS114 (fun h => absurd h.2 (by decide)) rfl)
            have e116 : S114 1070 4 = 3 := (zz_rs qS114)
            have e117 : S114 1070 5 = S 1070 5 := (zz_ro qS114 (fun h => absurd h.2 (by decide)) rfl)
            have g118 := zz_G.r G_S 1070 6 (-2147483648) 2147483647 rfl rfl
            have e119 : S114 1070 6 = S 1070 6 := (zz_ro qS114 (fun h => absurd h.2 (by decide)) rfl)
            have hr9 := zt_R0 (lo := 48) (hi := 57) (f := (S0 1071)) (e := S0 1070 2) (p := S 1070 3) (by omega)
            have hv9 := zt_tvx (f := (S0 1071)) (e := S0 1070 2) (p := S0 1070 3) (q := S 1070 5) (x := S 1070 3) (by omega) (by omega)
            have ht9 := zt_tkd (f := (S0 1071)) (e := S0 1070 2) (p := S0 1070 3) (q := S 1070 5) (x := S 1070 3) (by omega) (by omega) (by omega) (by omega) i172_6
            have hb9 : S 1070 3 - S 1070 5 ≤ 4 → 0 ≤ S 1070 6 ∧ S 1070 6 ≤ 9999 := fun h9 => zt_nbb i172_5 h9
            exact zz_vret zd_11_7_281 rfl (Nat.zero_le _) (Nat.zero_le _) ⟨_, rfl, G_S114, F_S114, (by have hc9 := zt_cox (s := S114 1070 4) (w := zt_wl (S0 1071) (S114 1070 5) (S114 1070 3) 20); omega), by omega, by omega, by omega, by omega, by omega, by omega, by omega, ⟨(by rw [zt_knd (q := S 1070 5) (by omega) (by omega) (by omega)]; exact zt_k4x.2.2.2.2 (by omega) (by omega) (by omega)), by omega, by omega, by omega, by omega, fun h => by omega, fun h => absurd h (by omega)⟩⟩
          · refine zz_iconst zd_11_7_273 ?_
            refine zz_goto zd_11_7_274 ?_
            refine zz_puti zd_11_7_278 zf_Text_28 zT_1070 rfl (zz_ltn hn rfl) (fun S120 qS120 => ?_)
            have G_S120 := zz_G.put G_S qS120 (-2147483648) 2147483647 rfl (by omega)
            have F_S120 := zz_fr.puts F_S qS120 rfl
            have e121 : S120 1070 3 = S 1070 3 := (zz_ro qS120 (fun h => absurd h.2 (by decide)) rfl)
            have e122 : S120 1070 4 = 2 := (zz_rs qS120)
            have e123 : S120 1070 5 = S 1070 5 := (zz_ro qS120 (fun h => absurd h.2 (by decide)) rfl)
            have g124 := zz_G.r G_S 1070 6 (-2147483648) 2147483647 rfl rfl
            have e125 : S120 1070 6 = S 1070 6 := (zz_ro qS120 (fun h => absurd h.2 (by decide)) rfl)
            have hr9 := zt_R0 (lo := 48) (hi := 57) (f := (S0 1071)) (e := S0 1070 2) (p := S 1070 3) (by omega)
            have hv9 := zt_tvx (f := (S0 1071)) (e := S0 1070 2) (p := S0 1070 3) (q := S 1070 5) (x := S 1070 3) (by omega) (by omega)
            have ht9 := zt_tkd (f := (S0 1071)) (e := S0 1070 2) (p := S0 1070 3) (q := S 1070 5) (x := S 1070 3) (by omega) (by omega) (by omega) (by omega) i172_6
            have hb9 : S 1070 3 - S 1070 5 ≤ 4 → 0 ≤ S 1070 6 ∧ S 1070 6 ≤ 9999 := fun h9 => zt_nbb i172_5 h9
            exact zz_vret zd_11_7_281 rfl (Nat.zero_le _) (Nat.zero_le _) ⟨_, rfl, G_S120, F_S120, (by have hc9 := zt_cox (s := S120 1070 4) (w := zt_wl (S0 1071) (S120 1070 5) (S120 1070 3) 20); omega), by omega, by omega, by omega, by omega, by omega, by omega, by omega, ⟨(by rw [zt_knx (by omega)]; exact zt_k4x.2.1 (by omega)), by omega, by omega, by omega, by omega, fun h => by omega, fun h => absurd h (by omega)⟩⟩
      · refine zz_aload_n (x := 1070) rfl zd_11_7_211 ?_
        refine zz_bipush (by decide) zd_11_7_212 ?_
        refine zz_aload_n (x := 1070) rfl zd_11_7_214 ?_
        have g126 := zz_G.r G_S 1070 6 (-2147483648) 2147483647 rfl rfl
        refine zz_geti (z := S 1070 6) zd_11_7_215 zf_Text_34 zT_1070 rfl (zz_ltn hn rfl) rfl ?_
        refine zz_imul zd_11_7_218 ?_
        refine zz_nrm (fun v127 hv127 ev127 => ?_)
        refine zz_aload_n (x := 1070) rfl zd_11_7_219 ?_
        refine zz_getr (kd := 0) (z := 1071) zd_11_7_220 zf_Text_9 zT_1070 rfl (zz_ltn hn rfl) (zz_G.eq G_S 1070 0 1071 rfl rfl) (by decide) 1071 rfl ?_
        refine zz_aload_n (x := 1070) rfl zd_11_7_223 ?_
        refine zz_geti (z := S 1070 3) zd_11_7_224 zf_Text_25 zT_1070 rfl (zz_ltn hn rfl) rfl ?_
        refine zz_cald (z := S0 1071 ((S 1070 3).toNat)) zd_11_7_227 zT_1071 rfl (zz_ltn hn rfl) (by decide) (by omega) (zz_rc F_S (zz_nc1 rfl) rfl (fun h => h) rfl) ?_
        refine zz_iadd zd_11_7_228 ?_
        refine zz_nrm (fun v128 hv128 ev128 => ?_)
        refine zz_bipush (by decide) zd_11_7_229 ?_
        refine zz_isub zd_11_7_231 ?_
        refine zz_nrm (fun v129 hv129 ev129 => ?_)
        refine zz_puti zd_11_7_232 zf_Text_34 zT_1070 rfl (zz_ltn hn rfl) (fun S130 qS130 => ?_)
        have G_S130 := zz_G.put G_S qS130 (-2147483648) 2147483647 rfl (by omega)
        have F_S130 := zz_fr.puts F_S qS130 rfl
        refine zz_aload_n (x := 1070) rfl zd_11_7_235 ?_
        refine zz_dup rfl zd_11_7_236 ?_
        refine zz_geti (z := S 1070 3) zd_11_7_237 zf_Text_25 zT_1070 rfl (zz_ltn hn rfl) (zz_ro qS130 (fun h => absurd h.2 (by decide)) rfl) ?_
        refine zz_iconst zd_11_7_240 ?_
        refine zz_iadd zd_11_7_241 ?_
        refine zz_puti zd_11_7_242 zf_Text_25 zT_1070 rfl (zz_ltn hn rfl) (fun S131 qS131 => ?_)
        have G_S131 := zz_G.put G_S130 qS131 0 1500 rfl (by omega)
        have F_S131 := zz_fr.puts F_S130 qS131 rfl
        refine zz_goto zd_11_7_245 ?_
        have e132 : S131 1070 3 = (S 1070 3) + 1 := (zz_rs qS131)
        have g133 := zz_G.r G_S 1070 5 0 1500 rfl rfl
        have e134 : S131 1070 5 = S 1070 5 := (zz_ro qS131 (fun h => absurd h.2 (by decide)) (zz_ro qS130 (fun h => absurd h.2 (by decide)) rfl))
        have e135 : S131 1070 6 = v129 := (zz_ro qS131 (fun h => absurd h.2 (by decide)) (zz_rs qS130))
        exact k172 S131 G_S131 F_S131 (by omega) ⟨by omega, by omega, by omega⟩ (by rw [show S131 1070 5 = S 1070 5 by omega]; exact i172_2) (by rw [show S131 1070 5 = S 1070 5 by omega]; exact i172_3) (by rw [show S131 1070 3 = S 1070 3 + 1 by omega, show S131 1070 5 = S 1070 5 by omega, zt_RS (by omega) (by omega)]; exact i172_4) (zt_nbS (c := S0 1071 ((S 1070 3).toNat)) i172_5 (by omega) (by omega) (fun a9 b9 => by have c0_ := ev127 ⟨by omega, by omega⟩; have c1_ := ev128 ⟨by omega, by omega⟩; have c2_ := ev129 ⟨by omega, by omega⟩; omega)) (fun _ => by rw [show S131 1070 5 = S 1070 5 by omega]; have h8 := i172_6; rcases (by omega : S 1070 3 = S 1070 5 ∨ S 1070 5 < S 1070 3) with h7 | h7; rw [← h7]; omega; exact h8 h7) (fun h9 => by rw [show S131 1070 5 = S 1070 5 by omega, show (S131 1070 3 - S 1070 5).toNat = (S 1070 3 - S 1070 5).toNat + 1 by omega]; have h8 := i172_7 (by omega); have h7 := zt_nv1 (f := (S0 1071)) (q := S 1070 5) (k := (S 1070 3 - S 1070 5).toNat) (p := S 1070 3) (by omega); have h6 := zt_nb3 i172_5 (by omega); have c0_ := ev127 ⟨by omega, by omega⟩; have c1_ := ev128 ⟨by omega, by omega⟩; have c2_ := ev129 ⟨by omega, by omega⟩; omega) (by omega)
theorem zi_nextToken_11_7 {g : mm_G} {l : Launch}  (S0 : zz_S) (n : Nat) (hn : zz_end ≤ n) (G_S0 : zz_G S0)  : ∀ N : Nat, (∀  (S : zz_S), zz_G S → zz_fr [(1070, 3), (1070, 4), (1070, 5), (1070, 6)] [] (fun _ _ => False) S0 S → (S0 1070 3 < S0 1070 2) → (S0 1071 ((S0 1070 3).toNat) = 32) → (S0 1070 3 ≤ S 1070 3 ∧ S 1070 3 ≤ S0 1070 2) → (zt_R 32 32 (S0 1071) (S0 1070 2) (S 1070 3) = zt_R 32 32 (S0 1071) (S0 1070 2) (S0 1070 3)) → (51539607552 + (S0 1070 2 - S 1070 3).toNat) < N → zz_E g l zy_nextToken_11_7 zr_nextToken_11_7 (zz_QV n (zp_nextToken_11_7  S0)) S n 0 [some (.ref 1070)] [] 0 0) ∧ (∀  (S : zz_S), zz_G S → zz_fr [(1070, 3), (1070, 4), (1070, 5), (1070, 6)] [] (fun _ _ => False) S0 S → (S0 1070 3 < S0 1070 2) → (S0 1070 3 ≤ S 1070 5 ∧ S 1070 5 ≤ S 1070 3 ∧ S 1070 3 ≤ S0 1070 2) → (S 1070 5 = zt_R 32 32 (S0 1071) (S0 1070 2) (S0 1070 3)) → (S 1070 5 < S0 1070 2 ∧ 97 ≤ S0 1071 (S 1070 5).toNat ∧ S0 1071 (S 1070 5).toNat ≤ 122) → (zt_R 97 122 (S0 1071) (S0 1070 2) (S 1070 3) = zt_R 97 122 (S0 1071) (S0 1070 2) (S 1070 5)) → (34359738368 + (S0 1070 2 - S 1070 3).toNat) < N → zz_E g l zy_nextToken_11_7 zr_nextToken_11_7 (zz_QV n (zp_nextToken_11_7  S0)) S n 112 [some (.ref 1070)] [] 0 0) ∧ (∀  (S : zz_S), zz_G S → zz_fr [(1070, 3), (1070, 4), (1070, 5), (1070, 6)] [] (fun _ _ => False) S0 S → (S0 1070 3 < S0 1070 2) → (S0 1070 3 ≤ S 1070 5 ∧ S 1070 5 ≤ S 1070 3 ∧ S 1070 3 ≤ S0 1070 2) → (S 1070 5 = zt_R 32 32 (S0 1071) (S0 1070 2) (S0 1070 3)) → (S 1070 5 < S0 1070 2 ∧ S0 1071 (S 1070 5).toNat ≠ 35 ∧ ¬ (97 ≤ S0 1071 (S 1070 5).toNat ∧ S0 1071 (S 1070 5).toNat ≤ 122)) → (zt_R 48 57 (S0 1071) (S0 1070 2) (S 1070 3) = zt_R 48 57 (S0 1071) (S0 1070 2) (S 1070 5)) → (zt_nb (S 1070 3 - S 1070 5) (S 1070 6)) → (S 1070 5 < S 1070 3 → 48 ≤ S0 1071 (S 1070 5).toNat ∧ S0 1071 (S 1070 5).toNat ≤ 57) → (S 1070 3 - S 1070 5 ≤ 4 → S 1070 6 = zt_nv (S0 1071) (S 1070 5) (S 1070 3 - S 1070 5).toNat) → (17179869184 + (S0 1070 2 - S 1070 3).toNat) < N → zz_E g l zy_nextToken_11_7 zr_nextToken_11_7 (zz_QV n (zp_nextToken_11_7  S0)) S n 172 [some (.ref 1070)] [] 0 0) := by
  intro N
  induction N with
  | zero => exact ⟨fun  S _ _ _ _ _ _ h => absurd h (Nat.not_lt_zero _), fun  S _ _ _ _ _ _ _ h => absurd h (Nat.not_lt_zero _), fun  S _ _ _ _ _ _ _ _ _ _ h => absurd h (Nat.not_lt_zero _)⟩
  | succ N ih =>
    exact ⟨fun  S a b j0 j1 j2 j3 hR => zb_nextToken_11_7_0  S0 n hn G_S0   S a b j0 j1 j2 j3 _ rfl (fun  S a b j0 j1 j2 j3 h => ih.1  S a b j0 j1 j2 j3 (Nat.lt_of_lt_of_le h (Nat.le_of_lt_succ hR))) (fun  S a b j0 j1 j2 j3 j4 h => ih.2.1  S a b j0 j1 j2 j3 j4 (Nat.lt_of_lt_of_le h (Nat.le_of_lt_succ hR))) (fun  S a b j0 j1 j2 j3 j4 j5 j6 j7 h => ih.2.2  S a b j0 j1 j2 j3 j4 j5 j6 j7 (Nat.lt_of_lt_of_le h (Nat.le_of_lt_succ hR))),
      fun  S a b j0 j1 j2 j3 j4 hR => zb_nextToken_11_7_112  S0 n hn G_S0   S a b j0 j1 j2 j3 j4 _ rfl (fun  S a b j0 j1 j2 j3 j4 h => ih.2.1  S a b j0 j1 j2 j3 j4 (Nat.lt_of_lt_of_le h (Nat.le_of_lt_succ hR))),
      fun  S a b j0 j1 j2 j3 j4 j5 j6 j7 hR => zb_nextToken_11_7_172  S0 n hn G_S0   S a b j0 j1 j2 j3 j4 j5 j6 j7 _ rfl (fun  S a b j0 j1 j2 j3 j4 j5 j6 j7 h => ih.2.2  S a b j0 j1 j2 j3 j4 j5 j6 j7 (Nat.lt_of_lt_of_le h (Nat.le_of_lt_succ hR)))⟩
theorem zc_nextToken_11_7 {g : mm_G} {l : Launch}  (S0 : zz_S) (n : Nat) (hn : zz_end ≤ n) (G_S0 : zz_G S0)  : mm_Met g l zy_nextToken_11_7 zr_nextToken_11_7 [.ref 1070] (zz_M S0 n) n (zz_QV n (zp_nextToken_11_7  S0)) := by
  refine zz_enter (by decide) (Nat.le_of_ble_eq_true rfl) (zz_less (ls1 := [some (.ref 1070)]) ⟨rfl, trivial⟩ ?_)
  have F_S0 : zz_fr [(1070, 3), (1070, 4), (1070, 5), (1070, 6)] [] (fun _ _ => False) S0 S0 := zz_fr.refl
  have k0 : ∀  (S : zz_S), zz_G S → zz_fr [(1070, 3), (1070, 4), (1070, 5), (1070, 6)] [] (fun _ _ => False) S0 S → (S0 1070 3 < S0 1070 2) → (S0 1071 ((S0 1070 3).toNat) = 32) → (S0 1070 3 ≤ S 1070 3 ∧ S 1070 3 ≤ S0 1070 2) → (zt_R 32 32 (S0 1071) (S0 1070 2) (S 1070 3) = zt_R 32 32 (S0 1071) (S0 1070 2) (S0 1070 3)) → zz_E g l zy_nextToken_11_7 zr_nextToken_11_7 (zz_QV n (zp_nextToken_11_7  S0)) S n 0 [some (.ref 1070)] [] 0 0 := fun  S a b j0 j1 j2 j3 => (zi_nextToken_11_7 (g := g) (l := l)  S0 n hn G_S0  _).1  S a b j0 j1 j2 j3 (Nat.lt_succ_self _)
  have k112 : ∀  (S : zz_S), zz_G S → zz_fr [(1070, 3), (1070, 4), (1070, 5), (1070, 6)] [] (fun _ _ => False) S0 S → (S0 1070 3 < S0 1070 2) → (S0 1070 3 ≤ S 1070 5 ∧ S 1070 5 ≤ S 1070 3 ∧ S 1070 3 ≤ S0 1070 2) → (S 1070 5 = zt_R 32 32 (S0 1071) (S0 1070 2) (S0 1070 3)) → (S 1070 5 < S0 1070 2 ∧ 97 ≤ S0 1071 (S 1070 5).toNat ∧ S0 1071 (S 1070 5).toNat ≤ 122) → (zt_R 97 122 (S0 1071) (S0 1070 2) (S 1070 3) = zt_R 97 122 (S0 1071) (S0 1070 2) (S 1070 5)) → zz_E g l zy_nextToken_11_7 zr_nextToken_11_7 (zz_QV n (zp_nextToken_11_7  S0)) S n 112 [some (.ref 1070)] [] 0 0 := fun  S a b j0 j1 j2 j3 j4 => (zi_nextToken_11_7 (g := g) (l := l)  S0 n hn G_S0  _).2.1  S a b j0 j1 j2 j3 j4 (Nat.lt_succ_self _)
  have k172 : ∀  (S : zz_S), zz_G S → zz_fr [(1070, 3), (1070, 4), (1070, 5), (1070, 6)] [] (fun _ _ => False) S0 S → (S0 1070 3 < S0 1070 2) → (S0 1070 3 ≤ S 1070 5 ∧ S 1070 5 ≤ S 1070 3 ∧ S 1070 3 ≤ S0 1070 2) → (S 1070 5 = zt_R 32 32 (S0 1071) (S0 1070 2) (S0 1070 3)) → (S 1070 5 < S0 1070 2 ∧ S0 1071 (S 1070 5).toNat ≠ 35 ∧ ¬ (97 ≤ S0 1071 (S 1070 5).toNat ∧ S0 1071 (S 1070 5).toNat ≤ 122)) → (zt_R 48 57 (S0 1071) (S0 1070 2) (S 1070 3) = zt_R 48 57 (S0 1071) (S0 1070 2) (S 1070 5)) → (zt_nb (S 1070 3 - S 1070 5) (S 1070 6)) → (S 1070 5 < S 1070 3 → 48 ≤ S0 1071 (S 1070 5).toNat ∧ S0 1071 (S 1070 5).toNat ≤ 57) → (S 1070 3 - S 1070 5 ≤ 4 → S 1070 6 = zt_nv (S0 1071) (S 1070 5) (S 1070 3 - S 1070 5).toNat) → zz_E g l zy_nextToken_11_7 zr_nextToken_11_7 (zz_QV n (zp_nextToken_11_7  S0)) S n 172 [some (.ref 1070)] [] 0 0 := fun  S a b j0 j1 j2 j3 j4 j5 j6 j7 => (zi_nextToken_11_7 (g := g) (l := l)  S0 n hn G_S0  _).2.2  S a b j0 j1 j2 j3 j4 j5 j6 j7 (Nat.lt_succ_self _)
  refine zz_aload_n (x := 1070) rfl zd_11_7_0 ?_
  have g1 := zz_G.r G_S0 1070 3 0 1500 rfl rfl
  refine zz_geti (z := S0 1070 3) zd_11_7_1 zf_Text_25 zT_1070 rfl (zz_ltn hn rfl) rfl ?_
  refine zz_aload_n (x := 1070) rfl zd_11_7_4 ?_
  have g2 := zz_G.r G_S0 1070 2 (-1) 1500 rfl rfl
  refine zz_geti (z := S0 1070 2) zd_11_7_5 zf_Text_22 zT_1070 rfl (zz_ltn hn rfl) rfl ?_
  refine zz_icmp_ge (by omega) (by omega) zd_11_7_8 (fun c3 => ?_) (fun c3 => ?_)
  · refine zz_aload_n (x := 1070) rfl zd_11_7_38 ?_
    refine zz_aload_n (x := 1070) rfl zd_11_7_39 ?_
    refine zz_geti (z := S0 1070 3) zd_11_7_40 zf_Text_25 zT_1070 rfl (zz_ltn hn rfl) rfl ?_
    refine zz_puti zd_11_7_43 zf_Text_31 zT_1070 rfl (zz_ltn hn rfl) (fun S4 qS4 => ?_)
    have G_S4 := zz_G.put G_S0 qS4 0 1500 rfl (by omega)
    have F_S4 := zz_fr.puts F_S0 qS4 rfl
    refine zz_aload_n (x := 1070) rfl zd_11_7_46 ?_
    refine zz_iconst zd_11_7_47 ?_
    refine zz_puti zd_11_7_48 zf_Text_34 zT_1070 rfl (zz_ltn hn rfl) (fun S5 qS5 => ?_)
    have G_S5 := zz_G.put G_S4 qS5 (-2147483648) 2147483647 rfl (by omega)
    have F_S5 := zz_fr.puts F_S4 qS5 rfl
    refine zz_aload_n (x := 1070) rfl zd_11_7_51 ?_
    refine zz_geti (z := S0 1070 3) zd_11_7_52 zf_Text_25 zT_1070 rfl (zz_ltn hn rfl) (zz_ro qS5 (fun h => absurd h.2 (by decide)) (zz_ro qS4 (fun h => absurd h.2 (by decide)) rfl)) ?_
    refine zz_aload_n (x := 1070) rfl zd_11_7_55 ?_
    refine zz_geti (z := S0 1070 2) zd_11_7_56 zf_Text_22 zT_1070 rfl (zz_ltn hn rfl) (zz_ro qS5 (fun h => absurd h.2 (by decide)) (zz_ro qS4 (fun h => absurd h.2 (by decide)) rfl)) ?_
    refine zz_icmp_ge (by omega) (by omega) zd_11_7_59 (fun c6 => ?_) (fun c6 => ?_)
    · skip
      refine zz_aload_n (x := 1070) rfl zd_11_7_76 ?_
      refine zz_iconst zd_11_7_77 ?_
      refine zz_puti zd_11_7_78 zf_Text_28 zT_1070 rfl (zz_ltn hn rfl) (fun S7 qS7 => ?_)
      have G_S7 := zz_G.put G_S5 qS7 (-2147483648) 2147483647 rfl (by omega)
      have F_S7 := zz_fr.puts F_S5 qS7 rfl
      refine zz_goto zd_11_7_81 ?_
      have e8 : S7 1070 3 = S0 1070 3 := (zz_ro qS7 (fun h => absurd h.2 (by decide)) (zz_ro qS5 (fun h => absurd h.2 (by decide)) (zz_ro qS4 (fun h => absurd h.2 (by decide)) rfl)))
      have e9 : S7 1070 4 = 0 := (zz_rs qS7)
      have e10 : S7 1070 5 = S0 1070 3 := (zz_ro qS7 (fun h => absurd h.2 (by decide)) (zz_ro qS5 (fun h => absurd h.2 (by decide)) (zz_rs qS4)))
      have e11 : S7 1070 6 = 0 := (zz_ro qS7 (fun h => absurd h.2 (by decide)) (zz_rs qS5))
      have hq9 : S0 1070 3 = zt_R 32 32 (S0 1071) (S0 1070 2) (S0 1070 3) := (zt_R0 (by omega)).symm
      have ht9 := zt_tk0 (f := (S0 1071)) (e := S0 1070 2) (p := S0 1070 3) hq9 (by omega)
      exact zz_vret zd_11_7_281 rfl (Nat.zero_le _) (Nat.zero_le _) ⟨_, rfl, G_S7, F_S7, (by have hc9 := zt_cox (s := S7 1070 4) (w := zt_wl (S0 1071) (S7 1070 5) (S7 1070 3) 20); rw [hc9.1 (by omega)]; exact ht9.1.symm), by omega, by omega, by omega, by omega, by omega, by omega, by omega, ⟨(by rw [zt_kn0 ht9.1]; exact zt_k4x.1 (by omega)), by omega, by omega, by omega, by omega, fun h => by omega, fun h => absurd h (by omega)⟩⟩
    · refine zz_aload_n (x := 1070) rfl zd_11_7_62 ?_
      refine zz_getr (kd := 0) (z := 1071) zd_11_7_63 zf_Text_9 zT_1070 rfl (zz_ltn hn rfl) (zz_G.eq G_S5 1070 0 1071 rfl rfl) (by decide) 1071 rfl ?_
      refine zz_aload_n (x := 1070) rfl zd_11_7_66 ?_
      refine zz_geti (z := S0 1070 3) zd_11_7_67 zf_Text_25 zT_1070 rfl (zz_ltn hn rfl) (zz_ro qS5 (fun h => absurd h.2 (by decide)) (zz_ro qS4 (fun h => absurd h.2 (by decide)) rfl)) ?_
      have g12 := zz_G.r G_S0 1071 ((S0 1070 3).toNat) 0 65535 rfl rfl
      refine zz_cald (z := S0 1071 ((S0 1070 3).toNat)) zd_11_7_70 zT_1071 rfl (zz_ltn hn rfl) (by decide) (by omega) (zz_ro qS5 (fun h => absurd h.1 (by decide)) (zz_ro qS4 (fun h => absurd h.1 (by decide)) rfl)) ?_
      refine zz_bipush (by decide) zd_11_7_71 ?_
      refine zz_icmp_ne (by omega) (by omega) zd_11_7_73 (fun c13 => ?_) (fun c13 => ?_)
      · refine zz_aload_n (x := 1070) rfl zd_11_7_84 ?_
        refine zz_getr (kd := 0) (z := 1071) zd_11_7_85 zf_Text_9 zT_1070 rfl (zz_ltn hn rfl) (zz_G.eq G_S5 1070 0 1071 rfl rfl) (by decide) 1071 rfl ?_
        refine zz_aload_n (x := 1070) rfl zd_11_7_88 ?_
        refine zz_geti (z := S0 1070 3) zd_11_7_89 zf_Text_25 zT_1070 rfl (zz_ltn hn rfl) (zz_ro qS5 (fun h => absurd h.2 (by decide)) (zz_ro qS4 (fun h => absurd h.2 (by decide)) rfl)) ?_
        refine zz_cald (z := S0 1071 ((S0 1070 3).toNat)) zd_11_7_92 zT_1071 rfl (zz_ltn hn rfl) (by decide) (by omega) (zz_ro qS5 (fun h => absurd h.1 (by decide)) (zz_ro qS4 (fun h => absurd h.1 (by decide)) rfl)) ?_
        refine zz_bipush (by decide) zd_11_7_93 ?_
        refine zz_icmp_lt (by omega) (by omega) zd_11_7_95 (fun c14 => ?_) (fun c14 => ?_)
        · have e15 : S5 1070 3 = S0 1070 3 := (zz_ro qS5 (fun h => absurd h.2 (by decide)) (zz_ro qS4 (fun h => absurd h.2 (by decide)) rfl))
          have e16 : S5 1070 5 = S0 1070 3 := (zz_ro qS5 (fun h => absurd h.2 (by decide)) (zz_rs qS4))
          have e17 : S5 1070 6 = 0 := (zz_rs qS5)
          exact k172 S5 G_S5 F_S5 (by omega) ⟨by omega, by omega, by omega⟩ (by rw [show S5 1070 5 = S0 1070 3 by omega]; exact (zt_R0 (by omega)).symm) (by rw [show S5 1070 5 = S0 1070 3 by omega]; omega) (by rw [show S5 1070 3 = S5 1070 5 by omega]) (zt_nb0 (by omega) (by omega)) (fun h9 => by omega) (fun _ => by rw [show S5 1070 3 = S5 1070 5 by omega, Int.sub_self]; exact (show S5 1070 6 = 0 by omega))
        · refine zz_aload_n (x := 1070) rfl zd_11_7_98 ?_
          refine zz_getr (kd := 0) (z := 1071) zd_11_7_99 zf_Text_9 zT_1070 rfl (zz_ltn hn rfl) (zz_G.eq G_S5 1070 0 1071 rfl rfl) (by decide) 1071 rfl ?_
          refine zz_aload_n (x := 1070) rfl zd_11_7_102 ?_
          refine zz_geti (z := S0 1070 3) zd_11_7_103 zf_Text_25 zT_1070 rfl (zz_ltn hn rfl) (zz_ro qS5 (fun h => absurd h.2 (by decide)) (zz_ro qS4 (fun h => absurd h.2 (by decide)) rfl)) ?_
          refine zz_cald (z := S0 1071 ((S0 1070 3).toNat)) zd_11_7_106 zT_1071 rfl (zz_ltn hn rfl) (by decide) (by omega) (zz_ro qS5 (fun h => absurd h.1 (by decide)) (zz_ro qS4 (fun h => absurd h.1 (by decide)) rfl)) ?_
          refine zz_bipush (by decide) zd_11_7_107 ?_
          refine zz_icmp_gt (by omega) (by omega) zd_11_7_109 (fun c18 => ?_) (fun c18 => ?_)
          · have e19 : S5 1070 3 = S0 1070 3 := (zz_ro qS5 (fun h => absurd h.2 (by decide)) (zz_ro qS4 (fun h => absurd h.2 (by decide)) rfl))
            have e20 : S5 1070 5 = S0 1070 3 := (zz_ro qS5 (fun h => absurd h.2 (by decide)) (zz_rs qS4))
            have e21 : S5 1070 6 = 0 := (zz_rs qS5)
            exact k172 S5 G_S5 F_S5 (by omega) ⟨by omega, by omega, by omega⟩ (by rw [show S5 1070 5 = S0 1070 3 by omega]; exact (zt_R0 (by omega)).symm) (by rw [show S5 1070 5 = S0 1070 3 by omega]; omega) (by rw [show S5 1070 3 = S5 1070 5 by omega]) (zt_nb0 (by omega) (by omega)) (fun h9 => by omega) (fun _ => by rw [show S5 1070 3 = S5 1070 5 by omega, Int.sub_self]; exact (show S5 1070 6 = 0 by omega))
          · have e22 : S5 1070 3 = S0 1070 3 := (zz_ro qS5 (fun h => absurd h.2 (by decide)) (zz_ro qS4 (fun h => absurd h.2 (by decide)) rfl))
            have e23 : S5 1070 5 = S0 1070 3 := (zz_ro qS5 (fun h => absurd h.2 (by decide)) (zz_rs qS4))
            exact k112 S5 G_S5 F_S5 (by omega) ⟨by omega, by omega, by omega⟩ (by rw [show S5 1070 5 = S0 1070 3 by omega]; exact (zt_R0 (by omega)).symm) (by rw [show S5 1070 5 = S0 1070 3 by omega]; omega) (by rw [show S5 1070 3 = S5 1070 5 by omega])
      · skip
        refine zz_aload_n (x := 1070) rfl zd_11_7_76 ?_
        refine zz_iconst zd_11_7_77 ?_
        refine zz_puti zd_11_7_78 zf_Text_28 zT_1070 rfl (zz_ltn hn rfl) (fun S24 qS24 => ?_)
        have G_S24 := zz_G.put G_S5 qS24 (-2147483648) 2147483647 rfl (by omega)
        have F_S24 := zz_fr.puts F_S5 qS24 rfl
        refine zz_goto zd_11_7_81 ?_
        have e25 : S24 1070 3 = S0 1070 3 := (zz_ro qS24 (fun h => absurd h.2 (by decide)) (zz_ro qS5 (fun h => absurd h.2 (by decide)) (zz_ro qS4 (fun h => absurd h.2 (by decide)) rfl)))
        have e26 : S24 1070 4 = 0 := (zz_rs qS24)
        have e27 : S24 1070 5 = S0 1070 3 := (zz_ro qS24 (fun h => absurd h.2 (by decide)) (zz_ro qS5 (fun h => absurd h.2 (by decide)) (zz_rs qS4)))
        have e28 : S24 1070 6 = 0 := (zz_ro qS24 (fun h => absurd h.2 (by decide)) (zz_rs qS5))
        have hq9 : S0 1070 3 = zt_R 32 32 (S0 1071) (S0 1070 2) (S0 1070 3) := (zt_R0 (by omega)).symm
        have ht9 := zt_tk0 (f := (S0 1071)) (e := S0 1070 2) (p := S0 1070 3) hq9 (by omega)
        exact zz_vret zd_11_7_281 rfl (Nat.zero_le _) (Nat.zero_le _) ⟨_, rfl, G_S24, F_S24, (by have hc9 := zt_cox (s := S24 1070 4) (w := zt_wl (S0 1071) (S24 1070 5) (S24 1070 3) 20); rw [hc9.1 (by omega)]; exact ht9.1.symm), by omega, by omega, by omega, by omega, by omega, by omega, by omega, ⟨(by rw [zt_kn0 ht9.1]; exact zt_k4x.1 (by omega)), by omega, by omega, by omega, by omega, fun h => by omega, fun h => absurd h (by omega)⟩⟩
  · refine zz_aload_n (x := 1070) rfl zd_11_7_11 ?_
    refine zz_getr (kd := 0) (z := 1071) zd_11_7_12 zf_Text_9 zT_1070 rfl (zz_ltn hn rfl) (zz_G.eq G_S0 1070 0 1071 rfl rfl) (by decide) 1071 rfl ?_
    refine zz_aload_n (x := 1070) rfl zd_11_7_15 ?_
    refine zz_geti (z := S0 1070 3) zd_11_7_16 zf_Text_25 zT_1070 rfl (zz_ltn hn rfl) rfl ?_
    have g29 := zz_G.r G_S0 1071 ((S0 1070 3).toNat) 0 65535 rfl rfl
    refine zz_cald (z := S0 1071 ((S0 1070 3).toNat)) zd_11_7_19 zT_1071 rfl (zz_ltn hn rfl) (by decide) (by omega) rfl ?_
    refine zz_bipush (by decide) zd_11_7_20 ?_
    refine zz_icmp_ne (by omega) (by omega) zd_11_7_22 (fun c30 => ?_) (fun c30 => ?_)
    · refine zz_aload_n (x := 1070) rfl zd_11_7_38 ?_
      refine zz_aload_n (x := 1070) rfl zd_11_7_39 ?_
      refine zz_geti (z := S0 1070 3) zd_11_7_40 zf_Text_25 zT_1070 rfl (zz_ltn hn rfl) rfl ?_
      refine zz_puti zd_11_7_43 zf_Text_31 zT_1070 rfl (zz_ltn hn rfl) (fun S31 qS31 => ?_)
      have G_S31 := zz_G.put G_S0 qS31 0 1500 rfl (by omega)
      have F_S31 := zz_fr.puts F_S0 qS31 rfl
      refine zz_aload_n (x := 1070) rfl zd_11_7_46 ?_
      refine zz_iconst zd_11_7_47 ?_
      refine zz_puti zd_11_7_48 zf_Text_34 zT_1070 rfl (zz_ltn hn rfl) (fun S32 qS32 => ?_)
      have G_S32 := zz_G.put G_S31 qS32 (-2147483648) 2147483647 rfl (by omega)
      have F_S32 := zz_fr.puts F_S31 qS32 rfl
      refine zz_aload_n (x := 1070) rfl zd_11_7_51 ?_
      refine zz_geti (z := S0 1070 3) zd_11_7_52 zf_Text_25 zT_1070 rfl (zz_ltn hn rfl) (zz_ro qS32 (fun h => absurd h.2 (by decide)) (zz_ro qS31 (fun h => absurd h.2 (by decide)) rfl)) ?_
      refine zz_aload_n (x := 1070) rfl zd_11_7_55 ?_
      refine zz_geti (z := S0 1070 2) zd_11_7_56 zf_Text_22 zT_1070 rfl (zz_ltn hn rfl) (zz_ro qS32 (fun h => absurd h.2 (by decide)) (zz_ro qS31 (fun h => absurd h.2 (by decide)) rfl)) ?_
      refine zz_icmp_ge (by omega) (by omega) zd_11_7_59 (fun c33 => ?_) (fun c33 => ?_)
      · skip
        refine zz_aload_n (x := 1070) rfl zd_11_7_76 ?_
        refine zz_iconst zd_11_7_77 ?_
        refine zz_puti zd_11_7_78 zf_Text_28 zT_1070 rfl (zz_ltn hn rfl) (fun S34 qS34 => ?_)
        have G_S34 := zz_G.put G_S32 qS34 (-2147483648) 2147483647 rfl (by omega)
        have F_S34 := zz_fr.puts F_S32 qS34 rfl
        refine zz_goto zd_11_7_81 ?_
        have e35 : S34 1070 3 = S0 1070 3 := (zz_ro qS34 (fun h => absurd h.2 (by decide)) (zz_ro qS32 (fun h => absurd h.2 (by decide)) (zz_ro qS31 (fun h => absurd h.2 (by decide)) rfl)))
        have e36 : S34 1070 4 = 0 := (zz_rs qS34)
        have e37 : S34 1070 5 = S0 1070 3 := (zz_ro qS34 (fun h => absurd h.2 (by decide)) (zz_ro qS32 (fun h => absurd h.2 (by decide)) (zz_rs qS31)))
        have e38 : S34 1070 6 = 0 := (zz_ro qS34 (fun h => absurd h.2 (by decide)) (zz_rs qS32))
        have hq9 : S0 1070 3 = zt_R 32 32 (S0 1071) (S0 1070 2) (S0 1070 3) := (zt_R0 (by omega)).symm
        have ht9 := zt_tk0 (f := (S0 1071)) (e := S0 1070 2) (p := S0 1070 3) hq9 (by omega)
        exact zz_vret zd_11_7_281 rfl (Nat.zero_le _) (Nat.zero_le _) ⟨_, rfl, G_S34, F_S34, (by have hc9 := zt_cox (s := S34 1070 4) (w := zt_wl (S0 1071) (S34 1070 5) (S34 1070 3) 20); rw [hc9.1 (by omega)]; exact ht9.1.symm), by omega, by omega, by omega, by omega, by omega, by omega, by omega, ⟨(by rw [zt_kn0 ht9.1]; exact zt_k4x.1 (by omega)), by omega, by omega, by omega, by omega, fun h => by omega, fun h => absurd h (by omega)⟩⟩
      · refine zz_aload_n (x := 1070) rfl zd_11_7_62 ?_
        refine zz_getr (kd := 0) (z := 1071) zd_11_7_63 zf_Text_9 zT_1070 rfl (zz_ltn hn rfl) (zz_G.eq G_S32 1070 0 1071 rfl rfl) (by decide) 1071 rfl ?_
        refine zz_aload_n (x := 1070) rfl zd_11_7_66 ?_
        refine zz_geti (z := S0 1070 3) zd_11_7_67 zf_Text_25 zT_1070 rfl (zz_ltn hn rfl) (zz_ro qS32 (fun h => absurd h.2 (by decide)) (zz_ro qS31 (fun h => absurd h.2 (by decide)) rfl)) ?_
        refine zz_cald (z := S0 1071 ((S0 1070 3).toNat)) zd_11_7_70 zT_1071 rfl (zz_ltn hn rfl) (by decide) (by omega) (zz_ro qS32 (fun h => absurd h.1 (by decide)) (zz_ro qS31 (fun h => absurd h.1 (by decide)) rfl)) ?_
        refine zz_bipush (by decide) zd_11_7_71 ?_
        refine zz_icmp_ne (by omega) (by omega) zd_11_7_73 (fun c39 => ?_) (fun c39 => ?_)
        · refine zz_aload_n (x := 1070) rfl zd_11_7_84 ?_
          refine zz_getr (kd := 0) (z := 1071) zd_11_7_85 zf_Text_9 zT_1070 rfl (zz_ltn hn rfl) (zz_G.eq G_S32 1070 0 1071 rfl rfl) (by decide) 1071 rfl ?_
          refine zz_aload_n (x := 1070) rfl zd_11_7_88 ?_
          refine zz_geti (z := S0 1070 3) zd_11_7_89 zf_Text_25 zT_1070 rfl (zz_ltn hn rfl) (zz_ro qS32 (fun h => absurd h.2 (by decide)) (zz_ro qS31 (fun h => absurd h.2 (by decide)) rfl)) ?_
          refine zz_cald (z := S0 1071 ((S0 1070 3).toNat)) zd_11_7_92 zT_1071 rfl (zz_ltn hn rfl) (by decide) (by omega) (zz_ro qS32 (fun h => absurd h.1 (by decide)) (zz_ro qS31 (fun h => absurd h.1 (by decide)) rfl)) ?_
          refine zz_bipush (by decide) zd_11_7_93 ?_
          refine zz_icmp_lt (by omega) (by omega) zd_11_7_95 (fun c40 => ?_) (fun c40 => ?_)
          · have e41 : S32 1070 3 = S0 1070 3 := (zz_ro qS32 (fun h => absurd h.2 (by decide)) (zz_ro qS31 (fun h => absurd h.2 (by decide)) rfl))
            have e42 : S32 1070 5 = S0 1070 3 := (zz_ro qS32 (fun h => absurd h.2 (by decide)) (zz_rs qS31))
            have e43 : S32 1070 6 = 0 := (zz_rs qS32)
            exact k172 S32 G_S32 F_S32 (by omega) ⟨by omega, by omega, by omega⟩ (by rw [show S32 1070 5 = S0 1070 3 by omega]; exact (zt_R0 (by omega)).symm) (by rw [show S32 1070 5 = S0 1070 3 by omega]; omega) (by rw [show S32 1070 3 = S32 1070 5 by omega]) (zt_nb0 (by omega) (by omega)) (fun h9 => by omega) (fun _ => by rw [show S32 1070 3 = S32 1070 5 by omega, Int.sub_self]; exact (show S32 1070 6 = 0 by omega))
          · refine zz_aload_n (x := 1070) rfl zd_11_7_98 ?_
            refine zz_getr (kd := 0) (z := 1071) zd_11_7_99 zf_Text_9 zT_1070 rfl (zz_ltn hn rfl) (zz_G.eq G_S32 1070 0 1071 rfl rfl) (by decide) 1071 rfl ?_
            refine zz_aload_n (x := 1070) rfl zd_11_7_102 ?_
            refine zz_geti (z := S0 1070 3) zd_11_7_103 zf_Text_25 zT_1070 rfl (zz_ltn hn rfl) (zz_ro qS32 (fun h => absurd h.2 (by decide)) (zz_ro qS31 (fun h => absurd h.2 (by decide)) rfl)) ?_
            refine zz_cald (z := S0 1071 ((S0 1070 3).toNat)) zd_11_7_106 zT_1071 rfl (zz_ltn hn rfl) (by decide) (by omega) (zz_ro qS32 (fun h => absurd h.1 (by decide)) (zz_ro qS31 (fun h => absurd h.1 (by decide)) rfl)) ?_
            refine zz_bipush (by decide) zd_11_7_107 ?_
            refine zz_icmp_gt (by omega) (by omega) zd_11_7_109 (fun c44 => ?_) (fun c44 => ?_)
            · have e45 : S32 1070 3 = S0 1070 3 := (zz_ro qS32 (fun h => absurd h.2 (by decide)) (zz_ro qS31 (fun h => absurd h.2 (by decide)) rfl))
              have e46 : S32 1070 5 = S0 1070 3 := (zz_ro qS32 (fun h => absurd h.2 (by decide)) (zz_rs qS31))
              have e47 : S32 1070 6 = 0 := (zz_rs qS32)
              exact k172 S32 G_S32 F_S32 (by omega) ⟨by omega, by omega, by omega⟩ (by rw [show S32 1070 5 = S0 1070 3 by omega]; exact (zt_R0 (by omega)).symm) (by rw [show S32 1070 5 = S0 1070 3 by omega]; omega) (by rw [show S32 1070 3 = S32 1070 5 by omega]) (zt_nb0 (by omega) (by omega)) (fun h9 => by omega) (fun _ => by rw [show S32 1070 3 = S32 1070 5 by omega, Int.sub_self]; exact (show S32 1070 6 = 0 by omega))
            · have e48 : S32 1070 3 = S0 1070 3 := (zz_ro qS32 (fun h => absurd h.2 (by decide)) (zz_ro qS31 (fun h => absurd h.2 (by decide)) rfl))
              have e49 : S32 1070 5 = S0 1070 3 := (zz_ro qS32 (fun h => absurd h.2 (by decide)) (zz_rs qS31))
              exact k112 S32 G_S32 F_S32 (by omega) ⟨by omega, by omega, by omega⟩ (by rw [show S32 1070 5 = S0 1070 3 by omega]; exact (zt_R0 (by omega)).symm) (by rw [show S32 1070 5 = S0 1070 3 by omega]; omega) (by rw [show S32 1070 3 = S32 1070 5 by omega])
        · skip
          refine zz_aload_n (x := 1070) rfl zd_11_7_76 ?_
          refine zz_iconst zd_11_7_77 ?_
          refine zz_puti zd_11_7_78 zf_Text_28 zT_1070 rfl (zz_ltn hn rfl) (fun S50 qS50 => ?_)
          have G_S50 := zz_G.put G_S32 qS50 (-2147483648) 2147483647 rfl (by omega)
          have F_S50 := zz_fr.puts F_S32 qS50 rfl
          refine zz_goto zd_11_7_81 ?_
          have e51 : S50 1070 3 = S0 1070 3 := (zz_ro qS50 (fun h => absurd h.2 (by decide)) (zz_ro qS32 (fun h => absurd h.2 (by decide)) (zz_ro qS31 (fun h => absurd h.2 (by decide)) rfl)))
          have e52 : S50 1070 4 = 0 := (zz_rs qS50)
          have e53 : S50 1070 5 = S0 1070 3 := (zz_ro qS50 (fun h => absurd h.2 (by decide)) (zz_ro qS32 (fun h => absurd h.2 (by decide)) (zz_rs qS31)))
          have e54 : S50 1070 6 = 0 := (zz_ro qS50 (fun h => absurd h.2 (by decide)) (zz_rs qS32))
          have hq9 : S0 1070 3 = zt_R 32 32 (S0 1071) (S0 1070 2) (S0 1070 3) := (zt_R0 (by omega)).symm
          have ht9 := zt_tk0 (f := (S0 1071)) (e := S0 1070 2) (p := S0 1070 3) hq9 (by omega)
          exact zz_vret zd_11_7_281 rfl (Nat.zero_le _) (Nat.zero_le _) ⟨_, rfl, G_S50, F_S50, (by have hc9 := zt_cox (s := S50 1070 4) (w := zt_wl (S0 1071) (S50 1070 5) (S50 1070 3) 20); rw [hc9.1 (by omega)]; exact ht9.1.symm), by omega, by omega, by omega, by omega, by omega, by omega, by omega, ⟨(by rw [zt_kn0 ht9.1]; exact zt_k4x.1 (by omega)), by omega, by omega, by omega, by omega, fun h => by omega, fun h => absurd h (by omega)⟩⟩
    · refine zz_aload_n (x := 1070) rfl zd_11_7_25 ?_
      refine zz_dup rfl zd_11_7_26 ?_
      refine zz_geti (z := S0 1070 3) zd_11_7_27 zf_Text_25 zT_1070 rfl (zz_ltn hn rfl) rfl ?_
      refine zz_iconst zd_11_7_30 ?_
      refine zz_iadd zd_11_7_31 ?_
      refine zz_puti zd_11_7_32 zf_Text_25 zT_1070 rfl (zz_ltn hn rfl) (fun S55 qS55 => ?_)
      have G_S55 := zz_G.put G_S0 qS55 0 1500 rfl (by omega)
      have F_S55 := zz_fr.puts F_S0 qS55 rfl
      refine zz_goto zd_11_7_35 ?_
      have e56 : S55 1070 3 = (S0 1070 3) + 1 := (zz_rs qS55)
      exact k0 S55 G_S55 F_S55 (by omega) (by omega) (by omega) (by rw [show S55 1070 3 = S0 1070 3 + 1 by omega, zt_RS (by omega) (by omega)])
theorem zk_Assembler_35 : mm_Vl "TensorForge$Assembler" 35 6 0 zy_nextToken_11_7 := ⟨zyw_nextToken_11_7, (R_Text, F_Text, 7), rfl, mm_tb_1 569 (by decide +kernel) rfl, mm_tb_1 570 (by decide +kernel) rfl, mm_tb_1 571 (by decide +kernel) rfl⟩
theorem zf_Assembler_38 : mm_Fl "TensorForge$Assembler" 38 6 4 .int false := ⟨R_Text, F_Text, 7, t_Text, rfl, i_Text, by decide, mm_tb_1 290 (by decide +kernel) rfl, rfl, t_Text_ok, n_Text, rfl, by decide +kernel⟩
abbrev zy_readInstruction_2_3 : mm_Y := (⟨"TensorForge$Assembler", "readInstruction", "()Z"⟩, prog_2_method_3_code, 3, (some .boolean))
theorem zyw_readInstruction_2_3 : mm_Yw zy_readInstruction_2_3 0 := ⟨mm_tb_1 576 (by decide +kernel) rfl, mm_tb_1 8 (by decide +kernel) rfl, ⟨by decide, by decide⟩, by decide +kernel⟩
abbrev zy_kindTold_2_4 : mm_Y := (⟨"TensorForge$Assembler", "kindTold", "()I"⟩, prog_2_method_4_code, 2, (some .int))
theorem zyw_kindTold_2_4 : mm_Yw zy_kindTold_2_4 0 := ⟨mm_tb_1 580 (by decide +kernel) rfl, mm_tb_1 8 (by decide +kernel) rfl, ⟨by decide, by decide⟩, by decide +kernel⟩
abbrev zy_nameOf_12_12 : mm_Y := (⟨"TensorForge$Words", "nameOf", "(I)Ljava/lang/String;"⟩, prog_12_method_12_code, 1, (some (.object "java/lang/String")))
theorem zyw_nameOf_12_12 : mm_Yw zy_nameOf_12_12 1 := ⟨mm_tb_1 583 (by decide +kernel) rfl, mm_tb_1 20 (by decide +kernel) rfl, ⟨by decide, by decide⟩, by decide +kernel⟩
theorem zd_12_12_1 : zz_W zy_nameOf_12_12 1 78 1 9 #[51, 54, 57, 60, 63, 66, 69, 72, 75] := ⟨51, by decide +kernel⟩
theorem zg_2_2_38 : zq_at zy_readInto_2_2.2.1 38 42 ∧ zq_at zy_readInto_2_2.2.1 39 180 ∧ zq_at zy_readInto_2_2.2.1 40 0 ∧ zq_at zy_readInto_2_2.2.1 41 9 ∧ zq_at zy_readInto_2_2.2.1 42 180 ∧ zq_at zy_readInto_2_2.2.1 43 0 ∧ zq_at zy_readInto_2_2.2.1 44 38 ∧ zq_at zy_readInto_2_2.2.1 45 153 ∧ zq_at zy_readInto_2_2.2.1 46 0 ∧ zq_at zy_readInto_2_2.2.1 47 51 ∧ zq_at zy_readInto_2_2.2.1 96 132 ∧ zq_at zy_readInto_2_2.2.1 97 2 ∧ zq_at zy_readInto_2_2.2.1 98 1 ∧ zq_at zy_readInto_2_2.2.1 99 167 ∧ zq_at zy_readInto_2_2.2.1 100 255 ∧ zq_at zy_readInto_2_2.2.1 101 171 ∧ zq_at zy_readInto_2_2.2.1 48 42 ∧ zq_at zy_readInto_2_2.2.1 49 180 ∧ zq_at zy_readInto_2_2.2.1 50 0 ∧ zq_at zy_readInto_2_2.2.1 51 15 ∧ zq_at zy_readInto_2_2.2.1 52 17 ∧ zq_at zy_readInto_2_2.2.1 53 2 ∧ zq_at zy_readInto_2_2.2.1 54 88 := by decide +kernel
theorem zd_2_2_38 : zz_D zy_readInto_2_2 38 (.aload_n 0) 1 39 := ⟨zq_42 zg_2_2_38.1, rfl⟩
theorem zd_2_2_39 : zz_D zy_readInto_2_2 39 (.getfield 9) 3 42 := ⟨zq_180 zg_2_2_38.2.1 zg_2_2_38.2.2.1 zg_2_2_38.2.2.2.1 rfl, rfl⟩
theorem zd_2_2_42 : zz_D zy_readInto_2_2 42 (.getfield 38) 3 45 := ⟨zq_180 zg_2_2_38.2.2.2.2.1 zg_2_2_38.2.2.2.2.2.1 zg_2_2_38.2.2.2.2.2.2.1 rfl, rfl⟩
theorem zd_2_2_45 : zz_B zy_readInto_2_2 45 (Instr.ifCond .eq) 96 48 := ⟨51, zq_153 zg_2_2_38.2.2.2.2.2.2.2.1 zg_2_2_38.2.2.2.2.2.2.2.2.1 zg_2_2_38.2.2.2.2.2.2.2.2.2.1 (by decide), rfl, rfl⟩
theorem zd_2_2_96 : zz_D zy_readInto_2_2 96 (.iinc 2 1) 3 99 := ⟨zq_132 zg_2_2_38.2.2.2.2.2.2.2.2.2.2.1 zg_2_2_38.2.2.2.2.2.2.2.2.2.2.2.1 zg_2_2_38.2.2.2.2.2.2.2.2.2.2.2.2.1 (by decide), rfl⟩
theorem zd_2_2_99 : zz_B zy_readInto_2_2 99 Instr.goto 14 102 := ⟨(-85), zq_167 zg_2_2_38.2.2.2.2.2.2.2.2.2.2.2.2.2.1 zg_2_2_38.2.2.2.2.2.2.2.2.2.2.2.2.2.2.1 zg_2_2_38.2.2.2.2.2.2.2.2.2.2.2.2.2.2.2.1 (by decide), rfl, rfl⟩
theorem zd_2_2_48 : zz_D zy_readInto_2_2 48 (.aload_n 0) 1 49 := ⟨zq_42 zg_2_2_38.2.2.2.2.2.2.2.2.2.2.2.2.2.2.2.2.1, rfl⟩
theorem zd_2_2_49 : zz_D zy_readInto_2_2 49 (.getfield 15) 3 52 := ⟨zq_180 zg_2_2_38.2.2.2.2.2.2.2.2.2.2.2.2.2.2.2.2.2.1 zg_2_2_38.2.2.2.2.2.2.2.2.2.2.2.2.2.2.2.2.2.2.1 zg_2_2_38.2.2.2.2.2.2.2.2.2.2.2.2.2.2.2.2.2.2.2.1 rfl, rfl⟩
theorem zd_2_2_52 : zz_D zy_readInto_2_2 52 (.sipush 600) 3 55 := ⟨zq_17 zg_2_2_38.2.2.2.2.2.2.2.2.2.2.2.2.2.2.2.2.2.2.2.2.1 zg_2_2_38.2.2.2.2.2.2.2.2.2.2.2.2.2.2.2.2.2.2.2.2.2.1 zg_2_2_38.2.2.2.2.2.2.2.2.2.2.2.2.2.2.2.2.2.2.2.2.2.2 (by decide), rfl⟩
theorem zg_2_2_55 : zq_at zy_readInto_2_2.2.1 55 162 ∧ zq_at zy_readInto_2_2.2.1 56 0 ∧ zq_at zy_readInto_2_2.2.1 57 19 ∧ zq_at zy_readInto_2_2.2.1 74 28 ∧ zq_at zy_readInto_2_2.2.1 75 172 ∧ zq_at zy_readInto_2_2.2.1 58 42 ∧ zq_at zy_readInto_2_2.2.1 59 180 ∧ zq_at zy_readInto_2_2.2.1 60 0 ∧ zq_at zy_readInto_2_2.2.1 61 15 ∧ zq_at zy_readInto_2_2.2.1 62 43 ∧ zq_at zy_readInto_2_2.2.1 63 190 ∧ zq_at zy_readInto_2_2.2.1 64 162 ∧ zq_at zy_readInto_2_2.2.1 65 0 ∧ zq_at zy_readInto_2_2.2.1 66 10 ∧ zq_at zy_readInto_2_2.2.1 67 42 ∧ zq_at zy_readInto_2_2.2.1 68 182 ∧ zq_at zy_readInto_2_2.2.1 69 0 ∧ zq_at zy_readInto_2_2.2.1 70 41 := by decide +kernel
theorem zd_2_2_55 : zz_B zy_readInto_2_2 55 (Instr.if_icmp .ge) 74 58 := ⟨19, zq_162 zg_2_2_55.1 zg_2_2_55.2.1 zg_2_2_55.2.2.1 (by decide), rfl, rfl⟩
theorem zd_2_2_74 : zz_D zy_readInto_2_2 74 (.iload_n 2) 1 75 := ⟨zq_28 zg_2_2_55.2.2.2.1, rfl⟩
theorem zd_2_2_75 : zz_D zy_readInto_2_2 75 (.ireturn) 1 76 := ⟨zq_172 zg_2_2_55.2.2.2.2.1, rfl⟩
theorem zd_2_2_58 : zz_D zy_readInto_2_2 58 (.aload_n 0) 1 59 := ⟨zq_42 zg_2_2_55.2.2.2.2.2.1, rfl⟩
theorem zd_2_2_59 : zz_D zy_readInto_2_2 59 (.getfield 15) 3 62 := ⟨zq_180 zg_2_2_55.2.2.2.2.2.2.1 zg_2_2_55.2.2.2.2.2.2.2.1 zg_2_2_55.2.2.2.2.2.2.2.2.1 rfl, rfl⟩
theorem zd_2_2_62 : zz_D zy_readInto_2_2 62 (.aload_n 1) 1 63 := ⟨zq_43 zg_2_2_55.2.2.2.2.2.2.2.2.2.1, rfl⟩
theorem zd_2_2_63 : zz_D zy_readInto_2_2 63 (.arraylength) 1 64 := ⟨zq_190 zg_2_2_55.2.2.2.2.2.2.2.2.2.2.1, rfl⟩
theorem zd_2_2_64 : zz_B zy_readInto_2_2 64 (Instr.if_icmp .ge) 74 67 := ⟨10, zq_162 zg_2_2_55.2.2.2.2.2.2.2.2.2.2.2.1 zg_2_2_55.2.2.2.2.2.2.2.2.2.2.2.2.1 zg_2_2_55.2.2.2.2.2.2.2.2.2.2.2.2.2.1 (by decide), rfl, rfl⟩
theorem zd_2_2_67 : zz_D zy_readInto_2_2 67 (.aload_n 0) 1 68 := ⟨zq_42 zg_2_2_55.2.2.2.2.2.2.2.2.2.2.2.2.2.2.1, rfl⟩
theorem zd_2_2_68 : zz_D zy_readInto_2_2 68 (.invokevirtual 41) 3 71 := ⟨zq_182 zg_2_2_55.2.2.2.2.2.2.2.2.2.2.2.2.2.2.2.1 zg_2_2_55.2.2.2.2.2.2.2.2.2.2.2.2.2.2.2.2.1 zg_2_2_55.2.2.2.2.2.2.2.2.2.2.2.2.2.2.2.2.2 rfl, rfl⟩
theorem zg_2_3_0 : zq_at zy_readInstruction_2_3.2.1 0 42 ∧ zq_at zy_readInstruction_2_3.2.1 1 182 ∧ zq_at zy_readInstruction_2_3.2.1 2 0 ∧ zq_at zy_readInstruction_2_3.2.1 3 44 := by decide +kernel
theorem zd_2_3_0 : zz_D zy_readInstruction_2_3 0 (.aload_n 0) 1 1 := ⟨zq_42 zg_2_3_0.1, rfl⟩
theorem zd_2_3_1 : zz_D zy_readInstruction_2_3 1 (.invokevirtual 44) 3 4 := ⟨zq_182 zg_2_3_0.2.1 zg_2_3_0.2.2.1 zg_2_3_0.2.2.2 rfl, rfl⟩
theorem zg_2_4_0 : zq_at zy_kindTold_2_4.2.1 0 4 ∧ zq_at zy_kindTold_2_4.2.1 1 60 ∧ zq_at zy_kindTold_2_4.2.1 2 27 ∧ zq_at zy_kindTold_2_4.2.1 3 16 ∧ zq_at zy_kindTold_2_4.2.1 4 9 ∧ zq_at zy_kindTold_2_4.2.1 5 163 ∧ zq_at zy_kindTold_2_4.2.1 6 0 ∧ zq_at zy_kindTold_2_4.2.1 7 25 ∧ zq_at zy_kindTold_2_4.2.1 30 2 ∧ zq_at zy_kindTold_2_4.2.1 31 172 ∧ zq_at zy_kindTold_2_4.2.1 8 42 ∧ zq_at zy_kindTold_2_4.2.1 9 180 ∧ zq_at zy_kindTold_2_4.2.1 10 0 ∧ zq_at zy_kindTold_2_4.2.1 11 9 ∧ zq_at zy_kindTold_2_4.2.1 12 27 ∧ zq_at zy_kindTold_2_4.2.1 13 184 ∧ zq_at zy_kindTold_2_4.2.1 14 0 ∧ zq_at zy_kindTold_2_4.2.1 15 57 := by decide +kernel
theorem zd_2_4_0 : zz_D zy_kindTold_2_4 0 (.iconst 1) 1 1 := ⟨zq_4 zg_2_4_0.1, rfl⟩
theorem zd_2_4_1 : zz_D zy_kindTold_2_4 1 (.istore_n 1) 1 2 := ⟨zq_60 zg_2_4_0.2.1, rfl⟩
theorem zd_2_4_2 : zz_D zy_kindTold_2_4 2 (.iload_n 1) 1 3 := ⟨zq_27 zg_2_4_0.2.2.1, rfl⟩
theorem zd_2_4_3 : zz_D zy_kindTold_2_4 3 (.bipush 9) 2 5 := ⟨zq_16 zg_2_4_0.2.2.2.1 zg_2_4_0.2.2.2.2.1 (by decide), rfl⟩
theorem zd_2_4_5 : zz_B zy_kindTold_2_4 5 (Instr.if_icmp .gt) 30 8 := ⟨25, zq_163 zg_2_4_0.2.2.2.2.2.1 zg_2_4_0.2.2.2.2.2.2.1 zg_2_4_0.2.2.2.2.2.2.2.1 (by decide), rfl, rfl⟩
theorem zd_2_4_30 : zz_D zy_kindTold_2_4 30 (.iconst (-1)) 1 31 := ⟨zq_2 zg_2_4_0.2.2.2.2.2.2.2.2.1, rfl⟩
theorem zd_2_4_31 : zz_D zy_kindTold_2_4 31 (.ireturn) 1 32 := ⟨zq_172 zg_2_4_0.2.2.2.2.2.2.2.2.2.1, rfl⟩
theorem zd_2_4_8 : zz_D zy_kindTold_2_4 8 (.aload_n 0) 1 9 := ⟨zq_42 zg_2_4_0.2.2.2.2.2.2.2.2.2.2.1, rfl⟩
theorem zd_2_4_9 : zz_D zy_kindTold_2_4 9 (.getfield 9) 3 12 := ⟨zq_180 zg_2_4_0.2.2.2.2.2.2.2.2.2.2.2.1 zg_2_4_0.2.2.2.2.2.2.2.2.2.2.2.2.1 zg_2_4_0.2.2.2.2.2.2.2.2.2.2.2.2.2.1 rfl, rfl⟩
theorem zd_2_4_12 : zz_D zy_kindTold_2_4 12 (.iload_n 1) 1 13 := ⟨zq_27 zg_2_4_0.2.2.2.2.2.2.2.2.2.2.2.2.2.2.1, rfl⟩
theorem zd_2_4_13 : zz_D zy_kindTold_2_4 13 (.invokestatic 57) 3 16 := ⟨zq_184 zg_2_4_0.2.2.2.2.2.2.2.2.2.2.2.2.2.2.2.1 zg_2_4_0.2.2.2.2.2.2.2.2.2.2.2.2.2.2.2.2.1 zg_2_4_0.2.2.2.2.2.2.2.2.2.2.2.2.2.2.2.2.2 rfl, rfl⟩
theorem zg_12_12_0 : zq_at zy_nameOf_12_12.2.1 0 26 ∧ zq_at zy_nameOf_12_12.2.1 52 18 ∧ zq_at zy_nameOf_12_12.2.1 53 35 ∧ zq_at zy_nameOf_12_12.2.1 54 176 ∧ zq_at zy_nameOf_12_12.2.1 55 18 ∧ zq_at zy_nameOf_12_12.2.1 56 37 ∧ zq_at zy_nameOf_12_12.2.1 57 176 ∧ zq_at zy_nameOf_12_12.2.1 58 18 ∧ zq_at zy_nameOf_12_12.2.1 59 39 ∧ zq_at zy_nameOf_12_12.2.1 60 176 ∧ zq_at zy_nameOf_12_12.2.1 61 18 ∧ zq_at zy_nameOf_12_12.2.1 62 41 ∧ zq_at zy_nameOf_12_12.2.1 63 176 ∧ zq_at zy_nameOf_12_12.2.1 64 18 ∧ zq_at zy_nameOf_12_12.2.1 65 43 ∧ zq_at zy_nameOf_12_12.2.1 66 176 ∧ zq_at zy_nameOf_12_12.2.1 67 18 ∧ zq_at zy_nameOf_12_12.2.1 68 45 ∧ zq_at zy_nameOf_12_12.2.1 69 176 ∧ zq_at zy_nameOf_12_12.2.1 70 18 ∧ zq_at zy_nameOf_12_12.2.1 71 47 ∧ zq_at zy_nameOf_12_12.2.1 72 176 ∧ zq_at zy_nameOf_12_12.2.1 73 18 ∧ zq_at zy_nameOf_12_12.2.1 74 49 := by decide +kernel
theorem zd_12_12_0 : zz_D zy_nameOf_12_12 0 (.iload_n 0) 1 1 := ⟨zq_26 zg_12_12_0.1, rfl⟩
theorem zd_12_12_52 : zz_D zy_nameOf_12_12 52 (.ldc 35) 2 54 := ⟨zq_18 zg_12_12_0.2.1 zg_12_12_0.2.2.1, rfl⟩
theorem zd_12_12_54 : zz_D zy_nameOf_12_12 54 (.areturn) 1 55 := ⟨zq_176 zg_12_12_0.2.2.2.1, rfl⟩
theorem zd_12_12_55 : zz_D zy_nameOf_12_12 55 (.ldc 37) 2 57 := ⟨zq_18 zg_12_12_0.2.2.2.2.1 zg_12_12_0.2.2.2.2.2.1, rfl⟩
theorem zd_12_12_57 : zz_D zy_nameOf_12_12 57 (.areturn) 1 58 := ⟨zq_176 zg_12_12_0.2.2.2.2.2.2.1, rfl⟩
theorem zd_12_12_58 : zz_D zy_nameOf_12_12 58 (.ldc 39) 2 60 := ⟨zq_18 zg_12_12_0.2.2.2.2.2.2.2.1 zg_12_12_0.2.2.2.2.2.2.2.2.1, rfl⟩
theorem zd_12_12_60 : zz_D zy_nameOf_12_12 60 (.areturn) 1 61 := ⟨zq_176 zg_12_12_0.2.2.2.2.2.2.2.2.2.1, rfl⟩
theorem zd_12_12_61 : zz_D zy_nameOf_12_12 61 (.ldc 41) 2 63 := ⟨zq_18 zg_12_12_0.2.2.2.2.2.2.2.2.2.2.1 zg_12_12_0.2.2.2.2.2.2.2.2.2.2.2.1, rfl⟩
theorem zd_12_12_63 : zz_D zy_nameOf_12_12 63 (.areturn) 1 64 := ⟨zq_176 zg_12_12_0.2.2.2.2.2.2.2.2.2.2.2.2.1, rfl⟩
theorem zd_12_12_64 : zz_D zy_nameOf_12_12 64 (.ldc 43) 2 66 := ⟨zq_18 zg_12_12_0.2.2.2.2.2.2.2.2.2.2.2.2.2.1 zg_12_12_0.2.2.2.2.2.2.2.2.2.2.2.2.2.2.1, rfl⟩
theorem zd_12_12_66 : zz_D zy_nameOf_12_12 66 (.areturn) 1 67 := ⟨zq_176 zg_12_12_0.2.2.2.2.2.2.2.2.2.2.2.2.2.2.2.1, rfl⟩
theorem zd_12_12_67 : zz_D zy_nameOf_12_12 67 (.ldc 45) 2 69 := ⟨zq_18 zg_12_12_0.2.2.2.2.2.2.2.2.2.2.2.2.2.2.2.2.1 zg_12_12_0.2.2.2.2.2.2.2.2.2.2.2.2.2.2.2.2.2.1, rfl⟩
theorem zd_12_12_69 : zz_D zy_nameOf_12_12 69 (.areturn) 1 70 := ⟨zq_176 zg_12_12_0.2.2.2.2.2.2.2.2.2.2.2.2.2.2.2.2.2.2.1, rfl⟩
theorem zd_12_12_70 : zz_D zy_nameOf_12_12 70 (.ldc 47) 2 72 := ⟨zq_18 zg_12_12_0.2.2.2.2.2.2.2.2.2.2.2.2.2.2.2.2.2.2.2.1 zg_12_12_0.2.2.2.2.2.2.2.2.2.2.2.2.2.2.2.2.2.2.2.2.1, rfl⟩
theorem zd_12_12_72 : zz_D zy_nameOf_12_12 72 (.areturn) 1 73 := ⟨zq_176 zg_12_12_0.2.2.2.2.2.2.2.2.2.2.2.2.2.2.2.2.2.2.2.2.2.1, rfl⟩
theorem zd_12_12_73 : zz_D zy_nameOf_12_12 73 (.ldc 49) 2 75 := ⟨zq_18 zg_12_12_0.2.2.2.2.2.2.2.2.2.2.2.2.2.2.2.2.2.2.2.2.2.2.1 zg_12_12_0.2.2.2.2.2.2.2.2.2.2.2.2.2.2.2.2.2.2.2.2.2.2.2, rfl⟩
theorem zg_12_12_75 : zq_at zy_nameOf_12_12.2.1 75 176 ∧ zq_at zy_nameOf_12_12.2.1 76 18 ∧ zq_at zy_nameOf_12_12.2.1 77 51 ∧ zq_at zy_nameOf_12_12.2.1 78 176 ∧ zq_at zy_nameOf_12_12.2.1 79 18 ∧ zq_at zy_nameOf_12_12.2.1 80 53 ∧ zq_at zy_nameOf_12_12.2.1 81 176 := by decide +kernel
theorem zd_12_12_75 : zz_D zy_nameOf_12_12 75 (.areturn) 1 76 := ⟨zq_176 zg_12_12_75.1, rfl⟩
theorem zd_12_12_76 : zz_D zy_nameOf_12_12 76 (.ldc 51) 2 78 := ⟨zq_18 zg_12_12_75.2.1 zg_12_12_75.2.2.1, rfl⟩
theorem zd_12_12_78 : zz_D zy_nameOf_12_12 78 (.areturn) 1 79 := ⟨zq_176 zg_12_12_75.2.2.2.1, rfl⟩
theorem zd_12_12_79 : zz_D zy_nameOf_12_12 79 (.ldc 53) 2 81 := ⟨zq_18 zg_12_12_75.2.2.2.2.1 zg_12_12_75.2.2.2.2.2.1, rfl⟩
theorem zd_12_12_81 : zz_D zy_nameOf_12_12 81 (.areturn) 1 82 := ⟨zq_176 zg_12_12_75.2.2.2.2.2.2, rfl⟩

-- TensorForge$Compiler open (I[J)V
abbrev zr_open_3_2 : Room := { frames := 1, cells := 0, slots := 0, locals := 15 }
def zp_open_3_2 (p0 : Int) (p1 : Int) (S0 : zz_S) : zz_S → Prop := fun S => zz_G S ∧ zz_fr [(1076, 0), (1076, 1), (1076, 2)] [] (fun _ _ => False) S0 S ∧ (S 1076 1 = 0)
theorem zc_open_3_2 {g : mm_G} {l : Launch} (p0 : Int) (p1 : Int) (S0 : zz_S) (n : Nat) (hn : zz_end ≤ n) (G_S0 : zz_G S0) (hp0 : (-2147483648) ≤ p0 ∧ p0 ≤ 2147483647) (hp1 : 0 ≤ p1 ∧ p1 ≤ 1) : mm_Met g l zy_open_3_2 zr_open_3_2 [.ref 1076, zi p0, .ref (zz_rf 4 p1)] (zz_M S0 n) n (zz_QV n (zp_open_3_2 p0 p1 S0)) := by
  refine zz_enter (by decide) (Nat.le_of_ble_eq_true rfl) (zz_less (ls1 := [some (.ref 1076), some (zi p0), some (.ref (zz_rf 4 p1))]) ⟨rfl, ⟨rfl, ⟨rfl, trivial⟩⟩⟩ ?_)
  have F_S0 : zz_fr [(1076, 0), (1076, 1), (1076, 2)] [] (fun _ _ => False) S0 S0 := zz_fr.refl
  have b_p1 := zz_rf4 (z := p1) (by omega)
  refine zz_aload_n (x := 1076) rfl zd_3_2_0 ?_
  refine zz_iconst zd_3_2_1 ?_
  refine zz_bipush (by decide) zd_3_2_2 ?_
  refine zz_iload_n (x := p0) rfl zd_3_2_4 ?_
  refine zz_mmin (by omega) (by omega) zd_3_2_5 zm_Compiler_24 ⟨Nat.le_of_ble_eq_true rfl, Nat.le_of_ble_eq_true rfl⟩ (Nat.zero_le _) (Nat.zero_le _) (fun v1 hv1 => ?_)
  refine zz_mmax (by omega) (by omega) zd_3_2_8 zm_Compiler_30 ⟨Nat.le_of_ble_eq_true rfl, Nat.le_of_ble_eq_true rfl⟩ (Nat.zero_le _) (Nat.zero_le _) (fun v2 hv2 => ?_)
  refine zz_puti zd_3_2_11 zf_Compiler_21 zT_1076 rfl (zz_ltn hn rfl) (fun S3 qS3 => ?_)
  have G_S3 := zz_G.put G_S0 qS3 2 8 rfl (by omega)
  have F_S3 := zz_fr.puts F_S0 qS3 rfl
  refine zz_aload_n (x := 1076) rfl zd_3_2_14 ?_
  refine zz_aload_n (x := zz_rf 4 p1) rfl zd_3_2_15 ?_
  refine zz_putr (kd := 2) p1 zd_3_2_16 zf_Compiler_9 zT_1076 rfl (zz_ltn hn rfl) (by omega) rfl (fun _ => rfl) (fun _ => rfl) (fun S4 qS4 => ?_)
  have G_S4 := zz_G.put G_S3 qS4 0 1 rfl (by omega)
  have F_S4 := zz_fr.puts F_S3 qS4 rfl
  refine zz_aload_n (x := 1076) rfl zd_3_2_19 ?_
  refine zz_iconst zd_3_2_20 ?_
  refine zz_puti zd_3_2_21 zf_Compiler_15 zT_1076 rfl (zz_ltn hn rfl) (fun S5 qS5 => ?_)
  have G_S5 := zz_G.put G_S4 qS5 0 1000000 rfl (by omega)
  have F_S5 := zz_fr.puts F_S4 qS5 rfl
  have e6 : S5 1076 1 = 0 := (zz_rs qS5)
  exact zz_vret zd_3_2_24 rfl (Nat.zero_le _) (Nat.zero_le _) ⟨_, rfl, G_S5, F_S5, by omega⟩
theorem zk_TF_274 : mm_Vl "TensorForge" 274 9 2 zy_open_3_2 := ⟨zyw_open_3_2, (R_Compiler, F_Compiler, 17), rfl, mm_tb_1 1405 (by decide +kernel) rfl, mm_tb_1 1406 (by decide +kernel) rfl, mm_tb_1 1407 (by decide +kernel) rfl⟩
theorem zf_TF_285 : mm_Fl "TensorForge" 285 9 1 .int false := ⟨R_Compiler, F_Compiler, 17, t_Compiler, rfl, i_Compiler, by decide, mm_tb_1 376 (by decide +kernel) rfl, rfl, t_Compiler_ok, n_Compiler, rfl, by decide +kernel⟩
theorem zt_1_23_62 : zz_ThrW zy_compile_1_23 62 126 286 130 := ⟨by decide +kernel, by decide +kernel, by decide +kernel, by decide +kernel, by decide +kernel⟩
theorem zxl_TF_126_286_130 : mm_Xl "TensorForge" 126 286 130 2 := ⟨mm_tb_1 1176 (by decide +kernel) rfl, mm_tb_1 1177 (by decide +kernel) rfl, mm_tb_1 19 (by decide +kernel) rfl, ⟨55, by decide +kernel⟩, zxa_TF_130⟩
abbrev zy_makeLayer_3_3 : mm_Y := (⟨"TensorForge$Compiler", "makeLayer", "(LTensorForge$Network;I)V"⟩, prog_3_method_3_code, 7, none)
theorem zyw_makeLayer_3_3 : mm_Yw zy_makeLayer_3_3 2 := ⟨mm_tb_1 1414 (by decide +kernel) rfl, mm_tb_1 10 (by decide +kernel) rfl, ⟨by decide, by decide⟩, by decide +kernel⟩
theorem zk_Compiler_33 : mm_Vl "TensorForge$Compiler" 33 1 1 zy_has_7_5 := ⟨zyw_has_7_5, (R_Network, F_Network, 2), rfl, mm_tb_1 1415 (by decide +kernel) rfl, mm_tb_1 859 (by decide +kernel) rfl, mm_tb_1 860 (by decide +kernel) rfl⟩
theorem zf_Compiler_39 : mm_Fl "TensorForge$Compiler" 39 1 0 (.array (.object "TensorForge$Layer")) true := ⟨R_Network, F_Network, 2, t_Network, rfl, i_Network, by decide, mm_tb_1 144 (by decide +kernel) rfl, rfl, t_Network_ok, n_Network, rfl, by decide +kernel⟩
theorem zf_Compiler_43 : mm_Fl "TensorForge$Compiler" 43 2 1 .int false := ⟨R_Layer, F_Layer, 15, t_Layer, rfl, i_Layer, by decide, mm_tb_1 61 (by decide +kernel) rfl, rfl, t_Layer_ok, n_Layer, rfl, by decide +kernel⟩
theorem zf_Compiler_48 : mm_Fl "TensorForge$Compiler" 48 2 2 .int false := ⟨R_Layer, F_Layer, 15, t_Layer, rfl, i_Layer, by decide, mm_tb_1 65 (by decide +kernel) rfl, rfl, t_Layer_ok, n_Layer, rfl, by decide +kernel⟩
theorem zf_Compiler_51 : mm_Fl "TensorForge$Compiler" 51 9 3 (.object "TensorForge$Layer") false := ⟨R_Compiler, F_Compiler, 17, t_Compiler, rfl, i_Compiler, by decide, mm_tb_1 378 (by decide +kernel) rfl, rfl, t_Compiler_ok, n_Compiler, rfl, by decide +kernel⟩
theorem zf_Compiler_55 : mm_Fl "TensorForge$Compiler" 55 9 4 (.object "TensorForge$Layer") false := ⟨R_Compiler, F_Compiler, 17, t_Compiler, rfl, i_Compiler, by decide, mm_tb_1 379 (by decide +kernel) rfl, rfl, t_Compiler_ok, n_Compiler, rfl, by decide +kernel⟩
theorem zf_Compiler_58 : mm_Fl "TensorForge$Compiler" 58 9 5 (.object "TensorForge$Layer") false := ⟨R_Compiler, F_Compiler, 17, t_Compiler, rfl, i_Compiler, by decide, mm_tb_1 380 (by decide +kernel) rfl, rfl, t_Compiler_ok, n_Compiler, rfl, by decide +kernel⟩
theorem zf_Compiler_61 : mm_Fl "TensorForge$Compiler" 61 2 0 .int false := ⟨R_Layer, F_Layer, 15, t_Layer, rfl, i_Layer, by decide, mm_tb_1 58 (by decide +kernel) rfl, rfl, t_Layer_ok, n_Layer, rfl, by decide +kernel⟩
theorem zf_Compiler_64 : mm_Fl "TensorForge$Compiler" 64 2 10 .int false := ⟨R_Layer, F_Layer, 15, t_Layer, rfl, i_Layer, by decide, mm_tb_1 95 (by decide +kernel) rfl, rfl, t_Layer_ok, n_Layer, rfl, by decide +kernel⟩
theorem zf_Compiler_67 : mm_Fl "TensorForge$Compiler" 67 2 11 .int false := ⟨R_Layer, F_Layer, 15, t_Layer, rfl, i_Layer, by decide, mm_tb_1 99 (by decide +kernel) rfl, rfl, t_Layer_ok, n_Layer, rfl, by decide +kernel⟩
theorem zf_Compiler_70 : mm_Fl "TensorForge$Compiler" 70 9 6 .int false := ⟨R_Compiler, F_Compiler, 17, t_Compiler, rfl, i_Compiler, by decide, mm_tb_1 381 (by decide +kernel) rfl, rfl, t_Compiler_ok, n_Compiler, rfl, by decide +kernel⟩
theorem zf_Compiler_73 : mm_Fl "TensorForge$Compiler" 73 9 12 .int false := ⟨R_Compiler, F_Compiler, 17, t_Compiler, rfl, i_Compiler, by decide, mm_tb_1 387 (by decide +kernel) rfl, rfl, t_Compiler_ok, n_Compiler, rfl, by decide +kernel⟩
theorem zf_Compiler_76 : mm_Fl "TensorForge$Compiler" 76 9 7 .int false := ⟨R_Compiler, F_Compiler, 17, t_Compiler, rfl, i_Compiler, by decide, mm_tb_1 382 (by decide +kernel) rfl, rfl, t_Compiler_ok, n_Compiler, rfl, by decide +kernel⟩
theorem zf_Compiler_79 : mm_Fl "TensorForge$Compiler" 79 2 12 .int false := ⟨R_Layer, F_Layer, 15, t_Layer, rfl, i_Layer, by decide, mm_tb_1 103 (by decide +kernel) rfl, rfl, t_Layer_ok, n_Layer, rfl, by decide +kernel⟩
abbrev zy_makeWaits_3_12 : mm_Y := (⟨"TensorForge$Compiler", "makeWaits", "()V"⟩, prog_3_method_12_code, 5, none)
theorem zyw_makeWaits_3_12 : mm_Yw zy_makeWaits_3_12 0 := ⟨mm_tb_1 1479 (by decide +kernel) rfl, mm_tb_1 10 (by decide +kernel) rfl, ⟨by decide, by decide⟩, by decide +kernel⟩
theorem zk_Compiler_132 : mm_Sl "TensorForge$Compiler" 132 2 zy_bits_12_4 := ⟨zyw_bits_12_4, mm_tb_1 1435 (by decide +kernel) rfl, mm_tb_1 647 (by decide +kernel) rfl⟩
abbrev zy_flag_12_5 : mm_Y := (⟨"TensorForge$Words", "flag", "(I)J"⟩, prog_12_method_5_code, 1, (some .long))
theorem zyw_flag_12_5 : mm_Yw zy_flag_12_5 1 := ⟨mm_tb_1 1469 (by decide +kernel) rfl, mm_tb_1 20 (by decide +kernel) rfl, ⟨by decide, by decide⟩, by decide +kernel⟩
theorem zk_Words_20 : mm_Sl "TensorForge$Words" 20 2 zy_bits_12_4 := ⟨zyw_bits_12_4, mm_tb_1 1470 (by decide +kernel) rfl, mm_tb_1 647 (by decide +kernel) rfl⟩
theorem zg_1_23_18 : zq_at zy_compile_1_23.2.1 18 4 ∧ zq_at zy_compile_1_23.2.1 19 60 ∧ zq_at zy_compile_1_23.2.1 20 27 ∧ zq_at zy_compile_1_23.2.1 21 42 ∧ zq_at zy_compile_1_23.2.1 22 180 ∧ zq_at zy_compile_1_23.2.1 23 0 ∧ zq_at zy_compile_1_23.2.1 24 10 ∧ zq_at zy_compile_1_23.2.1 25 180 ∧ zq_at zy_compile_1_23.2.1 26 1 ∧ zq_at zy_compile_1_23.2.1 27 22 ∧ zq_at zy_compile_1_23.2.1 28 162 ∧ zq_at zy_compile_1_23.2.1 29 0 ∧ zq_at zy_compile_1_23.2.1 30 21 ∧ zq_at zy_compile_1_23.2.1 49 42 ∧ zq_at zy_compile_1_23.2.1 50 180 ∧ zq_at zy_compile_1_23.2.1 51 0 ∧ zq_at zy_compile_1_23.2.1 52 76 ∧ zq_at zy_compile_1_23.2.1 53 180 ∧ zq_at zy_compile_1_23.2.1 54 1 ∧ zq_at zy_compile_1_23.2.1 55 29 ∧ zq_at zy_compile_1_23.2.1 56 17 ∧ zq_at zy_compile_1_23.2.1 57 2 ∧ zq_at zy_compile_1_23.2.1 58 88 := by decide +kernel
theorem zd_1_23_18 : zz_D zy_compile_1_23 18 (.iconst 1) 1 19 := ⟨zq_4 zg_1_23_18.1, rfl⟩
theorem zd_1_23_19 : zz_D zy_compile_1_23 19 (.istore_n 1) 1 20 := ⟨zq_60 zg_1_23_18.2.1, rfl⟩
theorem zd_1_23_20 : zz_D zy_compile_1_23 20 (.iload_n 1) 1 21 := ⟨zq_27 zg_1_23_18.2.2.1, rfl⟩
theorem zd_1_23_21 : zz_D zy_compile_1_23 21 (.aload_n 0) 1 22 := ⟨zq_42 zg_1_23_18.2.2.2.1, rfl⟩
theorem zd_1_23_22 : zz_D zy_compile_1_23 22 (.getfield 10) 3 25 := ⟨zq_180 zg_1_23_18.2.2.2.2.1 zg_1_23_18.2.2.2.2.2.1 zg_1_23_18.2.2.2.2.2.2.1 rfl, rfl⟩
theorem zd_1_23_25 : zz_D zy_compile_1_23 25 (.getfield 278) 3 28 := ⟨zq_180 zg_1_23_18.2.2.2.2.2.2.2.1 zg_1_23_18.2.2.2.2.2.2.2.2.1 zg_1_23_18.2.2.2.2.2.2.2.2.2.1 rfl, rfl⟩
theorem zd_1_23_28 : zz_B zy_compile_1_23 28 (Instr.if_icmp .ge) 49 31 := ⟨21, zq_162 zg_1_23_18.2.2.2.2.2.2.2.2.2.2.1 zg_1_23_18.2.2.2.2.2.2.2.2.2.2.2.1 zg_1_23_18.2.2.2.2.2.2.2.2.2.2.2.2.1 (by decide), rfl, rfl⟩
theorem zd_1_23_49 : zz_D zy_compile_1_23 49 (.aload_n 0) 1 50 := ⟨zq_42 zg_1_23_18.2.2.2.2.2.2.2.2.2.2.2.2.2.1, rfl⟩
theorem zd_1_23_50 : zz_D zy_compile_1_23 50 (.getfield 76) 3 53 := ⟨zq_180 zg_1_23_18.2.2.2.2.2.2.2.2.2.2.2.2.2.2.1 zg_1_23_18.2.2.2.2.2.2.2.2.2.2.2.2.2.2.2.1 zg_1_23_18.2.2.2.2.2.2.2.2.2.2.2.2.2.2.2.2.1 rfl, rfl⟩
theorem zd_1_23_53 : zz_D zy_compile_1_23 53 (.getfield 285) 3 56 := ⟨zq_180 zg_1_23_18.2.2.2.2.2.2.2.2.2.2.2.2.2.2.2.2.2.1 zg_1_23_18.2.2.2.2.2.2.2.2.2.2.2.2.2.2.2.2.2.2.1 zg_1_23_18.2.2.2.2.2.2.2.2.2.2.2.2.2.2.2.2.2.2.2.1 rfl, rfl⟩
theorem zd_1_23_56 : zz_D zy_compile_1_23 56 (.sipush 600) 3 59 := ⟨zq_17 zg_1_23_18.2.2.2.2.2.2.2.2.2.2.2.2.2.2.2.2.2.2.2.2.1 zg_1_23_18.2.2.2.2.2.2.2.2.2.2.2.2.2.2.2.2.2.2.2.2.2.1 zg_1_23_18.2.2.2.2.2.2.2.2.2.2.2.2.2.2.2.2.2.2.2.2.2.2 (by decide), rfl⟩
theorem zg_1_23_59 : zq_at zy_compile_1_23.2.1 59 164 ∧ zq_at zy_compile_1_23.2.1 60 0 ∧ zq_at zy_compile_1_23.2.1 61 14 ∧ zq_at zy_compile_1_23.2.1 73 42 ∧ zq_at zy_compile_1_23.2.1 74 42 ∧ zq_at zy_compile_1_23.2.1 75 180 ∧ zq_at zy_compile_1_23.2.1 76 0 ∧ zq_at zy_compile_1_23.2.1 77 76 ∧ zq_at zy_compile_1_23.2.1 78 180 ∧ zq_at zy_compile_1_23.2.1 79 1 ∧ zq_at zy_compile_1_23.2.1 80 29 ∧ zq_at zy_compile_1_23.2.1 81 182 ∧ zq_at zy_compile_1_23.2.1 82 0 ∧ zq_at zy_compile_1_23.2.1 83 169 ∧ zq_at zy_compile_1_23.2.1 84 42 ∧ zq_at zy_compile_1_23.2.1 85 180 ∧ zq_at zy_compile_1_23.2.1 86 0 ∧ zq_at zy_compile_1_23.2.1 87 26 ∧ zq_at zy_compile_1_23.2.1 88 172 ∧ zq_at zy_compile_1_23.2.1 31 42 ∧ zq_at zy_compile_1_23.2.1 32 180 ∧ zq_at zy_compile_1_23.2.1 33 0 ∧ zq_at zy_compile_1_23.2.1 34 76 ∧ zq_at zy_compile_1_23.2.1 35 42 := by decide +kernel
theorem zd_1_23_59 : zz_B zy_compile_1_23 59 (Instr.if_icmp .le) 73 62 := ⟨14, zq_164 zg_1_23_59.1 zg_1_23_59.2.1 zg_1_23_59.2.2.1 (by decide), rfl, rfl⟩
theorem zd_1_23_73 : zz_D zy_compile_1_23 73 (.aload_n 0) 1 74 := ⟨zq_42 zg_1_23_59.2.2.2.1, rfl⟩
theorem zd_1_23_74 : zz_D zy_compile_1_23 74 (.aload_n 0) 1 75 := ⟨zq_42 zg_1_23_59.2.2.2.2.1, rfl⟩
theorem zd_1_23_75 : zz_D zy_compile_1_23 75 (.getfield 76) 3 78 := ⟨zq_180 zg_1_23_59.2.2.2.2.2.1 zg_1_23_59.2.2.2.2.2.2.1 zg_1_23_59.2.2.2.2.2.2.2.1 rfl, rfl⟩
theorem zd_1_23_78 : zz_D zy_compile_1_23 78 (.getfield 285) 3 81 := ⟨zq_180 zg_1_23_59.2.2.2.2.2.2.2.2.1 zg_1_23_59.2.2.2.2.2.2.2.2.2.1 zg_1_23_59.2.2.2.2.2.2.2.2.2.2.1 rfl, rfl⟩
theorem zd_1_23_81 : zz_D zy_compile_1_23 81 (.invokevirtual 169) 3 84 := ⟨zq_182 zg_1_23_59.2.2.2.2.2.2.2.2.2.2.2.1 zg_1_23_59.2.2.2.2.2.2.2.2.2.2.2.2.1 zg_1_23_59.2.2.2.2.2.2.2.2.2.2.2.2.2.1 rfl, rfl⟩
theorem zd_1_23_84 : zz_D zy_compile_1_23 84 (.aload_n 0) 1 85 := ⟨zq_42 zg_1_23_59.2.2.2.2.2.2.2.2.2.2.2.2.2.2.1, rfl⟩
theorem zd_1_23_85 : zz_D zy_compile_1_23 85 (.getfield 26) 3 88 := ⟨zq_180 zg_1_23_59.2.2.2.2.2.2.2.2.2.2.2.2.2.2.2.1 zg_1_23_59.2.2.2.2.2.2.2.2.2.2.2.2.2.2.2.2.1 zg_1_23_59.2.2.2.2.2.2.2.2.2.2.2.2.2.2.2.2.2.1 rfl, rfl⟩
theorem zd_1_23_88 : zz_D zy_compile_1_23 88 (.ireturn) 1 89 := ⟨zq_172 zg_1_23_59.2.2.2.2.2.2.2.2.2.2.2.2.2.2.2.2.2.2.1, rfl⟩
theorem zd_1_23_31 : zz_D zy_compile_1_23 31 (.aload_n 0) 1 32 := ⟨zq_42 zg_1_23_59.2.2.2.2.2.2.2.2.2.2.2.2.2.2.2.2.2.2.2.1, rfl⟩
theorem zd_1_23_32 : zz_D zy_compile_1_23 32 (.getfield 76) 3 35 := ⟨zq_180 zg_1_23_59.2.2.2.2.2.2.2.2.2.2.2.2.2.2.2.2.2.2.2.2.1 zg_1_23_59.2.2.2.2.2.2.2.2.2.2.2.2.2.2.2.2.2.2.2.2.2.1 zg_1_23_59.2.2.2.2.2.2.2.2.2.2.2.2.2.2.2.2.2.2.2.2.2.2.1 rfl, rfl⟩
theorem zd_1_23_35 : zz_D zy_compile_1_23 35 (.aload_n 0) 1 36 := ⟨zq_42 zg_1_23_59.2.2.2.2.2.2.2.2.2.2.2.2.2.2.2.2.2.2.2.2.2.2.2, rfl⟩
theorem zg_1_23_36 : zq_at zy_compile_1_23.2.1 36 180 ∧ zq_at zy_compile_1_23.2.1 37 0 ∧ zq_at zy_compile_1_23.2.1 38 10 ∧ zq_at zy_compile_1_23.2.1 39 27 ∧ zq_at zy_compile_1_23.2.1 40 182 ∧ zq_at zy_compile_1_23.2.1 41 1 ∧ zq_at zy_compile_1_23.2.1 42 25 := by decide +kernel
theorem zd_1_23_36 : zz_D zy_compile_1_23 36 (.getfield 10) 3 39 := ⟨zq_180 zg_1_23_36.1 zg_1_23_36.2.1 zg_1_23_36.2.2.1 rfl, rfl⟩
theorem zd_1_23_39 : zz_D zy_compile_1_23 39 (.iload_n 1) 1 40 := ⟨zq_27 zg_1_23_36.2.2.2.1, rfl⟩
theorem zd_1_23_40 : zz_D zy_compile_1_23 40 (.invokevirtual 281) 3 43 := ⟨zq_182 zg_1_23_36.2.2.2.2.1 zg_1_23_36.2.2.2.2.2.1 zg_1_23_36.2.2.2.2.2.2 rfl, rfl⟩
theorem zg_3_3_0 : zq_at zy_makeLayer_3_3.2.1 0 43 ∧ zq_at zy_makeLayer_3_3.2.1 1 28 ∧ zq_at zy_makeLayer_3_3.2.1 2 182 ∧ zq_at zy_makeLayer_3_3.2.1 3 0 ∧ zq_at zy_makeLayer_3_3.2.1 4 33 ∧ zq_at zy_makeLayer_3_3.2.1 5 153 ∧ zq_at zy_makeLayer_3_3.2.1 6 0 ∧ zq_at zy_makeLayer_3_3.2.1 7 35 ∧ zq_at zy_makeLayer_3_3.2.1 40 177 ∧ zq_at zy_makeLayer_3_3.2.1 8 43 ∧ zq_at zy_makeLayer_3_3.2.1 9 43 ∧ zq_at zy_makeLayer_3_3.2.1 10 180 ∧ zq_at zy_makeLayer_3_3.2.1 11 0 ∧ zq_at zy_makeLayer_3_3.2.1 12 39 ∧ zq_at zy_makeLayer_3_3.2.1 13 28 ∧ zq_at zy_makeLayer_3_3.2.1 14 50 ∧ zq_at zy_makeLayer_3_3.2.1 15 180 ∧ zq_at zy_makeLayer_3_3.2.1 16 0 ∧ zq_at zy_makeLayer_3_3.2.1 17 43 ∧ zq_at zy_makeLayer_3_3.2.1 18 182 ∧ zq_at zy_makeLayer_3_3.2.1 19 0 ∧ zq_at zy_makeLayer_3_3.2.1 20 33 := by decide +kernel
theorem zd_3_3_0 : zz_D zy_makeLayer_3_3 0 (.aload_n 1) 1 1 := ⟨zq_43 zg_3_3_0.1, rfl⟩
theorem zd_3_3_1 : zz_D zy_makeLayer_3_3 1 (.iload_n 2) 1 2 := ⟨zq_28 zg_3_3_0.2.1, rfl⟩
theorem zd_3_3_2 : zz_D zy_makeLayer_3_3 2 (.invokevirtual 33) 3 5 := ⟨zq_182 zg_3_3_0.2.2.1 zg_3_3_0.2.2.2.1 zg_3_3_0.2.2.2.2.1 rfl, rfl⟩
theorem zd_3_3_5 : zz_B zy_makeLayer_3_3 5 (Instr.ifCond .eq) 40 8 := ⟨35, zq_153 zg_3_3_0.2.2.2.2.2.1 zg_3_3_0.2.2.2.2.2.2.1 zg_3_3_0.2.2.2.2.2.2.2.1 (by decide), rfl, rfl⟩
theorem zd_3_3_40 : zz_D zy_makeLayer_3_3 40 (.return_) 1 41 := ⟨zq_177 zg_3_3_0.2.2.2.2.2.2.2.2.1, rfl⟩
theorem zd_3_3_8 : zz_D zy_makeLayer_3_3 8 (.aload_n 1) 1 9 := ⟨zq_43 zg_3_3_0.2.2.2.2.2.2.2.2.2.1, rfl⟩
theorem zd_3_3_9 : zz_D zy_makeLayer_3_3 9 (.aload_n 1) 1 10 := ⟨zq_43 zg_3_3_0.2.2.2.2.2.2.2.2.2.2.1, rfl⟩
theorem zd_3_3_10 : zz_D zy_makeLayer_3_3 10 (.getfield 39) 3 13 := ⟨zq_180 zg_3_3_0.2.2.2.2.2.2.2.2.2.2.2.1 zg_3_3_0.2.2.2.2.2.2.2.2.2.2.2.2.1 zg_3_3_0.2.2.2.2.2.2.2.2.2.2.2.2.2.1 rfl, rfl⟩
theorem zd_3_3_13 : zz_D zy_makeLayer_3_3 13 (.iload_n 2) 1 14 := ⟨zq_28 zg_3_3_0.2.2.2.2.2.2.2.2.2.2.2.2.2.2.1, rfl⟩
theorem zd_3_3_14 : zz_D zy_makeLayer_3_3 14 (.aaload) 1 15 := ⟨zq_50 zg_3_3_0.2.2.2.2.2.2.2.2.2.2.2.2.2.2.2.1, rfl⟩
theorem zd_3_3_15 : zz_D zy_makeLayer_3_3 15 (.getfield 43) 3 18 := ⟨zq_180 zg_3_3_0.2.2.2.2.2.2.2.2.2.2.2.2.2.2.2.2.1 zg_3_3_0.2.2.2.2.2.2.2.2.2.2.2.2.2.2.2.2.2.1 zg_3_3_0.2.2.2.2.2.2.2.2.2.2.2.2.2.2.2.2.2.2.1 rfl, rfl⟩
theorem zd_3_3_18 : zz_D zy_makeLayer_3_3 18 (.invokevirtual 33) 3 21 := ⟨zq_182 zg_3_3_0.2.2.2.2.2.2.2.2.2.2.2.2.2.2.2.2.2.2.2.1 zg_3_3_0.2.2.2.2.2.2.2.2.2.2.2.2.2.2.2.2.2.2.2.2.1 zg_3_3_0.2.2.2.2.2.2.2.2.2.2.2.2.2.2.2.2.2.2.2.2.2 rfl, rfl⟩
theorem zg_3_3_21 : zq_at zy_makeLayer_3_3.2.1 21 153 ∧ zq_at zy_makeLayer_3_3.2.1 22 0 ∧ zq_at zy_makeLayer_3_3.2.1 23 19 ∧ zq_at zy_makeLayer_3_3.2.1 24 43 ∧ zq_at zy_makeLayer_3_3.2.1 25 43 ∧ zq_at zy_makeLayer_3_3.2.1 26 180 ∧ zq_at zy_makeLayer_3_3.2.1 27 0 ∧ zq_at zy_makeLayer_3_3.2.1 28 39 ∧ zq_at zy_makeLayer_3_3.2.1 29 28 ∧ zq_at zy_makeLayer_3_3.2.1 30 50 ∧ zq_at zy_makeLayer_3_3.2.1 31 180 ∧ zq_at zy_makeLayer_3_3.2.1 32 0 ∧ zq_at zy_makeLayer_3_3.2.1 33 48 ∧ zq_at zy_makeLayer_3_3.2.1 34 182 ∧ zq_at zy_makeLayer_3_3.2.1 35 0 ∧ zq_at zy_makeLayer_3_3.2.1 36 33 ∧ zq_at zy_makeLayer_3_3.2.1 37 154 ∧ zq_at zy_makeLayer_3_3.2.1 38 0 ∧ zq_at zy_makeLayer_3_3.2.1 39 4 ∧ zq_at zy_makeLayer_3_3.2.1 41 42 ∧ zq_at zy_makeLayer_3_3.2.1 42 43 ∧ zq_at zy_makeLayer_3_3.2.1 43 180 ∧ zq_at zy_makeLayer_3_3.2.1 44 0 ∧ zq_at zy_makeLayer_3_3.2.1 45 39 := by decide +kernel
theorem zd_3_3_21 : zz_B zy_makeLayer_3_3 21 (Instr.ifCond .eq) 40 24 := ⟨19, zq_153 zg_3_3_21.1 zg_3_3_21.2.1 zg_3_3_21.2.2.1 (by decide), rfl, rfl⟩
theorem zd_3_3_24 : zz_D zy_makeLayer_3_3 24 (.aload_n 1) 1 25 := ⟨zq_43 zg_3_3_21.2.2.2.1, rfl⟩
theorem zd_3_3_25 : zz_D zy_makeLayer_3_3 25 (.aload_n 1) 1 26 := ⟨zq_43 zg_3_3_21.2.2.2.2.1, rfl⟩
theorem zd_3_3_26 : zz_D zy_makeLayer_3_3 26 (.getfield 39) 3 29 := ⟨zq_180 zg_3_3_21.2.2.2.2.2.1 zg_3_3_21.2.2.2.2.2.2.1 zg_3_3_21.2.2.2.2.2.2.2.1 rfl, rfl⟩
theorem zd_3_3_29 : zz_D zy_makeLayer_3_3 29 (.iload_n 2) 1 30 := ⟨zq_28 zg_3_3_21.2.2.2.2.2.2.2.2.1, rfl⟩
theorem zd_3_3_30 : zz_D zy_makeLayer_3_3 30 (.aaload) 1 31 := ⟨zq_50 zg_3_3_21.2.2.2.2.2.2.2.2.2.1, rfl⟩
theorem zd_3_3_31 : zz_D zy_makeLayer_3_3 31 (.getfield 48) 3 34 := ⟨zq_180 zg_3_3_21.2.2.2.2.2.2.2.2.2.2.1 zg_3_3_21.2.2.2.2.2.2.2.2.2.2.2.1 zg_3_3_21.2.2.2.2.2.2.2.2.2.2.2.2.1 rfl, rfl⟩
theorem zd_3_3_34 : zz_D zy_makeLayer_3_3 34 (.invokevirtual 33) 3 37 := ⟨zq_182 zg_3_3_21.2.2.2.2.2.2.2.2.2.2.2.2.2.1 zg_3_3_21.2.2.2.2.2.2.2.2.2.2.2.2.2.2.1 zg_3_3_21.2.2.2.2.2.2.2.2.2.2.2.2.2.2.2.1 rfl, rfl⟩
theorem zd_3_3_37 : zz_B zy_makeLayer_3_3 37 (Instr.ifCond .ne) 41 40 := ⟨4, zq_154 zg_3_3_21.2.2.2.2.2.2.2.2.2.2.2.2.2.2.2.2.1 zg_3_3_21.2.2.2.2.2.2.2.2.2.2.2.2.2.2.2.2.2.1 zg_3_3_21.2.2.2.2.2.2.2.2.2.2.2.2.2.2.2.2.2.2.1 (by decide), rfl, rfl⟩
theorem zd_3_3_41 : zz_D zy_makeLayer_3_3 41 (.aload_n 0) 1 42 := ⟨zq_42 zg_3_3_21.2.2.2.2.2.2.2.2.2.2.2.2.2.2.2.2.2.2.2.1, rfl⟩
theorem zd_3_3_42 : zz_D zy_makeLayer_3_3 42 (.aload_n 1) 1 43 := ⟨zq_43 zg_3_3_21.2.2.2.2.2.2.2.2.2.2.2.2.2.2.2.2.2.2.2.2.1, rfl⟩
theorem zd_3_3_43 : zz_D zy_makeLayer_3_3 43 (.getfield 39) 3 46 := ⟨zq_180 zg_3_3_21.2.2.2.2.2.2.2.2.2.2.2.2.2.2.2.2.2.2.2.2.2.1 zg_3_3_21.2.2.2.2.2.2.2.2.2.2.2.2.2.2.2.2.2.2.2.2.2.2.1 zg_3_3_21.2.2.2.2.2.2.2.2.2.2.2.2.2.2.2.2.2.2.2.2.2.2.2 rfl, rfl⟩
theorem zg_3_3_46 : zq_at zy_makeLayer_3_3.2.1 46 28 ∧ zq_at zy_makeLayer_3_3.2.1 47 50 ∧ zq_at zy_makeLayer_3_3.2.1 48 181 ∧ zq_at zy_makeLayer_3_3.2.1 49 0 ∧ zq_at zy_makeLayer_3_3.2.1 50 51 ∧ zq_at zy_makeLayer_3_3.2.1 51 42 ∧ zq_at zy_makeLayer_3_3.2.1 52 43 ∧ zq_at zy_makeLayer_3_3.2.1 53 180 ∧ zq_at zy_makeLayer_3_3.2.1 54 0 ∧ zq_at zy_makeLayer_3_3.2.1 55 39 ∧ zq_at zy_makeLayer_3_3.2.1 56 42 ∧ zq_at zy_makeLayer_3_3.2.1 57 180 ∧ zq_at zy_makeLayer_3_3.2.1 58 0 ∧ zq_at zy_makeLayer_3_3.2.1 59 51 ∧ zq_at zy_makeLayer_3_3.2.1 60 180 ∧ zq_at zy_makeLayer_3_3.2.1 61 0 ∧ zq_at zy_makeLayer_3_3.2.1 62 43 ∧ zq_at zy_makeLayer_3_3.2.1 63 50 ∧ zq_at zy_makeLayer_3_3.2.1 64 181 ∧ zq_at zy_makeLayer_3_3.2.1 65 0 ∧ zq_at zy_makeLayer_3_3.2.1 66 55 ∧ zq_at zy_makeLayer_3_3.2.1 67 42 ∧ zq_at zy_makeLayer_3_3.2.1 68 43 := by decide +kernel
theorem zd_3_3_46 : zz_D zy_makeLayer_3_3 46 (.iload_n 2) 1 47 := ⟨zq_28 zg_3_3_46.1, rfl⟩
theorem zd_3_3_47 : zz_D zy_makeLayer_3_3 47 (.aaload) 1 48 := ⟨zq_50 zg_3_3_46.2.1, rfl⟩
theorem zd_3_3_48 : zz_D zy_makeLayer_3_3 48 (.putfield 51) 3 51 := ⟨zq_181 zg_3_3_46.2.2.1 zg_3_3_46.2.2.2.1 zg_3_3_46.2.2.2.2.1 rfl, rfl⟩
theorem zd_3_3_51 : zz_D zy_makeLayer_3_3 51 (.aload_n 0) 1 52 := ⟨zq_42 zg_3_3_46.2.2.2.2.2.1, rfl⟩
theorem zd_3_3_52 : zz_D zy_makeLayer_3_3 52 (.aload_n 1) 1 53 := ⟨zq_43 zg_3_3_46.2.2.2.2.2.2.1, rfl⟩
theorem zd_3_3_53 : zz_D zy_makeLayer_3_3 53 (.getfield 39) 3 56 := ⟨zq_180 zg_3_3_46.2.2.2.2.2.2.2.1 zg_3_3_46.2.2.2.2.2.2.2.2.1 zg_3_3_46.2.2.2.2.2.2.2.2.2.1 rfl, rfl⟩
theorem zd_3_3_56 : zz_D zy_makeLayer_3_3 56 (.aload_n 0) 1 57 := ⟨zq_42 zg_3_3_46.2.2.2.2.2.2.2.2.2.2.1, rfl⟩
theorem zd_3_3_57 : zz_D zy_makeLayer_3_3 57 (.getfield 51) 3 60 := ⟨zq_180 zg_3_3_46.2.2.2.2.2.2.2.2.2.2.2.1 zg_3_3_46.2.2.2.2.2.2.2.2.2.2.2.2.1 zg_3_3_46.2.2.2.2.2.2.2.2.2.2.2.2.2.1 rfl, rfl⟩
theorem zd_3_3_60 : zz_D zy_makeLayer_3_3 60 (.getfield 43) 3 63 := ⟨zq_180 zg_3_3_46.2.2.2.2.2.2.2.2.2.2.2.2.2.2.1 zg_3_3_46.2.2.2.2.2.2.2.2.2.2.2.2.2.2.2.1 zg_3_3_46.2.2.2.2.2.2.2.2.2.2.2.2.2.2.2.2.1 rfl, rfl⟩
theorem zd_3_3_63 : zz_D zy_makeLayer_3_3 63 (.aaload) 1 64 := ⟨zq_50 zg_3_3_46.2.2.2.2.2.2.2.2.2.2.2.2.2.2.2.2.2.1, rfl⟩
theorem zd_3_3_64 : zz_D zy_makeLayer_3_3 64 (.putfield 55) 3 67 := ⟨zq_181 zg_3_3_46.2.2.2.2.2.2.2.2.2.2.2.2.2.2.2.2.2.2.1 zg_3_3_46.2.2.2.2.2.2.2.2.2.2.2.2.2.2.2.2.2.2.2.1 zg_3_3_46.2.2.2.2.2.2.2.2.2.2.2.2.2.2.2.2.2.2.2.2.1 rfl, rfl⟩
theorem zd_3_3_67 : zz_D zy_makeLayer_3_3 67 (.aload_n 0) 1 68 := ⟨zq_42 zg_3_3_46.2.2.2.2.2.2.2.2.2.2.2.2.2.2.2.2.2.2.2.2.2.1, rfl⟩
theorem zd_3_3_68 : zz_D zy_makeLayer_3_3 68 (.aload_n 1) 1 69 := ⟨zq_43 zg_3_3_46.2.2.2.2.2.2.2.2.2.2.2.2.2.2.2.2.2.2.2.2.2.2, rfl⟩
theorem zg_3_3_69 : zq_at zy_makeLayer_3_3.2.1 69 180 ∧ zq_at zy_makeLayer_3_3.2.1 70 0 ∧ zq_at zy_makeLayer_3_3.2.1 71 39 ∧ zq_at zy_makeLayer_3_3.2.1 72 42 ∧ zq_at zy_makeLayer_3_3.2.1 73 180 ∧ zq_at zy_makeLayer_3_3.2.1 74 0 ∧ zq_at zy_makeLayer_3_3.2.1 75 51 ∧ zq_at zy_makeLayer_3_3.2.1 76 180 ∧ zq_at zy_makeLayer_3_3.2.1 77 0 ∧ zq_at zy_makeLayer_3_3.2.1 78 48 ∧ zq_at zy_makeLayer_3_3.2.1 79 50 ∧ zq_at zy_makeLayer_3_3.2.1 80 181 ∧ zq_at zy_makeLayer_3_3.2.1 81 0 ∧ zq_at zy_makeLayer_3_3.2.1 82 58 ∧ zq_at zy_makeLayer_3_3.2.1 83 42 ∧ zq_at zy_makeLayer_3_3.2.1 84 180 ∧ zq_at zy_makeLayer_3_3.2.1 85 0 ∧ zq_at zy_makeLayer_3_3.2.1 86 51 ∧ zq_at zy_makeLayer_3_3.2.1 87 180 ∧ zq_at zy_makeLayer_3_3.2.1 88 0 ∧ zq_at zy_makeLayer_3_3.2.1 89 61 ∧ zq_at zy_makeLayer_3_3.2.1 90 6 := by decide +kernel
theorem zd_3_3_69 : zz_D zy_makeLayer_3_3 69 (.getfield 39) 3 72 := ⟨zq_180 zg_3_3_69.1 zg_3_3_69.2.1 zg_3_3_69.2.2.1 rfl, rfl⟩
theorem zd_3_3_72 : zz_D zy_makeLayer_3_3 72 (.aload_n 0) 1 73 := ⟨zq_42 zg_3_3_69.2.2.2.1, rfl⟩
theorem zd_3_3_73 : zz_D zy_makeLayer_3_3 73 (.getfield 51) 3 76 := ⟨zq_180 zg_3_3_69.2.2.2.2.1 zg_3_3_69.2.2.2.2.2.1 zg_3_3_69.2.2.2.2.2.2.1 rfl, rfl⟩
theorem zd_3_3_76 : zz_D zy_makeLayer_3_3 76 (.getfield 48) 3 79 := ⟨zq_180 zg_3_3_69.2.2.2.2.2.2.2.1 zg_3_3_69.2.2.2.2.2.2.2.2.1 zg_3_3_69.2.2.2.2.2.2.2.2.2.1 rfl, rfl⟩
theorem zd_3_3_79 : zz_D zy_makeLayer_3_3 79 (.aaload) 1 80 := ⟨zq_50 zg_3_3_69.2.2.2.2.2.2.2.2.2.2.1, rfl⟩
theorem zd_3_3_80 : zz_D zy_makeLayer_3_3 80 (.putfield 58) 3 83 := ⟨zq_181 zg_3_3_69.2.2.2.2.2.2.2.2.2.2.2.1 zg_3_3_69.2.2.2.2.2.2.2.2.2.2.2.2.1 zg_3_3_69.2.2.2.2.2.2.2.2.2.2.2.2.2.1 rfl, rfl⟩
theorem zd_3_3_83 : zz_D zy_makeLayer_3_3 83 (.aload_n 0) 1 84 := ⟨zq_42 zg_3_3_69.2.2.2.2.2.2.2.2.2.2.2.2.2.2.1, rfl⟩
theorem zd_3_3_84 : zz_D zy_makeLayer_3_3 84 (.getfield 51) 3 87 := ⟨zq_180 zg_3_3_69.2.2.2.2.2.2.2.2.2.2.2.2.2.2.2.1 zg_3_3_69.2.2.2.2.2.2.2.2.2.2.2.2.2.2.2.2.1 zg_3_3_69.2.2.2.2.2.2.2.2.2.2.2.2.2.2.2.2.2.1 rfl, rfl⟩
theorem zd_3_3_87 : zz_D zy_makeLayer_3_3 87 (.getfield 61) 3 90 := ⟨zq_180 zg_3_3_69.2.2.2.2.2.2.2.2.2.2.2.2.2.2.2.2.2.2.1 zg_3_3_69.2.2.2.2.2.2.2.2.2.2.2.2.2.2.2.2.2.2.2.1 zg_3_3_69.2.2.2.2.2.2.2.2.2.2.2.2.2.2.2.2.2.2.2.2.1 rfl, rfl⟩
theorem zd_3_3_90 : zz_D zy_makeLayer_3_3 90 (.iconst 3) 1 91 := ⟨zq_6 zg_3_3_69.2.2.2.2.2.2.2.2.2.2.2.2.2.2.2.2.2.2.2.2.2, rfl⟩
theorem zg_3_3_91 : zq_at zy_makeLayer_3_3.2.1 91 160 ∧ zq_at zy_makeLayer_3_3.2.1 92 0 ∧ zq_at zy_makeLayer_3_3.2.1 93 7 ∧ zq_at zy_makeLayer_3_3.2.1 98 3 ∧ zq_at zy_makeLayer_3_3.2.1 99 62 ∧ zq_at zy_makeLayer_3_3.2.1 100 29 ∧ zq_at zy_makeLayer_3_3.2.1 101 153 ∧ zq_at zy_makeLayer_3_3.2.1 102 0 ∧ zq_at zy_makeLayer_3_3.2.1 103 7 ∧ zq_at zy_makeLayer_3_3.2.1 108 42 ∧ zq_at zy_makeLayer_3_3.2.1 109 180 ∧ zq_at zy_makeLayer_3_3.2.1 110 0 ∧ zq_at zy_makeLayer_3_3.2.1 111 51 ∧ zq_at zy_makeLayer_3_3.2.1 112 180 ∧ zq_at zy_makeLayer_3_3.2.1 113 0 ∧ zq_at zy_makeLayer_3_3.2.1 114 64 ∧ zq_at zy_makeLayer_3_3.2.1 115 54 ∧ zq_at zy_makeLayer_3_3.2.1 116 4 ∧ zq_at zy_makeLayer_3_3.2.1 117 29 ∧ zq_at zy_makeLayer_3_3.2.1 118 153 ∧ zq_at zy_makeLayer_3_3.2.1 119 0 ∧ zq_at zy_makeLayer_3_3.2.1 120 21 ∧ zq_at zy_makeLayer_3_3.2.1 139 42 := by decide +kernel
theorem zd_3_3_91 : zz_B zy_makeLayer_3_3 91 (Instr.if_icmp .ne) 98 94 := ⟨7, zq_160 zg_3_3_91.1 zg_3_3_91.2.1 zg_3_3_91.2.2.1 (by decide), rfl, rfl⟩
theorem zd_3_3_98 : zz_D zy_makeLayer_3_3 98 (.iconst 0) 1 99 := ⟨zq_3 zg_3_3_91.2.2.2.1, rfl⟩
theorem zd_3_3_99 : zz_D zy_makeLayer_3_3 99 (.istore_n 3) 1 100 := ⟨zq_62 zg_3_3_91.2.2.2.2.1, rfl⟩
theorem zd_3_3_100 : zz_D zy_makeLayer_3_3 100 (.iload_n 3) 1 101 := ⟨zq_29 zg_3_3_91.2.2.2.2.2.1, rfl⟩
theorem zd_3_3_101 : zz_B zy_makeLayer_3_3 101 (Instr.ifCond .eq) 108 104 := ⟨7, zq_153 zg_3_3_91.2.2.2.2.2.2.1 zg_3_3_91.2.2.2.2.2.2.2.1 zg_3_3_91.2.2.2.2.2.2.2.2.1 (by decide), rfl, rfl⟩
theorem zd_3_3_108 : zz_D zy_makeLayer_3_3 108 (.aload_n 0) 1 109 := ⟨zq_42 zg_3_3_91.2.2.2.2.2.2.2.2.2.1, rfl⟩
theorem zd_3_3_109 : zz_D zy_makeLayer_3_3 109 (.getfield 51) 3 112 := ⟨zq_180 zg_3_3_91.2.2.2.2.2.2.2.2.2.2.1 zg_3_3_91.2.2.2.2.2.2.2.2.2.2.2.1 zg_3_3_91.2.2.2.2.2.2.2.2.2.2.2.2.1 rfl, rfl⟩
theorem zd_3_3_112 : zz_D zy_makeLayer_3_3 112 (.getfield 64) 3 115 := ⟨zq_180 zg_3_3_91.2.2.2.2.2.2.2.2.2.2.2.2.2.1 zg_3_3_91.2.2.2.2.2.2.2.2.2.2.2.2.2.2.1 zg_3_3_91.2.2.2.2.2.2.2.2.2.2.2.2.2.2.2.1 rfl, rfl⟩
theorem zd_3_3_115 : zz_D zy_makeLayer_3_3 115 (.istore 4) 2 117 := ⟨zq_54 zg_3_3_91.2.2.2.2.2.2.2.2.2.2.2.2.2.2.2.2.1 zg_3_3_91.2.2.2.2.2.2.2.2.2.2.2.2.2.2.2.2.2.1, rfl⟩
theorem zd_3_3_117 : zz_D zy_makeLayer_3_3 117 (.iload_n 3) 1 118 := ⟨zq_29 zg_3_3_91.2.2.2.2.2.2.2.2.2.2.2.2.2.2.2.2.2.2.1, rfl⟩
theorem zd_3_3_118 : zz_B zy_makeLayer_3_3 118 (Instr.ifCond .eq) 139 121 := ⟨21, zq_153 zg_3_3_91.2.2.2.2.2.2.2.2.2.2.2.2.2.2.2.2.2.2.2.1 zg_3_3_91.2.2.2.2.2.2.2.2.2.2.2.2.2.2.2.2.2.2.2.2.1 zg_3_3_91.2.2.2.2.2.2.2.2.2.2.2.2.2.2.2.2.2.2.2.2.2.1 (by decide), rfl, rfl⟩
theorem zd_3_3_139 : zz_D zy_makeLayer_3_3 139 (.aload_n 0) 1 140 := ⟨zq_42 zg_3_3_91.2.2.2.2.2.2.2.2.2.2.2.2.2.2.2.2.2.2.2.2.2.2, rfl⟩
theorem zg_3_3_140 : zq_at zy_makeLayer_3_3.2.1 140 180 ∧ zq_at zy_makeLayer_3_3.2.1 141 0 ∧ zq_at zy_makeLayer_3_3.2.1 142 51 ∧ zq_at zy_makeLayer_3_3.2.1 143 180 ∧ zq_at zy_makeLayer_3_3.2.1 144 0 ∧ zq_at zy_makeLayer_3_3.2.1 145 67 ∧ zq_at zy_makeLayer_3_3.2.1 146 54 ∧ zq_at zy_makeLayer_3_3.2.1 147 5 ∧ zq_at zy_makeLayer_3_3.2.1 148 17 ∧ zq_at zy_makeLayer_3_3.2.1 149 0 ∧ zq_at zy_makeLayer_3_3.2.1 150 128 ∧ zq_at zy_makeLayer_3_3.2.1 151 42 ∧ zq_at zy_makeLayer_3_3.2.1 152 180 ∧ zq_at zy_makeLayer_3_3.2.1 153 0 ∧ zq_at zy_makeLayer_3_3.2.1 154 21 ∧ zq_at zy_makeLayer_3_3.2.1 155 108 ∧ zq_at zy_makeLayer_3_3.2.1 156 16 ∧ zq_at zy_makeLayer_3_3.2.1 157 63 ∧ zq_at zy_makeLayer_3_3.2.1 158 184 ∧ zq_at zy_makeLayer_3_3.2.1 159 0 ∧ zq_at zy_makeLayer_3_3.2.1 160 24 ∧ zq_at zy_makeLayer_3_3.2.1 161 54 ∧ zq_at zy_makeLayer_3_3.2.1 162 6 ∧ zq_at zy_makeLayer_3_3.2.1 163 42 := by decide +kernel
theorem zd_3_3_140 : zz_D zy_makeLayer_3_3 140 (.getfield 51) 3 143 := ⟨zq_180 zg_3_3_140.1 zg_3_3_140.2.1 zg_3_3_140.2.2.1 rfl, rfl⟩
theorem zd_3_3_143 : zz_D zy_makeLayer_3_3 143 (.getfield 67) 3 146 := ⟨zq_180 zg_3_3_140.2.2.2.1 zg_3_3_140.2.2.2.2.1 zg_3_3_140.2.2.2.2.2.1 rfl, rfl⟩
theorem zd_3_3_146 : zz_D zy_makeLayer_3_3 146 (.istore 5) 2 148 := ⟨zq_54 zg_3_3_140.2.2.2.2.2.2.1 zg_3_3_140.2.2.2.2.2.2.2.1, rfl⟩
theorem zd_3_3_148 : zz_D zy_makeLayer_3_3 148 (.sipush 128) 3 151 := ⟨zq_17 zg_3_3_140.2.2.2.2.2.2.2.2.1 zg_3_3_140.2.2.2.2.2.2.2.2.2.1 zg_3_3_140.2.2.2.2.2.2.2.2.2.2.1 (by decide), rfl⟩
theorem zd_3_3_151 : zz_D zy_makeLayer_3_3 151 (.aload_n 0) 1 152 := ⟨zq_42 zg_3_3_140.2.2.2.2.2.2.2.2.2.2.2.1, rfl⟩
theorem zd_3_3_152 : zz_D zy_makeLayer_3_3 152 (.getfield 21) 3 155 := ⟨zq_180 zg_3_3_140.2.2.2.2.2.2.2.2.2.2.2.2.1 zg_3_3_140.2.2.2.2.2.2.2.2.2.2.2.2.2.1 zg_3_3_140.2.2.2.2.2.2.2.2.2.2.2.2.2.2.1 rfl, rfl⟩
theorem zd_3_3_155 : zz_D zy_makeLayer_3_3 155 (.idiv) 1 156 := ⟨zq_108 zg_3_3_140.2.2.2.2.2.2.2.2.2.2.2.2.2.2.2.1, rfl⟩
theorem zd_3_3_156 : zz_D zy_makeLayer_3_3 156 (.bipush 63) 2 158 := ⟨zq_16 zg_3_3_140.2.2.2.2.2.2.2.2.2.2.2.2.2.2.2.2.1 zg_3_3_140.2.2.2.2.2.2.2.2.2.2.2.2.2.2.2.2.2.1 (by decide), rfl⟩
theorem zd_3_3_158 : zz_D zy_makeLayer_3_3 158 (.invokestatic 24) 3 161 := ⟨zq_184 zg_3_3_140.2.2.2.2.2.2.2.2.2.2.2.2.2.2.2.2.2.2.1 zg_3_3_140.2.2.2.2.2.2.2.2.2.2.2.2.2.2.2.2.2.2.2.1 zg_3_3_140.2.2.2.2.2.2.2.2.2.2.2.2.2.2.2.2.2.2.2.2.1 rfl, rfl⟩
theorem zd_3_3_161 : zz_D zy_makeLayer_3_3 161 (.istore 6) 2 163 := ⟨zq_54 zg_3_3_140.2.2.2.2.2.2.2.2.2.2.2.2.2.2.2.2.2.2.2.2.2.1 zg_3_3_140.2.2.2.2.2.2.2.2.2.2.2.2.2.2.2.2.2.2.2.2.2.2.1, rfl⟩
theorem zd_3_3_163 : zz_D zy_makeLayer_3_3 163 (.aload_n 0) 1 164 := ⟨zq_42 zg_3_3_140.2.2.2.2.2.2.2.2.2.2.2.2.2.2.2.2.2.2.2.2.2.2.2, rfl⟩
theorem zg_3_3_164 : zq_at zy_makeLayer_3_3.2.1 164 3 ∧ zq_at zy_makeLayer_3_3.2.1 165 181 ∧ zq_at zy_makeLayer_3_3.2.1 166 0 ∧ zq_at zy_makeLayer_3_3.2.1 167 70 ∧ zq_at zy_makeLayer_3_3.2.1 168 42 ∧ zq_at zy_makeLayer_3_3.2.1 169 3 ∧ zq_at zy_makeLayer_3_3.2.1 170 181 ∧ zq_at zy_makeLayer_3_3.2.1 171 0 ∧ zq_at zy_makeLayer_3_3.2.1 172 73 ∧ zq_at zy_makeLayer_3_3.2.1 173 42 ∧ zq_at zy_makeLayer_3_3.2.1 174 3 ∧ zq_at zy_makeLayer_3_3.2.1 175 181 ∧ zq_at zy_makeLayer_3_3.2.1 176 0 ∧ zq_at zy_makeLayer_3_3.2.1 177 76 ∧ zq_at zy_makeLayer_3_3.2.1 94 4 ∧ zq_at zy_makeLayer_3_3.2.1 95 167 ∧ zq_at zy_makeLayer_3_3.2.1 96 0 ∧ zq_at zy_makeLayer_3_3.2.1 97 4 ∧ zq_at zy_makeLayer_3_3.2.1 104 4 ∧ zq_at zy_makeLayer_3_3.2.1 105 167 ∧ zq_at zy_makeLayer_3_3.2.1 106 0 ∧ zq_at zy_makeLayer_3_3.2.1 107 10 ∧ zq_at zy_makeLayer_3_3.2.1 121 42 := by decide +kernel
theorem zd_3_3_164 : zz_D zy_makeLayer_3_3 164 (.iconst 0) 1 165 := ⟨zq_3 zg_3_3_164.1, rfl⟩
theorem zd_3_3_165 : zz_D zy_makeLayer_3_3 165 (.putfield 70) 3 168 := ⟨zq_181 zg_3_3_164.2.1 zg_3_3_164.2.2.1 zg_3_3_164.2.2.2.1 rfl, rfl⟩
theorem zd_3_3_168 : zz_D zy_makeLayer_3_3 168 (.aload_n 0) 1 169 := ⟨zq_42 zg_3_3_164.2.2.2.2.1, rfl⟩
theorem zd_3_3_169 : zz_D zy_makeLayer_3_3 169 (.iconst 0) 1 170 := ⟨zq_3 zg_3_3_164.2.2.2.2.2.1, rfl⟩
theorem zd_3_3_170 : zz_D zy_makeLayer_3_3 170 (.putfield 73) 3 173 := ⟨zq_181 zg_3_3_164.2.2.2.2.2.2.1 zg_3_3_164.2.2.2.2.2.2.2.1 zg_3_3_164.2.2.2.2.2.2.2.2.1 rfl, rfl⟩
theorem zd_3_3_173 : zz_D zy_makeLayer_3_3 173 (.aload_n 0) 1 174 := ⟨zq_42 zg_3_3_164.2.2.2.2.2.2.2.2.2.1, rfl⟩
theorem zd_3_3_174 : zz_D zy_makeLayer_3_3 174 (.iconst 0) 1 175 := ⟨zq_3 zg_3_3_164.2.2.2.2.2.2.2.2.2.2.1, rfl⟩
theorem zd_3_3_175 : zz_D zy_makeLayer_3_3 175 (.putfield 76) 3 178 := ⟨zq_181 zg_3_3_164.2.2.2.2.2.2.2.2.2.2.2.1 zg_3_3_164.2.2.2.2.2.2.2.2.2.2.2.2.1 zg_3_3_164.2.2.2.2.2.2.2.2.2.2.2.2.2.1 rfl, rfl⟩
theorem zd_3_3_94 : zz_D zy_makeLayer_3_3 94 (.iconst 1) 1 95 := ⟨zq_4 zg_3_3_164.2.2.2.2.2.2.2.2.2.2.2.2.2.2.1, rfl⟩
theorem zd_3_3_95 : zz_B zy_makeLayer_3_3 95 Instr.goto 99 98 := ⟨4, zq_167 zg_3_3_164.2.2.2.2.2.2.2.2.2.2.2.2.2.2.2.1 zg_3_3_164.2.2.2.2.2.2.2.2.2.2.2.2.2.2.2.2.1 zg_3_3_164.2.2.2.2.2.2.2.2.2.2.2.2.2.2.2.2.2.1 (by decide), rfl, rfl⟩
theorem zd_3_3_104 : zz_D zy_makeLayer_3_3 104 (.iconst 1) 1 105 := ⟨zq_4 zg_3_3_164.2.2.2.2.2.2.2.2.2.2.2.2.2.2.2.2.2.2.1, rfl⟩
theorem zd_3_3_105 : zz_B zy_makeLayer_3_3 105 Instr.goto 115 108 := ⟨10, zq_167 zg_3_3_164.2.2.2.2.2.2.2.2.2.2.2.2.2.2.2.2.2.2.2.1 zg_3_3_164.2.2.2.2.2.2.2.2.2.2.2.2.2.2.2.2.2.2.2.2.1 zg_3_3_164.2.2.2.2.2.2.2.2.2.2.2.2.2.2.2.2.2.2.2.2.2.1 (by decide), rfl, rfl⟩
theorem zd_3_3_121 : zz_D zy_makeLayer_3_3 121 (.aload_n 0) 1 122 := ⟨zq_42 zg_3_3_164.2.2.2.2.2.2.2.2.2.2.2.2.2.2.2.2.2.2.2.2.2.2, rfl⟩
theorem zg_3_3_122 : zq_at zy_makeLayer_3_3.2.1 122 180 ∧ zq_at zy_makeLayer_3_3.2.1 123 0 ∧ zq_at zy_makeLayer_3_3.2.1 124 51 ∧ zq_at zy_makeLayer_3_3.2.1 125 180 ∧ zq_at zy_makeLayer_3_3.2.1 126 0 ∧ zq_at zy_makeLayer_3_3.2.1 127 64 ∧ zq_at zy_makeLayer_3_3.2.1 128 42 ∧ zq_at zy_makeLayer_3_3.2.1 129 180 ∧ zq_at zy_makeLayer_3_3.2.1 130 0 ∧ zq_at zy_makeLayer_3_3.2.1 131 51 ∧ zq_at zy_makeLayer_3_3.2.1 132 180 ∧ zq_at zy_makeLayer_3_3.2.1 133 0 ∧ zq_at zy_makeLayer_3_3.2.1 134 67 ∧ zq_at zy_makeLayer_3_3.2.1 135 104 ∧ zq_at zy_makeLayer_3_3.2.1 136 167 ∧ zq_at zy_makeLayer_3_3.2.1 137 0 ∧ zq_at zy_makeLayer_3_3.2.1 138 10 ∧ zq_at zy_makeLayer_3_3.2.1 178 42 ∧ zq_at zy_makeLayer_3_3.2.1 179 180 ∧ zq_at zy_makeLayer_3_3.2.1 180 0 ∧ zq_at zy_makeLayer_3_3.2.1 181 76 ∧ zq_at zy_makeLayer_3_3.2.1 182 42 := by decide +kernel
theorem zd_3_3_122 : zz_D zy_makeLayer_3_3 122 (.getfield 51) 3 125 := ⟨zq_180 zg_3_3_122.1 zg_3_3_122.2.1 zg_3_3_122.2.2.1 rfl, rfl⟩
theorem zd_3_3_125 : zz_D zy_makeLayer_3_3 125 (.getfield 64) 3 128 := ⟨zq_180 zg_3_3_122.2.2.2.1 zg_3_3_122.2.2.2.2.1 zg_3_3_122.2.2.2.2.2.1 rfl, rfl⟩
theorem zd_3_3_128 : zz_D zy_makeLayer_3_3 128 (.aload_n 0) 1 129 := ⟨zq_42 zg_3_3_122.2.2.2.2.2.2.1, rfl⟩
theorem zd_3_3_129 : zz_D zy_makeLayer_3_3 129 (.getfield 51) 3 132 := ⟨zq_180 zg_3_3_122.2.2.2.2.2.2.2.1 zg_3_3_122.2.2.2.2.2.2.2.2.1 zg_3_3_122.2.2.2.2.2.2.2.2.2.1 rfl, rfl⟩
theorem zd_3_3_132 : zz_D zy_makeLayer_3_3 132 (.getfield 67) 3 135 := ⟨zq_180 zg_3_3_122.2.2.2.2.2.2.2.2.2.2.1 zg_3_3_122.2.2.2.2.2.2.2.2.2.2.2.1 zg_3_3_122.2.2.2.2.2.2.2.2.2.2.2.2.1 rfl, rfl⟩
theorem zd_3_3_135 : zz_D zy_makeLayer_3_3 135 (.imul) 1 136 := ⟨zq_104 zg_3_3_122.2.2.2.2.2.2.2.2.2.2.2.2.2.1, rfl⟩
theorem zd_3_3_136 : zz_B zy_makeLayer_3_3 136 Instr.goto 146 139 := ⟨10, zq_167 zg_3_3_122.2.2.2.2.2.2.2.2.2.2.2.2.2.2.1 zg_3_3_122.2.2.2.2.2.2.2.2.2.2.2.2.2.2.2.1 zg_3_3_122.2.2.2.2.2.2.2.2.2.2.2.2.2.2.2.2.1 (by decide), rfl, rfl⟩
theorem zd_3_3_178 : zz_D zy_makeLayer_3_3 178 (.aload_n 0) 1 179 := ⟨zq_42 zg_3_3_122.2.2.2.2.2.2.2.2.2.2.2.2.2.2.2.2.2.1, rfl⟩
theorem zd_3_3_179 : zz_D zy_makeLayer_3_3 179 (.getfield 76) 3 182 := ⟨zq_180 zg_3_3_122.2.2.2.2.2.2.2.2.2.2.2.2.2.2.2.2.2.2.1 zg_3_3_122.2.2.2.2.2.2.2.2.2.2.2.2.2.2.2.2.2.2.2.1 zg_3_3_122.2.2.2.2.2.2.2.2.2.2.2.2.2.2.2.2.2.2.2.2.1 rfl, rfl⟩
theorem zd_3_3_182 : zz_D zy_makeLayer_3_3 182 (.aload_n 0) 1 183 := ⟨zq_42 zg_3_3_122.2.2.2.2.2.2.2.2.2.2.2.2.2.2.2.2.2.2.2.2.2, rfl⟩
theorem zg_3_3_183 : zq_at zy_makeLayer_3_3.2.1 183 180 ∧ zq_at zy_makeLayer_3_3.2.1 184 0 ∧ zq_at zy_makeLayer_3_3.2.1 185 51 ∧ zq_at zy_makeLayer_3_3.2.1 186 180 ∧ zq_at zy_makeLayer_3_3.2.1 187 0 ∧ zq_at zy_makeLayer_3_3.2.1 188 79 ∧ zq_at zy_makeLayer_3_3.2.1 189 162 ∧ zq_at zy_makeLayer_3_3.2.1 190 0 ∧ zq_at zy_makeLayer_3_3.2.1 191 128 ∧ zq_at zy_makeLayer_3_3.2.1 317 42 ∧ zq_at zy_makeLayer_3_3.2.1 318 182 ∧ zq_at zy_makeLayer_3_3.2.1 319 0 ∧ zq_at zy_makeLayer_3_3.2.1 320 97 := by decide +kernel
theorem zd_3_3_183 : zz_D zy_makeLayer_3_3 183 (.getfield 51) 3 186 := ⟨zq_180 zg_3_3_183.1 zg_3_3_183.2.1 zg_3_3_183.2.2.1 rfl, rfl⟩
theorem zd_3_3_186 : zz_D zy_makeLayer_3_3 186 (.getfield 79) 3 189 := ⟨zq_180 zg_3_3_183.2.2.2.1 zg_3_3_183.2.2.2.2.1 zg_3_3_183.2.2.2.2.2.1 rfl, rfl⟩
theorem zd_3_3_189 : zz_B zy_makeLayer_3_3 189 (Instr.if_icmp .ge) 317 192 := ⟨128, zq_162 zg_3_3_183.2.2.2.2.2.2.1 zg_3_3_183.2.2.2.2.2.2.2.1 zg_3_3_183.2.2.2.2.2.2.2.2.1 (by decide), rfl, rfl⟩
theorem zd_3_3_317 : zz_D zy_makeLayer_3_3 317 (.aload_n 0) 1 318 := ⟨zq_42 zg_3_3_183.2.2.2.2.2.2.2.2.2.1, rfl⟩
theorem zd_3_3_318 : zz_D zy_makeLayer_3_3 318 (.invokevirtual 97) 3 321 := ⟨zq_182 zg_3_3_183.2.2.2.2.2.2.2.2.2.2.1 zg_3_3_183.2.2.2.2.2.2.2.2.2.2.2.1 zg_3_3_183.2.2.2.2.2.2.2.2.2.2.2.2 rfl, rfl⟩
theorem zg_3_12_0 : zq_at zy_makeWaits_3_12.2.1 0 3 ∧ zq_at zy_makeWaits_3_12.2.1 1 16 ∧ zq_at zy_makeWaits_3_12.2.1 2 9 ∧ zq_at zy_makeWaits_3_12.2.1 3 184 ∧ zq_at zy_makeWaits_3_12.2.1 4 0 ∧ zq_at zy_makeWaits_3_12.2.1 5 132 ∧ zq_at zy_makeWaits_3_12.2.1 6 5 ∧ zq_at zy_makeWaits_3_12.2.1 7 184 ∧ zq_at zy_makeWaits_3_12.2.1 8 0 ∧ zq_at zy_makeWaits_3_12.2.1 9 139 := by decide +kernel
theorem zd_3_12_0 : zz_D zy_makeWaits_3_12 0 (.iconst 0) 1 1 := ⟨zq_3 zg_3_12_0.1, rfl⟩
theorem zd_3_12_1 : zz_D zy_makeWaits_3_12 1 (.bipush 9) 2 3 := ⟨zq_16 zg_3_12_0.2.1 zg_3_12_0.2.2.1 (by decide), rfl⟩
theorem zd_3_12_3 : zz_D zy_makeWaits_3_12 3 (.invokestatic 132) 3 6 := ⟨zq_184 zg_3_12_0.2.2.2.1 zg_3_12_0.2.2.2.2.1 zg_3_12_0.2.2.2.2.2.1 rfl, rfl⟩
theorem zd_3_12_6 : zz_D zy_makeWaits_3_12 6 (.iconst 2) 1 7 := ⟨zq_5 zg_3_12_0.2.2.2.2.2.2.1, rfl⟩
theorem zd_3_12_7 : zz_D zy_makeWaits_3_12 7 (.invokestatic 139) 3 10 := ⟨zq_184 zg_3_12_0.2.2.2.2.2.2.2.1 zg_3_12_0.2.2.2.2.2.2.2.2.1 zg_3_12_0.2.2.2.2.2.2.2.2.2 rfl, rfl⟩
theorem zg_12_5_0 : zq_at zy_flag_12_5.2.1 0 26 ∧ zq_at zy_flag_12_5.2.1 1 4 ∧ zq_at zy_flag_12_5.2.1 2 184 ∧ zq_at zy_flag_12_5.2.1 3 0 ∧ zq_at zy_flag_12_5.2.1 4 20 ∧ zq_at zy_flag_12_5.2.1 5 173 := by decide +kernel
theorem zd_12_5_0 : zz_D zy_flag_12_5 0 (.iload_n 0) 1 1 := ⟨zq_26 zg_12_5_0.1, rfl⟩
theorem zd_12_5_1 : zz_D zy_flag_12_5 1 (.iconst 1) 1 2 := ⟨zq_4 zg_12_5_0.2.1, rfl⟩
theorem zd_12_5_2 : zz_D zy_flag_12_5 2 (.invokestatic 20) 3 5 := ⟨zq_184 zg_12_5_0.2.2.1 zg_12_5_0.2.2.2.1 zg_12_5_0.2.2.2.2.1 rfl, rfl⟩
theorem zd_12_5_5 : zz_D zy_flag_12_5 5 (.lreturn) 1 6 := ⟨zq_173 zg_12_5_0.2.2.2.2.2, rfl⟩
-- TensorForge$Words flag (I)J
abbrev zr_flag_12_5 : Room := { frames := 1, cells := 0, slots := 0, locals := 13 }
def zp_flag_12_5 (p0 : Int) (S0 : zz_S) : Int → zz_S → Prop := fun r S => S0 = S ∧ ((-9223372036854775808) ≤ r ∧ r ≤ 9223372036854775807)
theorem zc_flag_12_5 {g : mm_G} {l : Launch} (p0 : Int) (S0 : zz_S) (n : Nat) (hn : zz_end ≤ n) (G_S0 : zz_G S0) (hp0 : (-2147483648) ≤ p0 ∧ p0 ≤ 2147483647) : mm_Met g l zy_flag_12_5 zr_flag_12_5 [zi p0] (zz_M S0 n) n (zz_QJ n (zp_flag_12_5 p0 S0)) := by
  refine zz_enter (by decide) (Nat.le_of_ble_eq_true rfl) (zz_less (ls1 := [some (zi p0)]) ⟨rfl, trivial⟩ ?_)
  refine zz_iload_n (x := p0) rfl zd_12_5_0 ?_
  refine zz_iconst zd_12_5_1 ?_
  refine zz_callSJ [zi p0, zi 1] zd_12_5_2 zk_Words_20 rfl rfl ⟨Nat.le_of_ble_eq_true rfl, Nat.le_of_ble_eq_true rfl⟩ ⟨rfl, rfl⟩ (Nat.zero_le _) (Nat.zero_le _) (zc_bits_12_4 p0 1 S0 n hn G_S0 (by omega) (by omega)) (fun v2 S1 hP => ?_)
  obtain ⟨rfl, o3⟩ := hP
  exact zz_lret zd_12_5_5 rfl (Nat.zero_le _) (Nat.zero_le _) ⟨_, _, rfl, rfl, by omega⟩
theorem zk_Compiler_139 : mm_Sl "TensorForge$Compiler" 139 1 zy_flag_12_5 := ⟨zyw_flag_12_5, mm_tb_1 1467 (by decide +kernel) rfl, mm_tb_1 1468 (by decide +kernel) rfl⟩
abbrev zy_emit_3_15 : mm_Y := (⟨"TensorForge$Compiler", "emit", "(J)V"⟩, prog_3_method_15_code, 3, none)
theorem zyw_emit_3_15 : mm_Yw zy_emit_3_15 1 := ⟨mm_tb_1 1440 (by decide +kernel) rfl, mm_tb_1 10 (by decide +kernel) rfl, ⟨by decide, by decide⟩, by decide +kernel⟩
theorem zg_3_12_10 : zq_at zy_makeWaits_3_12.2.1 10 129 ∧ zq_at zy_makeWaits_3_12.2.1 11 64 ∧ zq_at zy_makeWaits_3_12.2.1 12 42 ∧ zq_at zy_makeWaits_3_12.2.1 13 180 ∧ zq_at zy_makeWaits_3_12.2.1 14 0 ∧ zq_at zy_makeWaits_3_12.2.1 15 70 ∧ zq_at zy_makeWaits_3_12.2.1 16 4 ∧ zq_at zy_makeWaits_3_12.2.1 17 164 ∧ zq_at zy_makeWaits_3_12.2.1 18 0 ∧ zq_at zy_makeWaits_3_12.2.1 19 15 ∧ zq_at zy_makeWaits_3_12.2.1 32 42 ∧ zq_at zy_makeWaits_3_12.2.1 33 31 ∧ zq_at zy_makeWaits_3_12.2.1 34 16 ∧ zq_at zy_makeWaits_3_12.2.1 35 11 ∧ zq_at zy_makeWaits_3_12.2.1 36 4 ∧ zq_at zy_makeWaits_3_12.2.1 37 184 ∧ zq_at zy_makeWaits_3_12.2.1 38 0 ∧ zq_at zy_makeWaits_3_12.2.1 39 132 ∧ zq_at zy_makeWaits_3_12.2.1 40 129 ∧ zq_at zy_makeWaits_3_12.2.1 41 6 ∧ zq_at zy_makeWaits_3_12.2.1 42 184 ∧ zq_at zy_makeWaits_3_12.2.1 43 0 ∧ zq_at zy_makeWaits_3_12.2.1 44 139 ∧ zq_at zy_makeWaits_3_12.2.1 45 129 := by decide +kernel
theorem zd_3_12_10 : zz_D zy_makeWaits_3_12 10 (.lor) 1 11 := ⟨zq_129 zg_3_12_10.1, rfl⟩
theorem zd_3_12_11 : zz_D zy_makeWaits_3_12 11 (.lstore_n 1) 1 12 := ⟨zq_64 zg_3_12_10.2.1, rfl⟩
theorem zd_3_12_12 : zz_D zy_makeWaits_3_12 12 (.aload_n 0) 1 13 := ⟨zq_42 zg_3_12_10.2.2.1, rfl⟩
theorem zd_3_12_13 : zz_D zy_makeWaits_3_12 13 (.getfield 70) 3 16 := ⟨zq_180 zg_3_12_10.2.2.2.1 zg_3_12_10.2.2.2.2.1 zg_3_12_10.2.2.2.2.2.1 rfl, rfl⟩
theorem zd_3_12_16 : zz_D zy_makeWaits_3_12 16 (.iconst 1) 1 17 := ⟨zq_4 zg_3_12_10.2.2.2.2.2.2.1, rfl⟩
theorem zd_3_12_17 : zz_B zy_makeWaits_3_12 17 (Instr.if_icmp .le) 32 20 := ⟨15, zq_164 zg_3_12_10.2.2.2.2.2.2.2.1 zg_3_12_10.2.2.2.2.2.2.2.2.1 zg_3_12_10.2.2.2.2.2.2.2.2.2.1 (by decide), rfl, rfl⟩
theorem zd_3_12_32 : zz_D zy_makeWaits_3_12 32 (.aload_n 0) 1 33 := ⟨zq_42 zg_3_12_10.2.2.2.2.2.2.2.2.2.2.1, rfl⟩
theorem zd_3_12_33 : zz_D zy_makeWaits_3_12 33 (.lload_n 1) 1 34 := ⟨zq_31 zg_3_12_10.2.2.2.2.2.2.2.2.2.2.2.1, rfl⟩
theorem zd_3_12_34 : zz_D zy_makeWaits_3_12 34 (.bipush 11) 2 36 := ⟨zq_16 zg_3_12_10.2.2.2.2.2.2.2.2.2.2.2.2.1 zg_3_12_10.2.2.2.2.2.2.2.2.2.2.2.2.2.1 (by decide), rfl⟩
theorem zd_3_12_36 : zz_D zy_makeWaits_3_12 36 (.iconst 1) 1 37 := ⟨zq_4 zg_3_12_10.2.2.2.2.2.2.2.2.2.2.2.2.2.2.1, rfl⟩
theorem zd_3_12_37 : zz_D zy_makeWaits_3_12 37 (.invokestatic 132) 3 40 := ⟨zq_184 zg_3_12_10.2.2.2.2.2.2.2.2.2.2.2.2.2.2.2.1 zg_3_12_10.2.2.2.2.2.2.2.2.2.2.2.2.2.2.2.2.1 zg_3_12_10.2.2.2.2.2.2.2.2.2.2.2.2.2.2.2.2.2.1 rfl, rfl⟩
theorem zd_3_12_40 : zz_D zy_makeWaits_3_12 40 (.lor) 1 41 := ⟨zq_129 zg_3_12_10.2.2.2.2.2.2.2.2.2.2.2.2.2.2.2.2.2.2.1, rfl⟩
theorem zd_3_12_41 : zz_D zy_makeWaits_3_12 41 (.iconst 3) 1 42 := ⟨zq_6 zg_3_12_10.2.2.2.2.2.2.2.2.2.2.2.2.2.2.2.2.2.2.2.1, rfl⟩
theorem zd_3_12_42 : zz_D zy_makeWaits_3_12 42 (.invokestatic 139) 3 45 := ⟨zq_184 zg_3_12_10.2.2.2.2.2.2.2.2.2.2.2.2.2.2.2.2.2.2.2.2.1 zg_3_12_10.2.2.2.2.2.2.2.2.2.2.2.2.2.2.2.2.2.2.2.2.2.1 zg_3_12_10.2.2.2.2.2.2.2.2.2.2.2.2.2.2.2.2.2.2.2.2.2.2.1 rfl, rfl⟩
theorem zd_3_12_45 : zz_D zy_makeWaits_3_12 45 (.lor) 1 46 := ⟨zq_129 zg_3_12_10.2.2.2.2.2.2.2.2.2.2.2.2.2.2.2.2.2.2.2.2.2.2.2, rfl⟩
theorem zg_3_12_46 : zq_at zy_makeWaits_3_12.2.1 46 182 ∧ zq_at zy_makeWaits_3_12.2.1 47 0 ∧ zq_at zy_makeWaits_3_12.2.1 48 143 := by decide +kernel
theorem zd_3_12_46 : zz_D zy_makeWaits_3_12 46 (.invokevirtual 143) 3 49 := ⟨zq_182 zg_3_12_46.1 zg_3_12_46.2.1 zg_3_12_46.2.2 rfl, rfl⟩
theorem zg_3_15_0 : zq_at zy_emit_3_15.2.1 0 42 ∧ zq_at zy_emit_3_15.2.1 1 180 ∧ zq_at zy_emit_3_15.2.1 2 0 ∧ zq_at zy_emit_3_15.2.1 3 15 ∧ zq_at zy_emit_3_15.2.1 4 17 ∧ zq_at zy_emit_3_15.2.1 5 2 ∧ zq_at zy_emit_3_15.2.1 6 88 ∧ zq_at zy_emit_3_15.2.1 7 162 ∧ zq_at zy_emit_3_15.2.1 8 0 ∧ zq_at zy_emit_3_15.2.1 9 25 ∧ zq_at zy_emit_3_15.2.1 32 42 ∧ zq_at zy_emit_3_15.2.1 33 89 ∧ zq_at zy_emit_3_15.2.1 34 180 ∧ zq_at zy_emit_3_15.2.1 35 0 ∧ zq_at zy_emit_3_15.2.1 36 15 ∧ zq_at zy_emit_3_15.2.1 37 4 ∧ zq_at zy_emit_3_15.2.1 38 96 ∧ zq_at zy_emit_3_15.2.1 39 181 ∧ zq_at zy_emit_3_15.2.1 40 0 ∧ zq_at zy_emit_3_15.2.1 41 15 ∧ zq_at zy_emit_3_15.2.1 42 177 ∧ zq_at zy_emit_3_15.2.1 10 42 := by decide +kernel
theorem zd_3_15_0 : zz_D zy_emit_3_15 0 (.aload_n 0) 1 1 := ⟨zq_42 zg_3_15_0.1, rfl⟩
theorem zd_3_15_1 : zz_D zy_emit_3_15 1 (.getfield 15) 3 4 := ⟨zq_180 zg_3_15_0.2.1 zg_3_15_0.2.2.1 zg_3_15_0.2.2.2.1 rfl, rfl⟩
theorem zd_3_15_4 : zz_D zy_emit_3_15 4 (.sipush 600) 3 7 := ⟨zq_17 zg_3_15_0.2.2.2.2.1 zg_3_15_0.2.2.2.2.2.1 zg_3_15_0.2.2.2.2.2.2.1 (by decide), rfl⟩
theorem zd_3_15_7 : zz_B zy_emit_3_15 7 (Instr.if_icmp .ge) 32 10 := ⟨25, zq_162 zg_3_15_0.2.2.2.2.2.2.2.1 zg_3_15_0.2.2.2.2.2.2.2.2.1 zg_3_15_0.2.2.2.2.2.2.2.2.2.1 (by decide), rfl, rfl⟩
theorem zd_3_15_32 : zz_D zy_emit_3_15 32 (.aload_n 0) 1 33 := ⟨zq_42 zg_3_15_0.2.2.2.2.2.2.2.2.2.2.1, rfl⟩
theorem zd_3_15_33 : zz_D zy_emit_3_15 33 (.dup) 1 34 := ⟨zq_89 zg_3_15_0.2.2.2.2.2.2.2.2.2.2.2.1, rfl⟩
theorem zd_3_15_34 : zz_D zy_emit_3_15 34 (.getfield 15) 3 37 := ⟨zq_180 zg_3_15_0.2.2.2.2.2.2.2.2.2.2.2.2.1 zg_3_15_0.2.2.2.2.2.2.2.2.2.2.2.2.2.1 zg_3_15_0.2.2.2.2.2.2.2.2.2.2.2.2.2.2.1 rfl, rfl⟩
theorem zd_3_15_37 : zz_D zy_emit_3_15 37 (.iconst 1) 1 38 := ⟨zq_4 zg_3_15_0.2.2.2.2.2.2.2.2.2.2.2.2.2.2.2.1, rfl⟩
theorem zd_3_15_38 : zz_D zy_emit_3_15 38 (.iadd) 1 39 := ⟨zq_96 zg_3_15_0.2.2.2.2.2.2.2.2.2.2.2.2.2.2.2.2.1, rfl⟩
theorem zd_3_15_39 : zz_D zy_emit_3_15 39 (.putfield 15) 3 42 := ⟨zq_181 zg_3_15_0.2.2.2.2.2.2.2.2.2.2.2.2.2.2.2.2.2.1 zg_3_15_0.2.2.2.2.2.2.2.2.2.2.2.2.2.2.2.2.2.2.1 zg_3_15_0.2.2.2.2.2.2.2.2.2.2.2.2.2.2.2.2.2.2.2.1 rfl, rfl⟩
theorem zd_3_15_42 : zz_D zy_emit_3_15 42 (.return_) 1 43 := ⟨zq_177 zg_3_15_0.2.2.2.2.2.2.2.2.2.2.2.2.2.2.2.2.2.2.2.2.1, rfl⟩
theorem zd_3_15_10 : zz_D zy_emit_3_15 10 (.aload_n 0) 1 11 := ⟨zq_42 zg_3_15_0.2.2.2.2.2.2.2.2.2.2.2.2.2.2.2.2.2.2.2.2.2, rfl⟩
theorem zg_3_15_11 : zq_at zy_emit_3_15.2.1 11 180 ∧ zq_at zy_emit_3_15.2.1 12 0 ∧ zq_at zy_emit_3_15.2.1 13 15 ∧ zq_at zy_emit_3_15.2.1 14 42 ∧ zq_at zy_emit_3_15.2.1 15 180 ∧ zq_at zy_emit_3_15.2.1 16 0 ∧ zq_at zy_emit_3_15.2.1 17 9 ∧ zq_at zy_emit_3_15.2.1 18 190 ∧ zq_at zy_emit_3_15.2.1 19 162 ∧ zq_at zy_emit_3_15.2.1 20 0 ∧ zq_at zy_emit_3_15.2.1 21 13 ∧ zq_at zy_emit_3_15.2.1 22 42 ∧ zq_at zy_emit_3_15.2.1 23 180 ∧ zq_at zy_emit_3_15.2.1 24 0 ∧ zq_at zy_emit_3_15.2.1 25 9 ∧ zq_at zy_emit_3_15.2.1 26 42 ∧ zq_at zy_emit_3_15.2.1 27 180 ∧ zq_at zy_emit_3_15.2.1 28 0 ∧ zq_at zy_emit_3_15.2.1 29 15 ∧ zq_at zy_emit_3_15.2.1 30 31 ∧ zq_at zy_emit_3_15.2.1 31 80 := by decide +kernel
theorem zd_3_15_11 : zz_D zy_emit_3_15 11 (.getfield 15) 3 14 := ⟨zq_180 zg_3_15_11.1 zg_3_15_11.2.1 zg_3_15_11.2.2.1 rfl, rfl⟩
theorem zd_3_15_14 : zz_D zy_emit_3_15 14 (.aload_n 0) 1 15 := ⟨zq_42 zg_3_15_11.2.2.2.1, rfl⟩
theorem zd_3_15_15 : zz_D zy_emit_3_15 15 (.getfield 9) 3 18 := ⟨zq_180 zg_3_15_11.2.2.2.2.1 zg_3_15_11.2.2.2.2.2.1 zg_3_15_11.2.2.2.2.2.2.1 rfl, rfl⟩
theorem zd_3_15_18 : zz_D zy_emit_3_15 18 (.arraylength) 1 19 := ⟨zq_190 zg_3_15_11.2.2.2.2.2.2.2.1, rfl⟩
theorem zd_3_15_19 : zz_B zy_emit_3_15 19 (Instr.if_icmp .ge) 32 22 := ⟨13, zq_162 zg_3_15_11.2.2.2.2.2.2.2.2.1 zg_3_15_11.2.2.2.2.2.2.2.2.2.1 zg_3_15_11.2.2.2.2.2.2.2.2.2.2.1 (by decide), rfl, rfl⟩
theorem zd_3_15_22 : zz_D zy_emit_3_15 22 (.aload_n 0) 1 23 := ⟨zq_42 zg_3_15_11.2.2.2.2.2.2.2.2.2.2.2.1, rfl⟩
theorem zd_3_15_23 : zz_D zy_emit_3_15 23 (.getfield 9) 3 26 := ⟨zq_180 zg_3_15_11.2.2.2.2.2.2.2.2.2.2.2.2.1 zg_3_15_11.2.2.2.2.2.2.2.2.2.2.2.2.2.1 zg_3_15_11.2.2.2.2.2.2.2.2.2.2.2.2.2.2.1 rfl, rfl⟩
theorem zd_3_15_26 : zz_D zy_emit_3_15 26 (.aload_n 0) 1 27 := ⟨zq_42 zg_3_15_11.2.2.2.2.2.2.2.2.2.2.2.2.2.2.2.1, rfl⟩
theorem zd_3_15_27 : zz_D zy_emit_3_15 27 (.getfield 15) 3 30 := ⟨zq_180 zg_3_15_11.2.2.2.2.2.2.2.2.2.2.2.2.2.2.2.2.1 zg_3_15_11.2.2.2.2.2.2.2.2.2.2.2.2.2.2.2.2.2.1 zg_3_15_11.2.2.2.2.2.2.2.2.2.2.2.2.2.2.2.2.2.2.1 rfl, rfl⟩
theorem zd_3_15_30 : zz_D zy_emit_3_15 30 (.lload_n 1) 1 31 := ⟨zq_31 zg_3_15_11.2.2.2.2.2.2.2.2.2.2.2.2.2.2.2.2.2.2.2.1, rfl⟩
theorem zd_3_15_31 : zz_D zy_emit_3_15 31 (.lastore) 1 32 := ⟨zq_80 zg_3_15_11.2.2.2.2.2.2.2.2.2.2.2.2.2.2.2.2.2.2.2.2, rfl⟩
-- TensorForge$Compiler emit (J)V
abbrev zr_emit_3_15 : Room := { frames := 0, cells := 0, slots := 0, locals := 0 }
def zp_emit_3_15 (p0 : Int) (S0 : zz_S) : zz_S → Prop := fun S => zz_G S ∧ zz_fr [(1076, 1)] [] (fun a i => a = zz_rf 4 (S0 1076 0)) S0 S ∧ (S 1076 1 = S0 1076 1 + 1)
theorem zc_emit_3_15 {g : mm_G} {l : Launch} (p0 : Int) (S0 : zz_S) (n : Nat) (hn : zz_end ≤ n) (G_S0 : zz_G S0) (hp0 : (-9223372036854775808) ≤ p0 ∧ p0 ≤ 9223372036854775807) (hq : S0 1076 1 ≤ 990000) : mm_Met g l zy_emit_3_15 zr_emit_3_15 [.ref 1076, zl p0] (zz_M S0 n) n (zz_QV n (zp_emit_3_15 p0 S0)) := by
  refine zz_enter (by decide) (Nat.le_of_ble_eq_true rfl) (zz_less (ls1 := [some (.ref 1076), some (zl p0), none]) ⟨rfl, ⟨rfl, trivial⟩⟩ ?_)
  have F_S0 : zz_fr [(1076, 1)] [] (fun a i => a = zz_rf 4 (S0 1076 0)) S0 S0 := zz_fr.refl
  refine zz_aload_n (x := 1076) rfl zd_3_15_0 ?_
  have g1 := zz_G.r G_S0 1076 1 0 1000000 rfl rfl
  refine zz_geti (z := S0 1076 1) zd_3_15_1 zf_Compiler_15 zT_1076 rfl (zz_ltn hn rfl) rfl ?_
  refine zz_sipush (by decide) zd_3_15_4 ?_
  refine zz_icmp_ge (by omega) (by omega) zd_3_15_7 (fun c2 => ?_) (fun c2 => ?_)
  · refine zz_aload_n (x := 1076) rfl zd_3_15_32 ?_
    refine zz_dup rfl zd_3_15_33 ?_
    refine zz_geti (z := S0 1076 1) zd_3_15_34 zf_Compiler_15 zT_1076 rfl (zz_ltn hn rfl) rfl ?_
    refine zz_iconst zd_3_15_37 ?_
    refine zz_iadd zd_3_15_38 ?_
    refine zz_puti zd_3_15_39 zf_Compiler_15 zT_1076 rfl (zz_ltn hn rfl) (fun S3 qS3 => ?_)
    have G_S3 := zz_G.put G_S0 qS3 0 1000000 rfl (by omega)
    have F_S3 := zz_fr.puts F_S0 qS3 rfl
    have e4 : S3 1076 1 = (S0 1076 1) + 1 := (zz_rs qS3)
    exact zz_vret zd_3_15_42 rfl (Nat.zero_le _) (Nat.zero_le _) ⟨_, rfl, G_S3, F_S3, by omega⟩
  · refine zz_aload_n (x := 1076) rfl zd_3_15_10 ?_
    refine zz_geti (z := S0 1076 1) zd_3_15_11 zf_Compiler_15 zT_1076 rfl (zz_ltn hn rfl) rfl ?_
    refine zz_aload_n (x := 1076) rfl zd_3_15_14 ?_
    have g5 := zz_G.r G_S0 1076 0 0 1 rfl rfl
    refine zz_getr (kd := 2) (z := S0 1076 0) zd_3_15_15 zf_Compiler_9 zT_1076 rfl (zz_ltn hn rfl) rfl (by omega) (zz_rf 4 (S0 1076 0)) rfl ?_
    refine zz_alen zd_3_15_18 (zT_k4 (by omega)) rfl (zN_k4 hn (by omega)) ?_
    refine zz_icmp_ge (by omega) (by omega) zd_3_15_19 (fun c6 => ?_) (fun c6 => ?_)
    · exfalso; omega
    · refine zz_aload_n (x := 1076) rfl zd_3_15_22 ?_
      refine zz_getr (kd := 2) (z := S0 1076 0) zd_3_15_23 zf_Compiler_9 zT_1076 rfl (zz_ltn hn rfl) rfl (by omega) (zz_rf 4 (S0 1076 0)) rfl ?_
      refine zz_aload_n (x := 1076) rfl zd_3_15_26 ?_
      refine zz_geti (z := S0 1076 1) zd_3_15_27 zf_Compiler_15 zT_1076 rfl (zz_ltn hn rfl) rfl ?_
      refine zz_lload_n (x := p0) rfl zd_3_15_30 ?_
      refine zz_last zd_3_15_31 (zT_k4 (by omega)) rfl (zN_k4 hn (by omega)) (by decide) (by omega) (fun S7 qS7 => ?_)
      have G_S7 := zz_G.put G_S0 qS7 (-9223372036854775808) 9223372036854775807 (zR_k4 (by omega)) (by omega)
      have F_S7 := zz_fr.putv F_S0 qS7 (rfl)
      refine zz_aload_n (x := 1076) rfl zd_3_15_32 ?_
      refine zz_dup rfl zd_3_15_33 ?_
      refine zz_geti (z := S0 1076 1) zd_3_15_34 zf_Compiler_15 zT_1076 rfl (zz_ltn hn rfl) (zz_ro qS7 (fun h => absurd h.1 (by have := zz_rf4 (z := S0 1076 0) (by omega); omega)) rfl) ?_
      refine zz_iconst zd_3_15_37 ?_
      refine zz_iadd zd_3_15_38 ?_
      refine zz_puti zd_3_15_39 zf_Compiler_15 zT_1076 rfl (zz_ltn hn rfl) (fun S8 qS8 => ?_)
      have G_S8 := zz_G.put G_S7 qS8 0 1000000 rfl (by omega)
      have F_S8 := zz_fr.puts F_S7 qS8 rfl
      have e9 : S8 1076 1 = (S0 1076 1) + 1 := (zz_rs qS8)
      exact zz_vret zd_3_15_42 rfl (Nat.zero_le _) (Nat.zero_le _) ⟨_, rfl, G_S8, F_S8, by omega⟩
theorem zk_Compiler_143 : mm_Vl "TensorForge$Compiler" 143 9 1 zy_emit_3_15 := ⟨zyw_emit_3_15, (R_Compiler, F_Compiler, 17), rfl, mm_tb_1 1437 (by decide +kernel) rfl, mm_tb_1 1439 (by decide +kernel) rfl, mm_tb_s 67 (by decide +kernel) rfl⟩
theorem zg_3_12_49 : zq_at zy_makeWaits_3_12.2.1 49 42 ∧ zq_at zy_makeWaits_3_12.2.1 50 180 ∧ zq_at zy_makeWaits_3_12.2.1 51 0 ∧ zq_at zy_makeWaits_3_12.2.1 52 73 ∧ zq_at zy_makeWaits_3_12.2.1 53 4 ∧ zq_at zy_makeWaits_3_12.2.1 54 164 ∧ zq_at zy_makeWaits_3_12.2.1 55 0 ∧ zq_at zy_makeWaits_3_12.2.1 56 7 ∧ zq_at zy_makeWaits_3_12.2.1 61 5 ∧ zq_at zy_makeWaits_3_12.2.1 62 62 ∧ zq_at zy_makeWaits_3_12.2.1 63 3 ∧ zq_at zy_makeWaits_3_12.2.1 64 54 ∧ zq_at zy_makeWaits_3_12.2.1 65 4 ∧ zq_at zy_makeWaits_3_12.2.1 57 6 ∧ zq_at zy_makeWaits_3_12.2.1 58 167 ∧ zq_at zy_makeWaits_3_12.2.1 59 0 ∧ zq_at zy_makeWaits_3_12.2.1 60 4 ∧ zq_at zy_makeWaits_3_12.2.1 20 42 ∧ zq_at zy_makeWaits_3_12.2.1 21 31 ∧ zq_at zy_makeWaits_3_12.2.1 22 16 ∧ zq_at zy_makeWaits_3_12.2.1 23 11 ∧ zq_at zy_makeWaits_3_12.2.1 24 4 := by decide +kernel
theorem zd_3_12_49 : zz_D zy_makeWaits_3_12 49 (.aload_n 0) 1 50 := ⟨zq_42 zg_3_12_49.1, rfl⟩
theorem zd_3_12_50 : zz_D zy_makeWaits_3_12 50 (.getfield 73) 3 53 := ⟨zq_180 zg_3_12_49.2.1 zg_3_12_49.2.2.1 zg_3_12_49.2.2.2.1 rfl, rfl⟩
theorem zd_3_12_53 : zz_D zy_makeWaits_3_12 53 (.iconst 1) 1 54 := ⟨zq_4 zg_3_12_49.2.2.2.2.1, rfl⟩
theorem zd_3_12_54 : zz_B zy_makeWaits_3_12 54 (Instr.if_icmp .le) 61 57 := ⟨7, zq_164 zg_3_12_49.2.2.2.2.2.1 zg_3_12_49.2.2.2.2.2.2.1 zg_3_12_49.2.2.2.2.2.2.2.1 (by decide), rfl, rfl⟩
theorem zd_3_12_61 : zz_D zy_makeWaits_3_12 61 (.iconst 2) 1 62 := ⟨zq_5 zg_3_12_49.2.2.2.2.2.2.2.2.1, rfl⟩
theorem zd_3_12_62 : zz_D zy_makeWaits_3_12 62 (.istore_n 3) 1 63 := ⟨zq_62 zg_3_12_49.2.2.2.2.2.2.2.2.2.1, rfl⟩
theorem zd_3_12_63 : zz_D zy_makeWaits_3_12 63 (.iconst 0) 1 64 := ⟨zq_3 zg_3_12_49.2.2.2.2.2.2.2.2.2.2.1, rfl⟩
theorem zd_3_12_64 : zz_D zy_makeWaits_3_12 64 (.istore 4) 2 66 := ⟨zq_54 zg_3_12_49.2.2.2.2.2.2.2.2.2.2.2.1 zg_3_12_49.2.2.2.2.2.2.2.2.2.2.2.2.1, rfl⟩
theorem zd_3_12_57 : zz_D zy_makeWaits_3_12 57 (.iconst 3) 1 58 := ⟨zq_6 zg_3_12_49.2.2.2.2.2.2.2.2.2.2.2.2.2.1, rfl⟩
theorem zd_3_12_58 : zz_B zy_makeWaits_3_12 58 Instr.goto 62 61 := ⟨4, zq_167 zg_3_12_49.2.2.2.2.2.2.2.2.2.2.2.2.2.2.1 zg_3_12_49.2.2.2.2.2.2.2.2.2.2.2.2.2.2.2.1 zg_3_12_49.2.2.2.2.2.2.2.2.2.2.2.2.2.2.2.2.1 (by decide), rfl, rfl⟩
theorem zd_3_12_20 : zz_D zy_makeWaits_3_12 20 (.aload_n 0) 1 21 := ⟨zq_42 zg_3_12_49.2.2.2.2.2.2.2.2.2.2.2.2.2.2.2.2.2.1, rfl⟩
theorem zd_3_12_21 : zz_D zy_makeWaits_3_12 21 (.lload_n 1) 1 22 := ⟨zq_31 zg_3_12_49.2.2.2.2.2.2.2.2.2.2.2.2.2.2.2.2.2.2.1, rfl⟩
theorem zd_3_12_22 : zz_D zy_makeWaits_3_12 22 (.bipush 11) 2 24 := ⟨zq_16 zg_3_12_49.2.2.2.2.2.2.2.2.2.2.2.2.2.2.2.2.2.2.2.1 zg_3_12_49.2.2.2.2.2.2.2.2.2.2.2.2.2.2.2.2.2.2.2.2.1 (by decide), rfl⟩
theorem zd_3_12_24 : zz_D zy_makeWaits_3_12 24 (.iconst 1) 1 25 := ⟨zq_4 zg_3_12_49.2.2.2.2.2.2.2.2.2.2.2.2.2.2.2.2.2.2.2.2.2, rfl⟩
theorem zg_3_12_25 : zq_at zy_makeWaits_3_12.2.1 25 184 ∧ zq_at zy_makeWaits_3_12.2.1 26 0 ∧ zq_at zy_makeWaits_3_12.2.1 27 132 ∧ zq_at zy_makeWaits_3_12.2.1 28 129 ∧ zq_at zy_makeWaits_3_12.2.1 29 182 ∧ zq_at zy_makeWaits_3_12.2.1 30 0 ∧ zq_at zy_makeWaits_3_12.2.1 31 143 ∧ zq_at zy_makeWaits_3_12.2.1 66 21 ∧ zq_at zy_makeWaits_3_12.2.1 67 4 ∧ zq_at zy_makeWaits_3_12.2.1 68 29 ∧ zq_at zy_makeWaits_3_12.2.1 69 162 ∧ zq_at zy_makeWaits_3_12.2.1 70 0 ∧ zq_at zy_makeWaits_3_12.2.1 71 14 ∧ zq_at zy_makeWaits_3_12.2.1 72 42 ∧ zq_at zy_makeWaits_3_12.2.1 73 31 ∧ zq_at zy_makeWaits_3_12.2.1 74 182 ∧ zq_at zy_makeWaits_3_12.2.1 75 0 ∧ zq_at zy_makeWaits_3_12.2.1 76 143 ∧ zq_at zy_makeWaits_3_12.2.1 77 132 ∧ zq_at zy_makeWaits_3_12.2.1 78 4 ∧ zq_at zy_makeWaits_3_12.2.1 79 1 ∧ zq_at zy_makeWaits_3_12.2.1 80 167 ∧ zq_at zy_makeWaits_3_12.2.1 81 255 ∧ zq_at zy_makeWaits_3_12.2.1 82 242 := by decide +kernel
theorem zd_3_12_25 : zz_D zy_makeWaits_3_12 25 (.invokestatic 132) 3 28 := ⟨zq_184 zg_3_12_25.1 zg_3_12_25.2.1 zg_3_12_25.2.2.1 rfl, rfl⟩
theorem zd_3_12_28 : zz_D zy_makeWaits_3_12 28 (.lor) 1 29 := ⟨zq_129 zg_3_12_25.2.2.2.1, rfl⟩
theorem zd_3_12_29 : zz_D zy_makeWaits_3_12 29 (.invokevirtual 143) 3 32 := ⟨zq_182 zg_3_12_25.2.2.2.2.1 zg_3_12_25.2.2.2.2.2.1 zg_3_12_25.2.2.2.2.2.2.1 rfl, rfl⟩
theorem zd_3_12_66 : zz_D zy_makeWaits_3_12 66 (.iload 4) 2 68 := ⟨zq_21 zg_3_12_25.2.2.2.2.2.2.2.1 zg_3_12_25.2.2.2.2.2.2.2.2.1, rfl⟩
theorem zd_3_12_68 : zz_D zy_makeWaits_3_12 68 (.iload_n 3) 1 69 := ⟨zq_29 zg_3_12_25.2.2.2.2.2.2.2.2.2.1, rfl⟩
theorem zd_3_12_69 : zz_B zy_makeWaits_3_12 69 (Instr.if_icmp .ge) 83 72 := ⟨14, zq_162 zg_3_12_25.2.2.2.2.2.2.2.2.2.2.1 zg_3_12_25.2.2.2.2.2.2.2.2.2.2.2.1 zg_3_12_25.2.2.2.2.2.2.2.2.2.2.2.2.1 (by decide), rfl, rfl⟩
theorem zd_3_12_72 : zz_D zy_makeWaits_3_12 72 (.aload_n 0) 1 73 := ⟨zq_42 zg_3_12_25.2.2.2.2.2.2.2.2.2.2.2.2.2.1, rfl⟩
theorem zd_3_12_73 : zz_D zy_makeWaits_3_12 73 (.lload_n 1) 1 74 := ⟨zq_31 zg_3_12_25.2.2.2.2.2.2.2.2.2.2.2.2.2.2.1, rfl⟩
theorem zd_3_12_74 : zz_D zy_makeWaits_3_12 74 (.invokevirtual 143) 3 77 := ⟨zq_182 zg_3_12_25.2.2.2.2.2.2.2.2.2.2.2.2.2.2.2.1 zg_3_12_25.2.2.2.2.2.2.2.2.2.2.2.2.2.2.2.2.1 zg_3_12_25.2.2.2.2.2.2.2.2.2.2.2.2.2.2.2.2.2.1 rfl, rfl⟩
theorem zd_3_12_77 : zz_D zy_makeWaits_3_12 77 (.iinc 4 1) 3 80 := ⟨zq_132 zg_3_12_25.2.2.2.2.2.2.2.2.2.2.2.2.2.2.2.2.2.2.1 zg_3_12_25.2.2.2.2.2.2.2.2.2.2.2.2.2.2.2.2.2.2.2.1 zg_3_12_25.2.2.2.2.2.2.2.2.2.2.2.2.2.2.2.2.2.2.2.2.1 (by decide), rfl⟩
theorem zd_3_12_80 : zz_B zy_makeWaits_3_12 80 Instr.goto 66 83 := ⟨(-14), zq_167 zg_3_12_25.2.2.2.2.2.2.2.2.2.2.2.2.2.2.2.2.2.2.2.2.2.1 zg_3_12_25.2.2.2.2.2.2.2.2.2.2.2.2.2.2.2.2.2.2.2.2.2.2.1 zg_3_12_25.2.2.2.2.2.2.2.2.2.2.2.2.2.2.2.2.2.2.2.2.2.2.2 (by decide), rfl, rfl⟩
theorem zg_3_12_83 : zq_at zy_makeWaits_3_12.2.1 83 177 := by decide +kernel
theorem zd_3_12_83 : zz_D zy_makeWaits_3_12 83 (.return_) 1 84 := ⟨zq_177 zg_3_12_83, rfl⟩
-- TensorForge$Compiler makeWaits ()V
abbrev zr_makeWaits_3_12 : Room := { frames := 2, cells := 0, slots := 0, locals := 28 }
def zp_makeWaits_3_12  (S0 : zz_S) : zz_S → Prop := fun S => zz_G S ∧ zz_fr [(1076, 1)] [1029, 1030] (fun _ _ => False) S0 S ∧ (S0 1076 1 ≤ S 1076 1 ∧ S 1076 1 ≤ S0 1076 1 + 5)
theorem zb_makeWaits_3_12_66 {g : mm_G} {l : Launch}  (S0 : zz_S) (n : Nat) (hn : zz_end ≤ n) (G_S0 : zz_G S0) (hq : S0 1076 1 ≤ 900000) (x1 : Int) (x3 : Int) (x4 : Int) (S : zz_S) (G_S : zz_G S) (F_S : zz_fr [(1076, 1)] [1029, 1030] (fun _ _ => False) S0 S) (i66_0 : (-9223372036854775808) ≤ x1 ∧ x1 ≤ 9223372036854775807) (i66_1 : 2 ≤ x3 ∧ x3 ≤ 3) (i66_2 : 0 ≤ x4 ∧ x4 ≤ 3) (i66_3 : S0 1076 1 + 1 ≤ S 1076 1 ∧ S 1076 1 ≤ S0 1076 1 + 2 + x4) (R : Nat) (hR : (x3 - x4).toNat = R) (k66 : ∀ (x1 : Int) (x3 : Int) (x4 : Int) (S : zz_S), zz_G S → zz_fr [(1076, 1)] [1029, 1030] (fun _ _ => False) S0 S → ((-9223372036854775808) ≤ x1 ∧ x1 ≤ 9223372036854775807) → (2 ≤ x3 ∧ x3 ≤ 3) → (0 ≤ x4 ∧ x4 ≤ 3) → (S0 1076 1 + 1 ≤ S 1076 1 ∧ S 1076 1 ≤ S0 1076 1 + 2 + x4) → (x3 - x4).toNat < R → zz_E g l zy_makeWaits_3_12 zr_makeWaits_3_12 (zz_QV n (zp_makeWaits_3_12  S0)) S n 66 [some (.ref 1076), some (zl x1), none, some (zi x3), some (zi x4)] [] 0 0) : zz_E g l zy_makeWaits_3_12 zr_makeWaits_3_12 (zz_QV n (zp_makeWaits_3_12  S0)) S n 66 [some (.ref 1076), some (zl x1), none, some (zi x3), some (zi x4)] [] 0 0 := by
  refine zz_iload (x := x4) rfl zd_3_12_66 ?_
  refine zz_iload_n (x := x3) rfl zd_3_12_68 ?_
  refine zz_icmp_ge (by omega) (by omega) zd_3_12_69 (fun c56 => ?_) (fun c56 => ?_)
  · have g57 := zz_G.r G_S 1076 1 0 1000000 rfl rfl
    exact zz_vret zd_3_12_83 rfl (Nat.zero_le _) (Nat.zero_le _) ⟨_, rfl, G_S, F_S, by omega⟩
  · refine zz_aload_n (x := 1076) rfl zd_3_12_72 ?_
    refine zz_lload_n (x := x1) rfl zd_3_12_73 ?_
    have g58 := zz_G.r G_S 1076 1 0 1000000 rfl rfl
    refine zz_callVV [zl x1] zd_3_12_74 zk_Compiler_143 zT_1076 (zz_ltn hn rfl) rfl rfl ⟨Nat.le_of_ble_eq_true rfl, Nat.le_of_ble_eq_true rfl⟩ ⟨rfl, rfl⟩ (Nat.zero_le _) (Nat.zero_le _) (zc_emit_3_15 x1 S n hn G_S (by omega) (by omega)) (fun S59 hP => ?_)
    obtain ⟨G_S59, fS59, o61⟩ := hP
    have g62 := zz_G.r G_S 1076 0 0 1 rfl rfl
    have F_S59 := zz_fr.trans F_S fS59 rfl (fun a i h => Or.inr (Or.inl (h ▸ zM_k4 (z := (S 1076 0)) (by omega) rfl)))
    have b63 := zz_rf4 (z := (S 1076 0)) (by omega)
    refine zz_iinc [some (.ref 1076), some (zl x1), none, some (zi x3), some (zi (x4 + 1))] zd_3_12_77 rfl rfl ?_
    refine zz_goto zd_3_12_80 ?_
    have g64 := zz_G.r G_S59 1076 1 0 1000000 rfl rfl
    refine zz_less (ls1 := [some (.ref 1076), some (zl x1), none, some (zi x3), some (zi (x4 + 1))]) ⟨rfl, ⟨rfl, ⟨rfl, ⟨rfl, trivial⟩⟩⟩⟩ ?_
    exact k66 x1 x3 (x4 + 1) S59 G_S59 F_S59 (by omega) (by omega) (by omega) (by omega) (by omega)
theorem zi_makeWaits_3_12 {g : mm_G} {l : Launch}  (S0 : zz_S) (n : Nat) (hn : zz_end ≤ n) (G_S0 : zz_G S0) (hq : S0 1076 1 ≤ 900000) : ∀ N : Nat, (∀ (x1 : Int) (x3 : Int) (x4 : Int) (S : zz_S), zz_G S → zz_fr [(1076, 1)] [1029, 1030] (fun _ _ => False) S0 S → ((-9223372036854775808) ≤ x1 ∧ x1 ≤ 9223372036854775807) → (2 ≤ x3 ∧ x3 ≤ 3) → (0 ≤ x4 ∧ x4 ≤ 3) → (S0 1076 1 + 1 ≤ S 1076 1 ∧ S 1076 1 ≤ S0 1076 1 + 2 + x4) → (x3 - x4).toNat < N → zz_E g l zy_makeWaits_3_12 zr_makeWaits_3_12 (zz_QV n (zp_makeWaits_3_12  S0)) S n 66 [some (.ref 1076), some (zl x1), none, some (zi x3), some (zi x4)] [] 0 0) := by
  intro N
  induction N with
  | zero => exact fun x1 x3 x4 S _ _ _ _ _ _ h => absurd h (Nat.not_lt_zero _)
  | succ N ih =>
    exact fun x1 x3 x4 S a b j0 j1 j2 j3 hR => zb_makeWaits_3_12_66  S0 n hn G_S0 hq x1 x3 x4 S a b j0 j1 j2 j3 _ rfl (fun x1 x3 x4 S a b j0 j1 j2 j3 h => ih x1 x3 x4 S a b j0 j1 j2 j3 (Nat.lt_of_lt_of_le h (Nat.le_of_lt_succ hR)))
theorem zc_makeWaits_3_12 {g : mm_G} {l : Launch}  (S0 : zz_S) (n : Nat) (hn : zz_end ≤ n) (G_S0 : zz_G S0) (hq : S0 1076 1 ≤ 900000) : mm_Met g l zy_makeWaits_3_12 zr_makeWaits_3_12 [.ref 1076] (zz_M S0 n) n (zz_QV n (zp_makeWaits_3_12  S0)) := by
  refine zz_enter (by decide) (Nat.le_of_ble_eq_true rfl) (zz_less (ls1 := [some (.ref 1076)]) ⟨rfl, trivial⟩ ?_)
  have F_S0 : zz_fr [(1076, 1)] [1029, 1030] (fun _ _ => False) S0 S0 := zz_fr.refl
  have k66 : ∀ (x1 : Int) (x3 : Int) (x4 : Int) (S : zz_S), zz_G S → zz_fr [(1076, 1)] [1029, 1030] (fun _ _ => False) S0 S → ((-9223372036854775808) ≤ x1 ∧ x1 ≤ 9223372036854775807) → (2 ≤ x3 ∧ x3 ≤ 3) → (0 ≤ x4 ∧ x4 ≤ 3) → (S0 1076 1 + 1 ≤ S 1076 1 ∧ S 1076 1 ≤ S0 1076 1 + 2 + x4) → zz_E g l zy_makeWaits_3_12 zr_makeWaits_3_12 (zz_QV n (zp_makeWaits_3_12  S0)) S n 66 [some (.ref 1076), some (zl x1), none, some (zi x3), some (zi x4)] [] 0 0 := fun x1 x3 x4 S a b j0 j1 j2 j3 => (zi_makeWaits_3_12 (g := g) (l := l)  S0 n hn G_S0 hq _) x1 x3 x4 S a b j0 j1 j2 j3 (Nat.lt_succ_self _)
  refine zz_iconst zd_3_12_0 ?_
  refine zz_bipush (by decide) zd_3_12_1 ?_
  refine zz_callSJ [zi 0, zi 9] zd_3_12_3 zk_Compiler_132 rfl rfl ⟨Nat.le_of_ble_eq_true rfl, Nat.le_of_ble_eq_true rfl⟩ ⟨rfl, rfl⟩ (Nat.zero_le _) (Nat.zero_le _) (zc_bits_12_4 0 9 S0 n hn G_S0 (by omega) (by omega)) (fun v2 S1 hP => ?_)
  obtain ⟨rfl, o3⟩ := hP
  refine zz_iconst zd_3_12_6 ?_
  refine zz_callSJ [zi 2] zd_3_12_7 zk_Compiler_139 rfl rfl ⟨Nat.le_of_ble_eq_true rfl, Nat.le_of_ble_eq_true rfl⟩ ⟨rfl, rfl⟩ (Nat.zero_le _) (Nat.zero_le _) (zc_flag_12_5 2 S0 n hn G_S0 (by omega)) (fun v5 S4 hP => ?_)
  obtain ⟨rfl, o6⟩ := hP
  refine zz_lor zd_3_12_10 (fun v7 hv7 ev7 => ?_)
  refine zz_lstore_n [some (.ref 1076), some (zl v7), none] zd_3_12_11 (by decide) rfl ?_
  refine zz_aload_n (x := 1076) rfl zd_3_12_12 ?_
  have g8 := zz_G.r G_S0 1076 6 (-2147483648) 2147483647 rfl rfl
  refine zz_geti (z := S0 1076 6) zd_3_12_13 zf_Compiler_70 zT_1076 rfl (zz_ltn hn rfl) rfl ?_
  refine zz_iconst zd_3_12_16 ?_
  refine zz_icmp_le (by omega) (by omega) zd_3_12_17 (fun c9 => ?_) (fun c9 => ?_)
  · refine zz_aload_n (x := 1076) rfl zd_3_12_32 ?_
    refine zz_lload_n (x := v7) rfl zd_3_12_33 ?_
    refine zz_bipush (by decide) zd_3_12_34 ?_
    refine zz_iconst zd_3_12_36 ?_
    refine zz_callSJ [zi 11, zi 1] zd_3_12_37 zk_Compiler_132 rfl rfl ⟨Nat.le_of_ble_eq_true rfl, Nat.le_of_ble_eq_true rfl⟩ ⟨rfl, rfl⟩ (Nat.zero_le _) (Nat.zero_le _) (zc_bits_12_4 11 1 S0 n hn G_S0 (by omega) (by omega)) (fun v11 S10 hP => ?_)
    obtain ⟨rfl, o12⟩ := hP
    refine zz_lor zd_3_12_40 (fun v13 hv13 ev13 => ?_)
    refine zz_iconst zd_3_12_41 ?_
    refine zz_callSJ [zi 3] zd_3_12_42 zk_Compiler_139 rfl rfl ⟨Nat.le_of_ble_eq_true rfl, Nat.le_of_ble_eq_true rfl⟩ ⟨rfl, rfl⟩ (Nat.zero_le _) (Nat.zero_le _) (zc_flag_12_5 3 S0 n hn G_S0 (by omega)) (fun v15 S14 hP => ?_)
    obtain ⟨rfl, o16⟩ := hP
    refine zz_lor zd_3_12_45 (fun v17 hv17 ev17 => ?_)
    have g18 := zz_G.r G_S0 1076 1 0 1000000 rfl rfl
    refine zz_callVV [zl v17] zd_3_12_46 zk_Compiler_143 zT_1076 (zz_ltn hn rfl) rfl rfl ⟨Nat.le_of_ble_eq_true rfl, Nat.le_of_ble_eq_true rfl⟩ ⟨rfl, rfl⟩ (Nat.zero_le _) (Nat.zero_le _) (zc_emit_3_15 v17 S0 n hn G_S0 (by omega) (by omega)) (fun S19 hP => ?_)
    obtain ⟨G_S19, fS19, o21⟩ := hP
    have g22 := zz_G.r G_S0 1076 0 0 1 rfl rfl
    have F_S19 := zz_fr.trans F_S0 fS19 rfl (fun a i h => Or.inr (Or.inl (h ▸ zM_k4 (z := (S0 1076 0)) (by omega) rfl)))
    have b23 := zz_rf4 (z := (S0 1076 0)) (by omega)
    refine zz_aload_n (x := 1076) rfl zd_3_12_49 ?_
    have g24 := zz_G.r G_S0 1076 12 (-2147483648) 2147483647 rfl rfl
    refine zz_geti (z := S0 1076 12) zd_3_12_50 zf_Compiler_73 zT_1076 rfl (zz_ltn hn rfl) (zz_rc fS19 rfl rfl (by first | decide | omega) rfl) ?_
    refine zz_iconst zd_3_12_53 ?_
    refine zz_icmp_le (by omega) (by omega) zd_3_12_54 (fun c25 => ?_) (fun c25 => ?_)
    · refine zz_iconst zd_3_12_61 ?_
      refine zz_istore_n [some (.ref 1076), some (zl v7), none, some (zi 2)] zd_3_12_62 (by decide) rfl ?_
      refine zz_iconst zd_3_12_63 ?_
      refine zz_istore [some (.ref 1076), some (zl v7), none, some (zi 2), some (zi 0)] zd_3_12_64 (by decide) rfl ?_
      have g26 := zz_G.r G_S19 1076 1 0 1000000 rfl rfl
      refine zz_less (ls1 := [some (.ref 1076), some (zl v7), none, some (zi 2), some (zi 0)]) ⟨rfl, ⟨rfl, ⟨rfl, ⟨rfl, trivial⟩⟩⟩⟩ ?_
      exact k66 v7 2 0 S19 G_S19 F_S19 (by omega) (by omega) (by omega) (by omega)
    · refine zz_iconst zd_3_12_57 ?_
      refine zz_goto zd_3_12_58 ?_
      refine zz_istore_n [some (.ref 1076), some (zl v7), none, some (zi 3)] zd_3_12_62 (by decide) rfl ?_
      refine zz_iconst zd_3_12_63 ?_
      refine zz_istore [some (.ref 1076), some (zl v7), none, some (zi 3), some (zi 0)] zd_3_12_64 (by decide) rfl ?_
      have g27 := zz_G.r G_S19 1076 1 0 1000000 rfl rfl
      refine zz_less (ls1 := [some (.ref 1076), some (zl v7), none, some (zi 3), some (zi 0)]) ⟨rfl, ⟨rfl, ⟨rfl, ⟨rfl, trivial⟩⟩⟩⟩ ?_
      exact k66 v7 3 0 S19 G_S19 F_S19 (by omega) (by omega) (by omega) (by omega)
  · refine zz_aload_n (x := 1076) rfl zd_3_12_20 ?_
    refine zz_lload_n (x := v7) rfl zd_3_12_21 ?_
    refine zz_bipush (by decide) zd_3_12_22 ?_
    refine zz_iconst zd_3_12_24 ?_
    refine zz_callSJ [zi 11, zi 1] zd_3_12_25 zk_Compiler_132 rfl rfl ⟨Nat.le_of_ble_eq_true rfl, Nat.le_of_ble_eq_true rfl⟩ ⟨rfl, rfl⟩ (Nat.zero_le _) (Nat.zero_le _) (zc_bits_12_4 11 1 S0 n hn G_S0 (by omega) (by omega)) (fun v29 S28 hP => ?_)
    obtain ⟨rfl, o30⟩ := hP
    refine zz_lor zd_3_12_28 (fun v31 hv31 ev31 => ?_)
    have g32 := zz_G.r G_S0 1076 1 0 1000000 rfl rfl
    refine zz_callVV [zl v31] zd_3_12_29 zk_Compiler_143 zT_1076 (zz_ltn hn rfl) rfl rfl ⟨Nat.le_of_ble_eq_true rfl, Nat.le_of_ble_eq_true rfl⟩ ⟨rfl, rfl⟩ (Nat.zero_le _) (Nat.zero_le _) (zc_emit_3_15 v31 S0 n hn G_S0 (by omega) (by omega)) (fun S33 hP => ?_)
    obtain ⟨G_S33, fS33, o35⟩ := hP
    have g36 := zz_G.r G_S0 1076 0 0 1 rfl rfl
    have F_S33 := zz_fr.trans F_S0 fS33 rfl (fun a i h => Or.inr (Or.inl (h ▸ zM_k4 (z := (S0 1076 0)) (by omega) rfl)))
    have b37 := zz_rf4 (z := (S0 1076 0)) (by omega)
    refine zz_aload_n (x := 1076) rfl zd_3_12_32 ?_
    refine zz_lload_n (x := v7) rfl zd_3_12_33 ?_
    refine zz_bipush (by decide) zd_3_12_34 ?_
    refine zz_iconst zd_3_12_36 ?_
    refine zz_callSJ [zi 11, zi 1] zd_3_12_37 zk_Compiler_132 rfl rfl ⟨Nat.le_of_ble_eq_true rfl, Nat.le_of_ble_eq_true rfl⟩ ⟨rfl, rfl⟩ (Nat.zero_le _) (Nat.zero_le _) (zc_bits_12_4 11 1 S33 n hn G_S33 (by omega) (by omega)) (fun v39 S38 hP => ?_)
    obtain ⟨rfl, o40⟩ := hP
    refine zz_lor zd_3_12_40 (fun v41 hv41 ev41 => ?_)
    refine zz_iconst zd_3_12_41 ?_
    refine zz_callSJ [zi 3] zd_3_12_42 zk_Compiler_139 rfl rfl ⟨Nat.le_of_ble_eq_true rfl, Nat.le_of_ble_eq_true rfl⟩ ⟨rfl, rfl⟩ (Nat.zero_le _) (Nat.zero_le _) (zc_flag_12_5 3 S33 n hn G_S33 (by omega)) (fun v43 S42 hP => ?_)
    obtain ⟨rfl, o44⟩ := hP
    refine zz_lor zd_3_12_45 (fun v45 hv45 ev45 => ?_)
    have g46 := zz_G.r G_S33 1076 1 0 1000000 rfl rfl
    refine zz_callVV [zl v45] zd_3_12_46 zk_Compiler_143 zT_1076 (zz_ltn hn rfl) rfl rfl ⟨Nat.le_of_ble_eq_true rfl, Nat.le_of_ble_eq_true rfl⟩ ⟨rfl, rfl⟩ (Nat.zero_le _) (Nat.zero_le _) (zc_emit_3_15 v45 S33 n hn G_S33 (by omega) (by omega)) (fun S47 hP => ?_)
    obtain ⟨G_S47, fS47, o49⟩ := hP
    have g50 := zz_G.r G_S33 1076 0 0 1 rfl rfl
    have F_S47 := zz_fr.trans F_S33 fS47 rfl (fun a i h => Or.inr (Or.inl (h ▸ zM_k4 (z := (S33 1076 0)) (by omega) rfl)))
    have b51 := zz_rf4 (z := (S33 1076 0)) (by omega)
    refine zz_aload_n (x := 1076) rfl zd_3_12_49 ?_
    have g52 := zz_G.r G_S0 1076 12 (-2147483648) 2147483647 rfl rfl
    refine zz_geti (z := S0 1076 12) zd_3_12_50 zf_Compiler_73 zT_1076 rfl (zz_ltn hn rfl) (zz_rc fS47 rfl rfl (by first | decide | omega) (zz_rc fS33 rfl rfl (by first | decide | omega) rfl)) ?_
    refine zz_iconst zd_3_12_53 ?_
    refine zz_icmp_le (by omega) (by omega) zd_3_12_54 (fun c53 => ?_) (fun c53 => ?_)
    · refine zz_iconst zd_3_12_61 ?_
      refine zz_istore_n [some (.ref 1076), some (zl v7), none, some (zi 2)] zd_3_12_62 (by decide) rfl ?_
      refine zz_iconst zd_3_12_63 ?_
      refine zz_istore [some (.ref 1076), some (zl v7), none, some (zi 2), some (zi 0)] zd_3_12_64 (by decide) rfl ?_
      have g54 := zz_G.r G_S47 1076 1 0 1000000 rfl rfl
      refine zz_less (ls1 := [some (.ref 1076), some (zl v7), none, some (zi 2), some (zi 0)]) ⟨rfl, ⟨rfl, ⟨rfl, ⟨rfl, trivial⟩⟩⟩⟩ ?_
      exact k66 v7 2 0 S47 G_S47 F_S47 (by omega) (by omega) (by omega) (by omega)
    · refine zz_iconst zd_3_12_57 ?_
      refine zz_goto zd_3_12_58 ?_
      refine zz_istore_n [some (.ref 1076), some (zl v7), none, some (zi 3)] zd_3_12_62 (by decide) rfl ?_
      refine zz_iconst zd_3_12_63 ?_
      refine zz_istore [some (.ref 1076), some (zl v7), none, some (zi 3), some (zi 0)] zd_3_12_64 (by decide) rfl ?_
      have g55 := zz_G.r G_S47 1076 1 0 1000000 rfl rfl
      refine zz_less (ls1 := [some (.ref 1076), some (zl v7), none, some (zi 3), some (zi 0)]) ⟨rfl, ⟨rfl, ⟨rfl, ⟨rfl, trivial⟩⟩⟩⟩ ?_
      exact k66 v7 3 0 S47 G_S47 F_S47 (by omega) (by omega) (by omega) (by omega)
theorem zk_Compiler_97 : mm_Vl "TensorForge$Compiler" 97 9 0 zy_makeWaits_3_12 := ⟨zyw_makeWaits_3_12, (R_Compiler, F_Compiler, 17), rfl, mm_tb_1 1476 (by decide +kernel) rfl, mm_tb_1 1478 (by decide +kernel) rfl, mm_tb_s 75 (by decide +kernel) rfl⟩
theorem zf_Compiler_82 : mm_Fl "TensorForge$Compiler" 82 9 8 .int false := ⟨R_Compiler, F_Compiler, 17, t_Compiler, rfl, i_Compiler, by decide, mm_tb_1 383 (by decide +kernel) rfl, rfl, t_Compiler_ok, n_Compiler, rfl, by decide +kernel⟩
theorem zf_Compiler_85 : mm_Fl "TensorForge$Compiler" 85 9 9 .int false := ⟨R_Compiler, F_Compiler, 17, t_Compiler, rfl, i_Compiler, by decide, mm_tb_1 384 (by decide +kernel) rfl, rfl, t_Compiler_ok, n_Compiler, rfl, by decide +kernel⟩
theorem zf_Compiler_88 : mm_Fl "TensorForge$Compiler" 88 9 10 .int false := ⟨R_Compiler, F_Compiler, 17, t_Compiler, rfl, i_Compiler, by decide, mm_tb_1 385 (by decide +kernel) rfl, rfl, t_Compiler_ok, n_Compiler, rfl, by decide +kernel⟩
theorem zf_Compiler_91 : mm_Fl "TensorForge$Compiler" 91 9 11 .int false := ⟨R_Compiler, F_Compiler, 17, t_Compiler, rfl, i_Compiler, by decide, mm_tb_1 386 (by decide +kernel) rfl, rfl, t_Compiler_ok, n_Compiler, rfl, by decide +kernel⟩
abbrev zy_makeTile_3_4 : mm_Y := (⟨"TensorForge$Compiler", "makeTile", "()V"⟩, prog_3_method_4_code, 10, none)
theorem zyw_makeTile_3_4 : mm_Yw zy_makeTile_3_4 0 := ⟨mm_tb_1 1419 (by decide +kernel) rfl, mm_tb_1 10 (by decide +kernel) rfl, ⟨by decide, by decide⟩, by decide +kernel⟩
theorem zf_Compiler_100 : mm_Fl "TensorForge$Compiler" 100 2 3 .int false := ⟨R_Layer, F_Layer, 15, t_Layer, rfl, i_Layer, by decide, mm_tb_1 69 (by decide +kernel) rfl, rfl, t_Layer_ok, n_Layer, rfl, by decide +kernel⟩
theorem zf_Compiler_103 : mm_Fl "TensorForge$Compiler" 103 2 4 .int false := ⟨R_Layer, F_Layer, 15, t_Layer, rfl, i_Layer, by decide, mm_tb_1 73 (by decide +kernel) rfl, rfl, t_Layer_ok, n_Layer, rfl, by decide +kernel⟩
theorem zf_Compiler_106 : mm_Fl "TensorForge$Compiler" 106 9 13 .int false := ⟨R_Compiler, F_Compiler, 17, t_Compiler, rfl, i_Compiler, by decide, mm_tb_1 388 (by decide +kernel) rfl, rfl, t_Compiler_ok, n_Compiler, rfl, by decide +kernel⟩
abbrev zy_tileHalf_3_13 : mm_Y := (⟨"TensorForge$Compiler", "tileHalf", "()I"⟩, prog_3_method_13_code, 1, (some .int))
theorem zyw_tileHalf_3_13 : mm_Yw zy_tileHalf_3_13 0 := ⟨mm_tb_1 1434 (by decide +kernel) rfl, mm_tb_1 10 (by decide +kernel) rfl, ⟨by decide, by decide⟩, by decide +kernel⟩
theorem zg_3_3_321 : zq_at zy_makeLayer_3_3.2.1 321 177 ∧ zq_at zy_makeLayer_3_3.2.1 192 42 ∧ zq_at zy_makeLayer_3_3.2.1 193 42 ∧ zq_at zy_makeLayer_3_3.2.1 194 180 ∧ zq_at zy_makeLayer_3_3.2.1 195 0 ∧ zq_at zy_makeLayer_3_3.2.1 196 21 ∧ zq_at zy_makeLayer_3_3.2.1 197 42 ∧ zq_at zy_makeLayer_3_3.2.1 198 180 ∧ zq_at zy_makeLayer_3_3.2.1 199 0 ∧ zq_at zy_makeLayer_3_3.2.1 200 51 ∧ zq_at zy_makeLayer_3_3.2.1 201 180 ∧ zq_at zy_makeLayer_3_3.2.1 202 0 ∧ zq_at zy_makeLayer_3_3.2.1 203 79 ∧ zq_at zy_makeLayer_3_3.2.1 204 42 ∧ zq_at zy_makeLayer_3_3.2.1 205 180 ∧ zq_at zy_makeLayer_3_3.2.1 206 0 ∧ zq_at zy_makeLayer_3_3.2.1 207 76 ∧ zq_at zy_makeLayer_3_3.2.1 208 100 ∧ zq_at zy_makeLayer_3_3.2.1 209 184 ∧ zq_at zy_makeLayer_3_3.2.1 210 0 ∧ zq_at zy_makeLayer_3_3.2.1 211 24 ∧ zq_at zy_makeLayer_3_3.2.1 212 181 ∧ zq_at zy_makeLayer_3_3.2.1 213 0 ∧ zq_at zy_makeLayer_3_3.2.1 214 82 := by decide +kernel
theorem zd_3_3_321 : zz_D zy_makeLayer_3_3 321 (.return_) 1 322 := ⟨zq_177 zg_3_3_321.1, rfl⟩
theorem zd_3_3_192 : zz_D zy_makeLayer_3_3 192 (.aload_n 0) 1 193 := ⟨zq_42 zg_3_3_321.2.1, rfl⟩
theorem zd_3_3_193 : zz_D zy_makeLayer_3_3 193 (.aload_n 0) 1 194 := ⟨zq_42 zg_3_3_321.2.2.1, rfl⟩
theorem zd_3_3_194 : zz_D zy_makeLayer_3_3 194 (.getfield 21) 3 197 := ⟨zq_180 zg_3_3_321.2.2.2.1 zg_3_3_321.2.2.2.2.1 zg_3_3_321.2.2.2.2.2.1 rfl, rfl⟩
theorem zd_3_3_197 : zz_D zy_makeLayer_3_3 197 (.aload_n 0) 1 198 := ⟨zq_42 zg_3_3_321.2.2.2.2.2.2.1, rfl⟩
theorem zd_3_3_198 : zz_D zy_makeLayer_3_3 198 (.getfield 51) 3 201 := ⟨zq_180 zg_3_3_321.2.2.2.2.2.2.2.1 zg_3_3_321.2.2.2.2.2.2.2.2.1 zg_3_3_321.2.2.2.2.2.2.2.2.2.1 rfl, rfl⟩
theorem zd_3_3_201 : zz_D zy_makeLayer_3_3 201 (.getfield 79) 3 204 := ⟨zq_180 zg_3_3_321.2.2.2.2.2.2.2.2.2.2.1 zg_3_3_321.2.2.2.2.2.2.2.2.2.2.2.1 zg_3_3_321.2.2.2.2.2.2.2.2.2.2.2.2.1 rfl, rfl⟩
theorem zd_3_3_204 : zz_D zy_makeLayer_3_3 204 (.aload_n 0) 1 205 := ⟨zq_42 zg_3_3_321.2.2.2.2.2.2.2.2.2.2.2.2.2.1, rfl⟩
theorem zd_3_3_205 : zz_D zy_makeLayer_3_3 205 (.getfield 76) 3 208 := ⟨zq_180 zg_3_3_321.2.2.2.2.2.2.2.2.2.2.2.2.2.2.1 zg_3_3_321.2.2.2.2.2.2.2.2.2.2.2.2.2.2.2.1 zg_3_3_321.2.2.2.2.2.2.2.2.2.2.2.2.2.2.2.2.1 rfl, rfl⟩
theorem zd_3_3_208 : zz_D zy_makeLayer_3_3 208 (.isub) 1 209 := ⟨zq_100 zg_3_3_321.2.2.2.2.2.2.2.2.2.2.2.2.2.2.2.2.2.1, rfl⟩
theorem zd_3_3_209 : zz_D zy_makeLayer_3_3 209 (.invokestatic 24) 3 212 := ⟨zq_184 zg_3_3_321.2.2.2.2.2.2.2.2.2.2.2.2.2.2.2.2.2.2.1 zg_3_3_321.2.2.2.2.2.2.2.2.2.2.2.2.2.2.2.2.2.2.2.1 zg_3_3_321.2.2.2.2.2.2.2.2.2.2.2.2.2.2.2.2.2.2.2.2.1 rfl, rfl⟩
theorem zd_3_3_212 : zz_D zy_makeLayer_3_3 212 (.putfield 82) 3 215 := ⟨zq_181 zg_3_3_321.2.2.2.2.2.2.2.2.2.2.2.2.2.2.2.2.2.2.2.2.2.1 zg_3_3_321.2.2.2.2.2.2.2.2.2.2.2.2.2.2.2.2.2.2.2.2.2.2.1 zg_3_3_321.2.2.2.2.2.2.2.2.2.2.2.2.2.2.2.2.2.2.2.2.2.2.2 rfl, rfl⟩
theorem zg_3_3_215 : zq_at zy_makeLayer_3_3.2.1 215 42 ∧ zq_at zy_makeLayer_3_3.2.1 216 3 ∧ zq_at zy_makeLayer_3_3.2.1 217 181 ∧ zq_at zy_makeLayer_3_3.2.1 218 0 ∧ zq_at zy_makeLayer_3_3.2.1 219 85 ∧ zq_at zy_makeLayer_3_3.2.1 220 42 ∧ zq_at zy_makeLayer_3_3.2.1 221 180 ∧ zq_at zy_makeLayer_3_3.2.1 222 0 ∧ zq_at zy_makeLayer_3_3.2.1 223 85 ∧ zq_at zy_makeLayer_3_3.2.1 224 21 ∧ zq_at zy_makeLayer_3_3.2.1 225 4 ∧ zq_at zy_makeLayer_3_3.2.1 226 162 ∧ zq_at zy_makeLayer_3_3.2.1 227 0 ∧ zq_at zy_makeLayer_3_3.2.1 228 75 ∧ zq_at zy_makeLayer_3_3.2.1 301 42 ∧ zq_at zy_makeLayer_3_3.2.1 302 89 ∧ zq_at zy_makeLayer_3_3.2.1 303 180 ∧ zq_at zy_makeLayer_3_3.2.1 304 0 ∧ zq_at zy_makeLayer_3_3.2.1 305 76 ∧ zq_at zy_makeLayer_3_3.2.1 306 42 ∧ zq_at zy_makeLayer_3_3.2.1 307 180 ∧ zq_at zy_makeLayer_3_3.2.1 308 0 ∧ zq_at zy_makeLayer_3_3.2.1 309 21 ∧ zq_at zy_makeLayer_3_3.2.1 310 96 := by decide +kernel
theorem zd_3_3_215 : zz_D zy_makeLayer_3_3 215 (.aload_n 0) 1 216 := ⟨zq_42 zg_3_3_215.1, rfl⟩
theorem zd_3_3_216 : zz_D zy_makeLayer_3_3 216 (.iconst 0) 1 217 := ⟨zq_3 zg_3_3_215.2.1, rfl⟩
theorem zd_3_3_217 : zz_D zy_makeLayer_3_3 217 (.putfield 85) 3 220 := ⟨zq_181 zg_3_3_215.2.2.1 zg_3_3_215.2.2.2.1 zg_3_3_215.2.2.2.2.1 rfl, rfl⟩
theorem zd_3_3_220 : zz_D zy_makeLayer_3_3 220 (.aload_n 0) 1 221 := ⟨zq_42 zg_3_3_215.2.2.2.2.2.1, rfl⟩
theorem zd_3_3_221 : zz_D zy_makeLayer_3_3 221 (.getfield 85) 3 224 := ⟨zq_180 zg_3_3_215.2.2.2.2.2.2.1 zg_3_3_215.2.2.2.2.2.2.2.1 zg_3_3_215.2.2.2.2.2.2.2.2.1 rfl, rfl⟩
theorem zd_3_3_224 : zz_D zy_makeLayer_3_3 224 (.iload 4) 2 226 := ⟨zq_21 zg_3_3_215.2.2.2.2.2.2.2.2.2.1 zg_3_3_215.2.2.2.2.2.2.2.2.2.2.1, rfl⟩
theorem zd_3_3_226 : zz_B zy_makeLayer_3_3 226 (Instr.if_icmp .ge) 301 229 := ⟨75, zq_162 zg_3_3_215.2.2.2.2.2.2.2.2.2.2.2.1 zg_3_3_215.2.2.2.2.2.2.2.2.2.2.2.2.1 zg_3_3_215.2.2.2.2.2.2.2.2.2.2.2.2.2.1 (by decide), rfl, rfl⟩
theorem zd_3_3_301 : zz_D zy_makeLayer_3_3 301 (.aload_n 0) 1 302 := ⟨zq_42 zg_3_3_215.2.2.2.2.2.2.2.2.2.2.2.2.2.2.1, rfl⟩
theorem zd_3_3_302 : zz_D zy_makeLayer_3_3 302 (.dup) 1 303 := ⟨zq_89 zg_3_3_215.2.2.2.2.2.2.2.2.2.2.2.2.2.2.2.1, rfl⟩
theorem zd_3_3_303 : zz_D zy_makeLayer_3_3 303 (.getfield 76) 3 306 := ⟨zq_180 zg_3_3_215.2.2.2.2.2.2.2.2.2.2.2.2.2.2.2.2.1 zg_3_3_215.2.2.2.2.2.2.2.2.2.2.2.2.2.2.2.2.2.1 zg_3_3_215.2.2.2.2.2.2.2.2.2.2.2.2.2.2.2.2.2.2.1 rfl, rfl⟩
theorem zd_3_3_306 : zz_D zy_makeLayer_3_3 306 (.aload_n 0) 1 307 := ⟨zq_42 zg_3_3_215.2.2.2.2.2.2.2.2.2.2.2.2.2.2.2.2.2.2.2.1, rfl⟩
theorem zd_3_3_307 : zz_D zy_makeLayer_3_3 307 (.getfield 21) 3 310 := ⟨zq_180 zg_3_3_215.2.2.2.2.2.2.2.2.2.2.2.2.2.2.2.2.2.2.2.2.1 zg_3_3_215.2.2.2.2.2.2.2.2.2.2.2.2.2.2.2.2.2.2.2.2.2.1 zg_3_3_215.2.2.2.2.2.2.2.2.2.2.2.2.2.2.2.2.2.2.2.2.2.2.1 rfl, rfl⟩
theorem zd_3_3_310 : zz_D zy_makeLayer_3_3 310 (.iadd) 1 311 := ⟨zq_96 zg_3_3_215.2.2.2.2.2.2.2.2.2.2.2.2.2.2.2.2.2.2.2.2.2.2.2, rfl⟩
theorem zg_3_3_311 : zq_at zy_makeLayer_3_3.2.1 311 181 ∧ zq_at zy_makeLayer_3_3.2.1 312 0 ∧ zq_at zy_makeLayer_3_3.2.1 313 76 ∧ zq_at zy_makeLayer_3_3.2.1 314 167 ∧ zq_at zy_makeLayer_3_3.2.1 315 255 ∧ zq_at zy_makeLayer_3_3.2.1 316 120 ∧ zq_at zy_makeLayer_3_3.2.1 229 42 ∧ zq_at zy_makeLayer_3_3.2.1 230 3 ∧ zq_at zy_makeLayer_3_3.2.1 231 181 ∧ zq_at zy_makeLayer_3_3.2.1 232 0 ∧ zq_at zy_makeLayer_3_3.2.1 233 88 ∧ zq_at zy_makeLayer_3_3.2.1 234 42 ∧ zq_at zy_makeLayer_3_3.2.1 235 180 ∧ zq_at zy_makeLayer_3_3.2.1 236 0 ∧ zq_at zy_makeLayer_3_3.2.1 237 88 ∧ zq_at zy_makeLayer_3_3.2.1 238 21 ∧ zq_at zy_makeLayer_3_3.2.1 239 5 ∧ zq_at zy_makeLayer_3_3.2.1 240 162 ∧ zq_at zy_makeLayer_3_3.2.1 241 0 ∧ zq_at zy_makeLayer_3_3.2.1 242 48 ∧ zq_at zy_makeLayer_3_3.2.1 288 42 ∧ zq_at zy_makeLayer_3_3.2.1 289 89 := by decide +kernel
theorem zd_3_3_311 : zz_D zy_makeLayer_3_3 311 (.putfield 76) 3 314 := ⟨zq_181 zg_3_3_311.1 zg_3_3_311.2.1 zg_3_3_311.2.2.1 rfl, rfl⟩
theorem zd_3_3_314 : zz_B zy_makeLayer_3_3 314 Instr.goto 178 317 := ⟨(-136), zq_167 zg_3_3_311.2.2.2.1 zg_3_3_311.2.2.2.2.1 zg_3_3_311.2.2.2.2.2.1 (by decide), rfl, rfl⟩
theorem zd_3_3_229 : zz_D zy_makeLayer_3_3 229 (.aload_n 0) 1 230 := ⟨zq_42 zg_3_3_311.2.2.2.2.2.2.1, rfl⟩
theorem zd_3_3_230 : zz_D zy_makeLayer_3_3 230 (.iconst 0) 1 231 := ⟨zq_3 zg_3_3_311.2.2.2.2.2.2.2.1, rfl⟩
theorem zd_3_3_231 : zz_D zy_makeLayer_3_3 231 (.putfield 88) 3 234 := ⟨zq_181 zg_3_3_311.2.2.2.2.2.2.2.2.1 zg_3_3_311.2.2.2.2.2.2.2.2.2.1 zg_3_3_311.2.2.2.2.2.2.2.2.2.2.1 rfl, rfl⟩
theorem zd_3_3_234 : zz_D zy_makeLayer_3_3 234 (.aload_n 0) 1 235 := ⟨zq_42 zg_3_3_311.2.2.2.2.2.2.2.2.2.2.2.1, rfl⟩
theorem zd_3_3_235 : zz_D zy_makeLayer_3_3 235 (.getfield 88) 3 238 := ⟨zq_180 zg_3_3_311.2.2.2.2.2.2.2.2.2.2.2.2.1 zg_3_3_311.2.2.2.2.2.2.2.2.2.2.2.2.2.1 zg_3_3_311.2.2.2.2.2.2.2.2.2.2.2.2.2.2.1 rfl, rfl⟩
theorem zd_3_3_238 : zz_D zy_makeLayer_3_3 238 (.iload 5) 2 240 := ⟨zq_21 zg_3_3_311.2.2.2.2.2.2.2.2.2.2.2.2.2.2.2.1 zg_3_3_311.2.2.2.2.2.2.2.2.2.2.2.2.2.2.2.2.1, rfl⟩
theorem zd_3_3_240 : zz_B zy_makeLayer_3_3 240 (Instr.if_icmp .ge) 288 243 := ⟨48, zq_162 zg_3_3_311.2.2.2.2.2.2.2.2.2.2.2.2.2.2.2.2.2.1 zg_3_3_311.2.2.2.2.2.2.2.2.2.2.2.2.2.2.2.2.2.2.1 zg_3_3_311.2.2.2.2.2.2.2.2.2.2.2.2.2.2.2.2.2.2.2.1 (by decide), rfl, rfl⟩
theorem zd_3_3_288 : zz_D zy_makeLayer_3_3 288 (.aload_n 0) 1 289 := ⟨zq_42 zg_3_3_311.2.2.2.2.2.2.2.2.2.2.2.2.2.2.2.2.2.2.2.2.1, rfl⟩
theorem zd_3_3_289 : zz_D zy_makeLayer_3_3 289 (.dup) 1 290 := ⟨zq_89 zg_3_3_311.2.2.2.2.2.2.2.2.2.2.2.2.2.2.2.2.2.2.2.2.2, rfl⟩
theorem zg_3_3_290 : zq_at zy_makeLayer_3_3.2.1 290 180 ∧ zq_at zy_makeLayer_3_3.2.1 291 0 ∧ zq_at zy_makeLayer_3_3.2.1 292 85 ∧ zq_at zy_makeLayer_3_3.2.1 293 4 ∧ zq_at zy_makeLayer_3_3.2.1 294 96 ∧ zq_at zy_makeLayer_3_3.2.1 295 181 ∧ zq_at zy_makeLayer_3_3.2.1 296 0 ∧ zq_at zy_makeLayer_3_3.2.1 297 85 ∧ zq_at zy_makeLayer_3_3.2.1 298 167 ∧ zq_at zy_makeLayer_3_3.2.1 299 255 ∧ zq_at zy_makeLayer_3_3.2.1 300 178 ∧ zq_at zy_makeLayer_3_3.2.1 243 42 ∧ zq_at zy_makeLayer_3_3.2.1 244 180 ∧ zq_at zy_makeLayer_3_3.2.1 245 0 ∧ zq_at zy_makeLayer_3_3.2.1 246 15 ∧ zq_at zy_makeLayer_3_3.2.1 247 17 ∧ zq_at zy_makeLayer_3_3.2.1 248 2 ∧ zq_at zy_makeLayer_3_3.2.1 249 88 ∧ zq_at zy_makeLayer_3_3.2.1 250 164 ∧ zq_at zy_makeLayer_3_3.2.1 251 0 ∧ zq_at zy_makeLayer_3_3.2.1 252 4 ∧ zq_at zy_makeLayer_3_3.2.1 254 42 ∧ zq_at zy_makeLayer_3_3.2.1 255 21 ∧ zq_at zy_makeLayer_3_3.2.1 256 6 := by decide +kernel
theorem zd_3_3_290 : zz_D zy_makeLayer_3_3 290 (.getfield 85) 3 293 := ⟨zq_180 zg_3_3_290.1 zg_3_3_290.2.1 zg_3_3_290.2.2.1 rfl, rfl⟩
theorem zd_3_3_293 : zz_D zy_makeLayer_3_3 293 (.iconst 1) 1 294 := ⟨zq_4 zg_3_3_290.2.2.2.1, rfl⟩
theorem zd_3_3_294 : zz_D zy_makeLayer_3_3 294 (.iadd) 1 295 := ⟨zq_96 zg_3_3_290.2.2.2.2.1, rfl⟩
theorem zd_3_3_295 : zz_D zy_makeLayer_3_3 295 (.putfield 85) 3 298 := ⟨zq_181 zg_3_3_290.2.2.2.2.2.1 zg_3_3_290.2.2.2.2.2.2.1 zg_3_3_290.2.2.2.2.2.2.2.1 rfl, rfl⟩
theorem zd_3_3_298 : zz_B zy_makeLayer_3_3 298 Instr.goto 220 301 := ⟨(-78), zq_167 zg_3_3_290.2.2.2.2.2.2.2.2.1 zg_3_3_290.2.2.2.2.2.2.2.2.2.1 zg_3_3_290.2.2.2.2.2.2.2.2.2.2.1 (by decide), rfl, rfl⟩
theorem zd_3_3_243 : zz_D zy_makeLayer_3_3 243 (.aload_n 0) 1 244 := ⟨zq_42 zg_3_3_290.2.2.2.2.2.2.2.2.2.2.2.1, rfl⟩
theorem zd_3_3_244 : zz_D zy_makeLayer_3_3 244 (.getfield 15) 3 247 := ⟨zq_180 zg_3_3_290.2.2.2.2.2.2.2.2.2.2.2.2.1 zg_3_3_290.2.2.2.2.2.2.2.2.2.2.2.2.2.1 zg_3_3_290.2.2.2.2.2.2.2.2.2.2.2.2.2.2.1 rfl, rfl⟩
theorem zd_3_3_247 : zz_D zy_makeLayer_3_3 247 (.sipush 600) 3 250 := ⟨zq_17 zg_3_3_290.2.2.2.2.2.2.2.2.2.2.2.2.2.2.2.1 zg_3_3_290.2.2.2.2.2.2.2.2.2.2.2.2.2.2.2.2.1 zg_3_3_290.2.2.2.2.2.2.2.2.2.2.2.2.2.2.2.2.2.1 (by decide), rfl⟩
theorem zd_3_3_250 : zz_B zy_makeLayer_3_3 250 (Instr.if_icmp .le) 254 253 := ⟨4, zq_164 zg_3_3_290.2.2.2.2.2.2.2.2.2.2.2.2.2.2.2.2.2.2.1 zg_3_3_290.2.2.2.2.2.2.2.2.2.2.2.2.2.2.2.2.2.2.2.1 zg_3_3_290.2.2.2.2.2.2.2.2.2.2.2.2.2.2.2.2.2.2.2.2.1 (by decide), rfl, rfl⟩
theorem zd_3_3_254 : zz_D zy_makeLayer_3_3 254 (.aload_n 0) 1 255 := ⟨zq_42 zg_3_3_290.2.2.2.2.2.2.2.2.2.2.2.2.2.2.2.2.2.2.2.2.2.1, rfl⟩
theorem zd_3_3_255 : zz_D zy_makeLayer_3_3 255 (.iload 6) 2 257 := ⟨zq_21 zg_3_3_290.2.2.2.2.2.2.2.2.2.2.2.2.2.2.2.2.2.2.2.2.2.2.1 zg_3_3_290.2.2.2.2.2.2.2.2.2.2.2.2.2.2.2.2.2.2.2.2.2.2.2, rfl⟩
theorem zg_3_3_257 : zq_at zy_makeLayer_3_3.2.1 257 21 ∧ zq_at zy_makeLayer_3_3.2.1 258 5 ∧ zq_at zy_makeLayer_3_3.2.1 259 42 ∧ zq_at zy_makeLayer_3_3.2.1 260 180 ∧ zq_at zy_makeLayer_3_3.2.1 261 0 ∧ zq_at zy_makeLayer_3_3.2.1 262 88 ∧ zq_at zy_makeLayer_3_3.2.1 263 100 ∧ zq_at zy_makeLayer_3_3.2.1 264 184 ∧ zq_at zy_makeLayer_3_3.2.1 265 0 ∧ zq_at zy_makeLayer_3_3.2.1 266 24 ∧ zq_at zy_makeLayer_3_3.2.1 267 181 ∧ zq_at zy_makeLayer_3_3.2.1 268 0 ∧ zq_at zy_makeLayer_3_3.2.1 269 91 ∧ zq_at zy_makeLayer_3_3.2.1 270 42 ∧ zq_at zy_makeLayer_3_3.2.1 271 182 ∧ zq_at zy_makeLayer_3_3.2.1 272 0 ∧ zq_at zy_makeLayer_3_3.2.1 273 94 := by decide +kernel
theorem zd_3_3_257 : zz_D zy_makeLayer_3_3 257 (.iload 5) 2 259 := ⟨zq_21 zg_3_3_257.1 zg_3_3_257.2.1, rfl⟩
theorem zd_3_3_259 : zz_D zy_makeLayer_3_3 259 (.aload_n 0) 1 260 := ⟨zq_42 zg_3_3_257.2.2.1, rfl⟩
theorem zd_3_3_260 : zz_D zy_makeLayer_3_3 260 (.getfield 88) 3 263 := ⟨zq_180 zg_3_3_257.2.2.2.1 zg_3_3_257.2.2.2.2.1 zg_3_3_257.2.2.2.2.2.1 rfl, rfl⟩
theorem zd_3_3_263 : zz_D zy_makeLayer_3_3 263 (.isub) 1 264 := ⟨zq_100 zg_3_3_257.2.2.2.2.2.2.1, rfl⟩
theorem zd_3_3_264 : zz_D zy_makeLayer_3_3 264 (.invokestatic 24) 3 267 := ⟨zq_184 zg_3_3_257.2.2.2.2.2.2.2.1 zg_3_3_257.2.2.2.2.2.2.2.2.1 zg_3_3_257.2.2.2.2.2.2.2.2.2.1 rfl, rfl⟩
theorem zd_3_3_267 : zz_D zy_makeLayer_3_3 267 (.putfield 91) 3 270 := ⟨zq_181 zg_3_3_257.2.2.2.2.2.2.2.2.2.2.1 zg_3_3_257.2.2.2.2.2.2.2.2.2.2.2.1 zg_3_3_257.2.2.2.2.2.2.2.2.2.2.2.2.1 rfl, rfl⟩
theorem zd_3_3_270 : zz_D zy_makeLayer_3_3 270 (.aload_n 0) 1 271 := ⟨zq_42 zg_3_3_257.2.2.2.2.2.2.2.2.2.2.2.2.2.1, rfl⟩
theorem zd_3_3_271 : zz_D zy_makeLayer_3_3 271 (.invokevirtual 94) 3 274 := ⟨zq_182 zg_3_3_257.2.2.2.2.2.2.2.2.2.2.2.2.2.2.1 zg_3_3_257.2.2.2.2.2.2.2.2.2.2.2.2.2.2.2.1 zg_3_3_257.2.2.2.2.2.2.2.2.2.2.2.2.2.2.2.2 rfl, rfl⟩
theorem zg_3_4_0 : zq_at zy_makeTile_3_4.2.1 0 42 ∧ zq_at zy_makeTile_3_4.2.1 1 180 ∧ zq_at zy_makeTile_3_4.2.1 2 0 ∧ zq_at zy_makeTile_3_4.2.1 3 51 ∧ zq_at zy_makeTile_3_4.2.1 4 180 ∧ zq_at zy_makeTile_3_4.2.1 5 0 ∧ zq_at zy_makeTile_3_4.2.1 6 61 ∧ zq_at zy_makeTile_3_4.2.1 7 4 ∧ zq_at zy_makeTile_3_4.2.1 8 160 ∧ zq_at zy_makeTile_3_4.2.1 9 0 ∧ zq_at zy_makeTile_3_4.2.1 10 7 ∧ zq_at zy_makeTile_3_4.2.1 15 3 ∧ zq_at zy_makeTile_3_4.2.1 16 60 ∧ zq_at zy_makeTile_3_4.2.1 17 42 ∧ zq_at zy_makeTile_3_4.2.1 18 180 ∧ zq_at zy_makeTile_3_4.2.1 19 0 ∧ zq_at zy_makeTile_3_4.2.1 20 51 ∧ zq_at zy_makeTile_3_4.2.1 21 180 ∧ zq_at zy_makeTile_3_4.2.1 22 0 ∧ zq_at zy_makeTile_3_4.2.1 23 61 ∧ zq_at zy_makeTile_3_4.2.1 24 6 ∧ zq_at zy_makeTile_3_4.2.1 25 160 ∧ zq_at zy_makeTile_3_4.2.1 26 0 ∧ zq_at zy_makeTile_3_4.2.1 27 7 := by decide +kernel
theorem zd_3_4_0 : zz_D zy_makeTile_3_4 0 (.aload_n 0) 1 1 := ⟨zq_42 zg_3_4_0.1, rfl⟩
theorem zd_3_4_1 : zz_D zy_makeTile_3_4 1 (.getfield 51) 3 4 := ⟨zq_180 zg_3_4_0.2.1 zg_3_4_0.2.2.1 zg_3_4_0.2.2.2.1 rfl, rfl⟩
theorem zd_3_4_4 : zz_D zy_makeTile_3_4 4 (.getfield 61) 3 7 := ⟨zq_180 zg_3_4_0.2.2.2.2.1 zg_3_4_0.2.2.2.2.2.1 zg_3_4_0.2.2.2.2.2.2.1 rfl, rfl⟩
theorem zd_3_4_7 : zz_D zy_makeTile_3_4 7 (.iconst 1) 1 8 := ⟨zq_4 zg_3_4_0.2.2.2.2.2.2.2.1, rfl⟩
theorem zd_3_4_8 : zz_B zy_makeTile_3_4 8 (Instr.if_icmp .ne) 15 11 := ⟨7, zq_160 zg_3_4_0.2.2.2.2.2.2.2.2.1 zg_3_4_0.2.2.2.2.2.2.2.2.2.1 zg_3_4_0.2.2.2.2.2.2.2.2.2.2.1 (by decide), rfl, rfl⟩
theorem zd_3_4_15 : zz_D zy_makeTile_3_4 15 (.iconst 0) 1 16 := ⟨zq_3 zg_3_4_0.2.2.2.2.2.2.2.2.2.2.2.1, rfl⟩
theorem zd_3_4_16 : zz_D zy_makeTile_3_4 16 (.istore_n 1) 1 17 := ⟨zq_60 zg_3_4_0.2.2.2.2.2.2.2.2.2.2.2.2.1, rfl⟩
theorem zd_3_4_17 : zz_D zy_makeTile_3_4 17 (.aload_n 0) 1 18 := ⟨zq_42 zg_3_4_0.2.2.2.2.2.2.2.2.2.2.2.2.2.1, rfl⟩
theorem zd_3_4_18 : zz_D zy_makeTile_3_4 18 (.getfield 51) 3 21 := ⟨zq_180 zg_3_4_0.2.2.2.2.2.2.2.2.2.2.2.2.2.2.1 zg_3_4_0.2.2.2.2.2.2.2.2.2.2.2.2.2.2.2.1 zg_3_4_0.2.2.2.2.2.2.2.2.2.2.2.2.2.2.2.2.1 rfl, rfl⟩
theorem zd_3_4_21 : zz_D zy_makeTile_3_4 21 (.getfield 61) 3 24 := ⟨zq_180 zg_3_4_0.2.2.2.2.2.2.2.2.2.2.2.2.2.2.2.2.2.1 zg_3_4_0.2.2.2.2.2.2.2.2.2.2.2.2.2.2.2.2.2.2.1 zg_3_4_0.2.2.2.2.2.2.2.2.2.2.2.2.2.2.2.2.2.2.2.1 rfl, rfl⟩
theorem zd_3_4_24 : zz_D zy_makeTile_3_4 24 (.iconst 3) 1 25 := ⟨zq_6 zg_3_4_0.2.2.2.2.2.2.2.2.2.2.2.2.2.2.2.2.2.2.2.2.1, rfl⟩
theorem zd_3_4_25 : zz_B zy_makeTile_3_4 25 (Instr.if_icmp .ne) 32 28 := ⟨7, zq_160 zg_3_4_0.2.2.2.2.2.2.2.2.2.2.2.2.2.2.2.2.2.2.2.2.2.1 zg_3_4_0.2.2.2.2.2.2.2.2.2.2.2.2.2.2.2.2.2.2.2.2.2.2.1 zg_3_4_0.2.2.2.2.2.2.2.2.2.2.2.2.2.2.2.2.2.2.2.2.2.2.2 (by decide), rfl, rfl⟩
theorem zg_3_4_32 : zq_at zy_makeTile_3_4.2.1 32 3 ∧ zq_at zy_makeTile_3_4.2.1 33 61 ∧ zq_at zy_makeTile_3_4.2.1 34 28 ∧ zq_at zy_makeTile_3_4.2.1 35 153 ∧ zq_at zy_makeTile_3_4.2.1 36 0 ∧ zq_at zy_makeTile_3_4.2.1 37 7 ∧ zq_at zy_makeTile_3_4.2.1 42 42 ∧ zq_at zy_makeTile_3_4.2.1 43 180 ∧ zq_at zy_makeTile_3_4.2.1 44 0 ∧ zq_at zy_makeTile_3_4.2.1 45 51 ∧ zq_at zy_makeTile_3_4.2.1 46 180 ∧ zq_at zy_makeTile_3_4.2.1 47 0 ∧ zq_at zy_makeTile_3_4.2.1 48 100 ∧ zq_at zy_makeTile_3_4.2.1 49 62 ∧ zq_at zy_makeTile_3_4.2.1 50 28 ∧ zq_at zy_makeTile_3_4.2.1 51 153 ∧ zq_at zy_makeTile_3_4.2.1 52 0 ∧ zq_at zy_makeTile_3_4.2.1 53 7 ∧ zq_at zy_makeTile_3_4.2.1 58 42 ∧ zq_at zy_makeTile_3_4.2.1 59 180 ∧ zq_at zy_makeTile_3_4.2.1 60 0 ∧ zq_at zy_makeTile_3_4.2.1 61 51 := by decide +kernel
theorem zd_3_4_32 : zz_D zy_makeTile_3_4 32 (.iconst 0) 1 33 := ⟨zq_3 zg_3_4_32.1, rfl⟩
theorem zd_3_4_33 : zz_D zy_makeTile_3_4 33 (.istore_n 2) 1 34 := ⟨zq_61 zg_3_4_32.2.1, rfl⟩
theorem zd_3_4_34 : zz_D zy_makeTile_3_4 34 (.iload_n 2) 1 35 := ⟨zq_28 zg_3_4_32.2.2.1, rfl⟩
theorem zd_3_4_35 : zz_B zy_makeTile_3_4 35 (Instr.ifCond .eq) 42 38 := ⟨7, zq_153 zg_3_4_32.2.2.2.1 zg_3_4_32.2.2.2.2.1 zg_3_4_32.2.2.2.2.2.1 (by decide), rfl, rfl⟩
theorem zd_3_4_42 : zz_D zy_makeTile_3_4 42 (.aload_n 0) 1 43 := ⟨zq_42 zg_3_4_32.2.2.2.2.2.2.1, rfl⟩
theorem zd_3_4_43 : zz_D zy_makeTile_3_4 43 (.getfield 51) 3 46 := ⟨zq_180 zg_3_4_32.2.2.2.2.2.2.2.1 zg_3_4_32.2.2.2.2.2.2.2.2.1 zg_3_4_32.2.2.2.2.2.2.2.2.2.1 rfl, rfl⟩
theorem zd_3_4_46 : zz_D zy_makeTile_3_4 46 (.getfield 100) 3 49 := ⟨zq_180 zg_3_4_32.2.2.2.2.2.2.2.2.2.2.1 zg_3_4_32.2.2.2.2.2.2.2.2.2.2.2.1 zg_3_4_32.2.2.2.2.2.2.2.2.2.2.2.2.1 rfl, rfl⟩
theorem zd_3_4_49 : zz_D zy_makeTile_3_4 49 (.istore_n 3) 1 50 := ⟨zq_62 zg_3_4_32.2.2.2.2.2.2.2.2.2.2.2.2.2.1, rfl⟩
theorem zd_3_4_50 : zz_D zy_makeTile_3_4 50 (.iload_n 2) 1 51 := ⟨zq_28 zg_3_4_32.2.2.2.2.2.2.2.2.2.2.2.2.2.2.1, rfl⟩
theorem zd_3_4_51 : zz_B zy_makeTile_3_4 51 (Instr.ifCond .eq) 58 54 := ⟨7, zq_153 zg_3_4_32.2.2.2.2.2.2.2.2.2.2.2.2.2.2.2.1 zg_3_4_32.2.2.2.2.2.2.2.2.2.2.2.2.2.2.2.2.1 zg_3_4_32.2.2.2.2.2.2.2.2.2.2.2.2.2.2.2.2.2.1 (by decide), rfl, rfl⟩
theorem zd_3_4_58 : zz_D zy_makeTile_3_4 58 (.aload_n 0) 1 59 := ⟨zq_42 zg_3_4_32.2.2.2.2.2.2.2.2.2.2.2.2.2.2.2.2.2.2.1, rfl⟩
theorem zd_3_4_59 : zz_D zy_makeTile_3_4 59 (.getfield 51) 3 62 := ⟨zq_180 zg_3_4_32.2.2.2.2.2.2.2.2.2.2.2.2.2.2.2.2.2.2.2.1 zg_3_4_32.2.2.2.2.2.2.2.2.2.2.2.2.2.2.2.2.2.2.2.2.1 zg_3_4_32.2.2.2.2.2.2.2.2.2.2.2.2.2.2.2.2.2.2.2.2.2 rfl, rfl⟩
theorem zg_3_4_62 : zq_at zy_makeTile_3_4.2.1 62 180 ∧ zq_at zy_makeTile_3_4.2.1 63 0 ∧ zq_at zy_makeTile_3_4.2.1 64 103 ∧ zq_at zy_makeTile_3_4.2.1 65 54 ∧ zq_at zy_makeTile_3_4.2.1 66 4 ∧ zq_at zy_makeTile_3_4.2.1 67 27 ∧ zq_at zy_makeTile_3_4.2.1 68 153 ∧ zq_at zy_makeTile_3_4.2.1 69 0 ∧ zq_at zy_makeTile_3_4.2.1 70 13 ∧ zq_at zy_makeTile_3_4.2.1 81 4 ∧ zq_at zy_makeTile_3_4.2.1 82 54 ∧ zq_at zy_makeTile_3_4.2.1 83 5 ∧ zq_at zy_makeTile_3_4.2.1 84 42 ∧ zq_at zy_makeTile_3_4.2.1 85 180 ∧ zq_at zy_makeTile_3_4.2.1 86 0 ∧ zq_at zy_makeTile_3_4.2.1 87 73 ∧ zq_at zy_makeTile_3_4.2.1 88 54 ∧ zq_at zy_makeTile_3_4.2.1 89 6 ∧ zq_at zy_makeTile_3_4.2.1 90 42 ∧ zq_at zy_makeTile_3_4.2.1 91 3 ∧ zq_at zy_makeTile_3_4.2.1 92 181 ∧ zq_at zy_makeTile_3_4.2.1 93 0 ∧ zq_at zy_makeTile_3_4.2.1 94 106 ∧ zq_at zy_makeTile_3_4.2.1 28 4 := by decide +kernel
theorem zd_3_4_62 : zz_D zy_makeTile_3_4 62 (.getfield 103) 3 65 := ⟨zq_180 zg_3_4_62.1 zg_3_4_62.2.1 zg_3_4_62.2.2.1 rfl, rfl⟩
theorem zd_3_4_65 : zz_D zy_makeTile_3_4 65 (.istore 4) 2 67 := ⟨zq_54 zg_3_4_62.2.2.2.1 zg_3_4_62.2.2.2.2.1, rfl⟩
theorem zd_3_4_67 : zz_D zy_makeTile_3_4 67 (.iload_n 1) 1 68 := ⟨zq_27 zg_3_4_62.2.2.2.2.2.1, rfl⟩
theorem zd_3_4_68 : zz_B zy_makeTile_3_4 68 (Instr.ifCond .eq) 81 71 := ⟨13, zq_153 zg_3_4_62.2.2.2.2.2.2.1 zg_3_4_62.2.2.2.2.2.2.2.1 zg_3_4_62.2.2.2.2.2.2.2.2.1 (by decide), rfl, rfl⟩
theorem zd_3_4_81 : zz_D zy_makeTile_3_4 81 (.iconst 1) 1 82 := ⟨zq_4 zg_3_4_62.2.2.2.2.2.2.2.2.2.1, rfl⟩
theorem zd_3_4_82 : zz_D zy_makeTile_3_4 82 (.istore 5) 2 84 := ⟨zq_54 zg_3_4_62.2.2.2.2.2.2.2.2.2.2.1 zg_3_4_62.2.2.2.2.2.2.2.2.2.2.2.1, rfl⟩
theorem zd_3_4_84 : zz_D zy_makeTile_3_4 84 (.aload_n 0) 1 85 := ⟨zq_42 zg_3_4_62.2.2.2.2.2.2.2.2.2.2.2.2.1, rfl⟩
theorem zd_3_4_85 : zz_D zy_makeTile_3_4 85 (.getfield 73) 3 88 := ⟨zq_180 zg_3_4_62.2.2.2.2.2.2.2.2.2.2.2.2.2.1 zg_3_4_62.2.2.2.2.2.2.2.2.2.2.2.2.2.2.1 zg_3_4_62.2.2.2.2.2.2.2.2.2.2.2.2.2.2.2.1 rfl, rfl⟩
theorem zd_3_4_88 : zz_D zy_makeTile_3_4 88 (.istore 6) 2 90 := ⟨zq_54 zg_3_4_62.2.2.2.2.2.2.2.2.2.2.2.2.2.2.2.2.1 zg_3_4_62.2.2.2.2.2.2.2.2.2.2.2.2.2.2.2.2.2.1, rfl⟩
theorem zd_3_4_90 : zz_D zy_makeTile_3_4 90 (.aload_n 0) 1 91 := ⟨zq_42 zg_3_4_62.2.2.2.2.2.2.2.2.2.2.2.2.2.2.2.2.2.2.1, rfl⟩
theorem zd_3_4_91 : zz_D zy_makeTile_3_4 91 (.iconst 0) 1 92 := ⟨zq_3 zg_3_4_62.2.2.2.2.2.2.2.2.2.2.2.2.2.2.2.2.2.2.2.1, rfl⟩
theorem zd_3_4_92 : zz_D zy_makeTile_3_4 92 (.putfield 106) 3 95 := ⟨zq_181 zg_3_4_62.2.2.2.2.2.2.2.2.2.2.2.2.2.2.2.2.2.2.2.2.1 zg_3_4_62.2.2.2.2.2.2.2.2.2.2.2.2.2.2.2.2.2.2.2.2.2.1 zg_3_4_62.2.2.2.2.2.2.2.2.2.2.2.2.2.2.2.2.2.2.2.2.2.2.1 rfl, rfl⟩
theorem zd_3_4_28 : zz_D zy_makeTile_3_4 28 (.iconst 1) 1 29 := ⟨zq_4 zg_3_4_62.2.2.2.2.2.2.2.2.2.2.2.2.2.2.2.2.2.2.2.2.2.2.2, rfl⟩
theorem zg_3_4_29 : zq_at zy_makeTile_3_4.2.1 29 167 ∧ zq_at zy_makeTile_3_4.2.1 30 0 ∧ zq_at zy_makeTile_3_4.2.1 31 4 ∧ zq_at zy_makeTile_3_4.2.1 38 4 ∧ zq_at zy_makeTile_3_4.2.1 39 167 ∧ zq_at zy_makeTile_3_4.2.1 40 0 ∧ zq_at zy_makeTile_3_4.2.1 41 10 ∧ zq_at zy_makeTile_3_4.2.1 54 5 ∧ zq_at zy_makeTile_3_4.2.1 55 167 ∧ zq_at zy_makeTile_3_4.2.1 56 0 ∧ zq_at zy_makeTile_3_4.2.1 57 10 ∧ zq_at zy_makeTile_3_4.2.1 11 4 ∧ zq_at zy_makeTile_3_4.2.1 12 167 ∧ zq_at zy_makeTile_3_4.2.1 13 0 ∧ zq_at zy_makeTile_3_4.2.1 14 4 ∧ zq_at zy_makeTile_3_4.2.1 71 42 ∧ zq_at zy_makeTile_3_4.2.1 72 180 ∧ zq_at zy_makeTile_3_4.2.1 73 0 ∧ zq_at zy_makeTile_3_4.2.1 74 55 ∧ zq_at zy_makeTile_3_4.2.1 75 180 ∧ zq_at zy_makeTile_3_4.2.1 76 0 ∧ zq_at zy_makeTile_3_4.2.1 77 79 := by decide +kernel
theorem zd_3_4_29 : zz_B zy_makeTile_3_4 29 Instr.goto 33 32 := ⟨4, zq_167 zg_3_4_29.1 zg_3_4_29.2.1 zg_3_4_29.2.2.1 (by decide), rfl, rfl⟩
theorem zd_3_4_38 : zz_D zy_makeTile_3_4 38 (.iconst 1) 1 39 := ⟨zq_4 zg_3_4_29.2.2.2.1, rfl⟩
theorem zd_3_4_39 : zz_B zy_makeTile_3_4 39 Instr.goto 49 42 := ⟨10, zq_167 zg_3_4_29.2.2.2.2.1 zg_3_4_29.2.2.2.2.2.1 zg_3_4_29.2.2.2.2.2.2.1 (by decide), rfl, rfl⟩
theorem zd_3_4_54 : zz_D zy_makeTile_3_4 54 (.iconst 2) 1 55 := ⟨zq_5 zg_3_4_29.2.2.2.2.2.2.2.1, rfl⟩
theorem zd_3_4_55 : zz_B zy_makeTile_3_4 55 Instr.goto 65 58 := ⟨10, zq_167 zg_3_4_29.2.2.2.2.2.2.2.2.1 zg_3_4_29.2.2.2.2.2.2.2.2.2.1 zg_3_4_29.2.2.2.2.2.2.2.2.2.2.1 (by decide), rfl, rfl⟩
theorem zd_3_4_11 : zz_D zy_makeTile_3_4 11 (.iconst 1) 1 12 := ⟨zq_4 zg_3_4_29.2.2.2.2.2.2.2.2.2.2.2.1, rfl⟩
theorem zd_3_4_12 : zz_B zy_makeTile_3_4 12 Instr.goto 16 15 := ⟨4, zq_167 zg_3_4_29.2.2.2.2.2.2.2.2.2.2.2.2.1 zg_3_4_29.2.2.2.2.2.2.2.2.2.2.2.2.2.1 zg_3_4_29.2.2.2.2.2.2.2.2.2.2.2.2.2.2.1 (by decide), rfl, rfl⟩
theorem zd_3_4_71 : zz_D zy_makeTile_3_4 71 (.aload_n 0) 1 72 := ⟨zq_42 zg_3_4_29.2.2.2.2.2.2.2.2.2.2.2.2.2.2.2.1, rfl⟩
theorem zd_3_4_72 : zz_D zy_makeTile_3_4 72 (.getfield 55) 3 75 := ⟨zq_180 zg_3_4_29.2.2.2.2.2.2.2.2.2.2.2.2.2.2.2.2.1 zg_3_4_29.2.2.2.2.2.2.2.2.2.2.2.2.2.2.2.2.2.1 zg_3_4_29.2.2.2.2.2.2.2.2.2.2.2.2.2.2.2.2.2.2.1 rfl, rfl⟩
theorem zd_3_4_75 : zz_D zy_makeTile_3_4 75 (.getfield 79) 3 78 := ⟨zq_180 zg_3_4_29.2.2.2.2.2.2.2.2.2.2.2.2.2.2.2.2.2.2.2.1 zg_3_4_29.2.2.2.2.2.2.2.2.2.2.2.2.2.2.2.2.2.2.2.2.1 zg_3_4_29.2.2.2.2.2.2.2.2.2.2.2.2.2.2.2.2.2.2.2.2.2 rfl, rfl⟩
theorem zg_3_4_78 : zq_at zy_makeTile_3_4.2.1 78 167 ∧ zq_at zy_makeTile_3_4.2.1 79 0 ∧ zq_at zy_makeTile_3_4.2.1 80 4 ∧ zq_at zy_makeTile_3_4.2.1 95 42 ∧ zq_at zy_makeTile_3_4.2.1 96 180 ∧ zq_at zy_makeTile_3_4.2.1 97 0 ∧ zq_at zy_makeTile_3_4.2.1 98 106 ∧ zq_at zy_makeTile_3_4.2.1 99 29 ∧ zq_at zy_makeTile_3_4.2.1 100 162 ∧ zq_at zy_makeTile_3_4.2.1 101 0 ∧ zq_at zy_makeTile_3_4.2.1 102 179 ∧ zq_at zy_makeTile_3_4.2.1 279 42 ∧ zq_at zy_makeTile_3_4.2.1 280 182 ∧ zq_at zy_makeTile_3_4.2.1 281 0 ∧ zq_at zy_makeTile_3_4.2.1 282 122 := by decide +kernel
theorem zd_3_4_78 : zz_B zy_makeTile_3_4 78 Instr.goto 82 81 := ⟨4, zq_167 zg_3_4_78.1 zg_3_4_78.2.1 zg_3_4_78.2.2.1 (by decide), rfl, rfl⟩
theorem zd_3_4_95 : zz_D zy_makeTile_3_4 95 (.aload_n 0) 1 96 := ⟨zq_42 zg_3_4_78.2.2.2.1, rfl⟩
theorem zd_3_4_96 : zz_D zy_makeTile_3_4 96 (.getfield 106) 3 99 := ⟨zq_180 zg_3_4_78.2.2.2.2.1 zg_3_4_78.2.2.2.2.2.1 zg_3_4_78.2.2.2.2.2.2.1 rfl, rfl⟩
theorem zd_3_4_99 : zz_D zy_makeTile_3_4 99 (.iload_n 3) 1 100 := ⟨zq_29 zg_3_4_78.2.2.2.2.2.2.2.1, rfl⟩
theorem zd_3_4_100 : zz_B zy_makeTile_3_4 100 (Instr.if_icmp .ge) 279 103 := ⟨179, zq_162 zg_3_4_78.2.2.2.2.2.2.2.2.1 zg_3_4_78.2.2.2.2.2.2.2.2.2.1 zg_3_4_78.2.2.2.2.2.2.2.2.2.2.1 (by decide), rfl, rfl⟩
theorem zd_3_4_279 : zz_D zy_makeTile_3_4 279 (.aload_n 0) 1 280 := ⟨zq_42 zg_3_4_78.2.2.2.2.2.2.2.2.2.2.2.1, rfl⟩
theorem zd_3_4_280 : zz_D zy_makeTile_3_4 280 (.invokevirtual 122) 3 283 := ⟨zq_182 zg_3_4_78.2.2.2.2.2.2.2.2.2.2.2.2.1 zg_3_4_78.2.2.2.2.2.2.2.2.2.2.2.2.2.1 zg_3_4_78.2.2.2.2.2.2.2.2.2.2.2.2.2.2 rfl, rfl⟩
theorem zg_3_13_0 : zq_at zy_tileHalf_3_13.2.1 0 17 ∧ zq_at zy_tileHalf_3_13.2.1 1 0 ∧ zq_at zy_tileHalf_3_13.2.1 2 128 ∧ zq_at zy_tileHalf_3_13.2.1 3 42 ∧ zq_at zy_tileHalf_3_13.2.1 4 180 ∧ zq_at zy_tileHalf_3_13.2.1 5 0 ∧ zq_at zy_tileHalf_3_13.2.1 6 70 ∧ zq_at zy_tileHalf_3_13.2.1 7 4 ∧ zq_at zy_tileHalf_3_13.2.1 8 126 ∧ zq_at zy_tileHalf_3_13.2.1 9 104 ∧ zq_at zy_tileHalf_3_13.2.1 10 172 := by decide +kernel
theorem zd_3_13_0 : zz_D zy_tileHalf_3_13 0 (.sipush 128) 3 3 := ⟨zq_17 zg_3_13_0.1 zg_3_13_0.2.1 zg_3_13_0.2.2.1 (by decide), rfl⟩
theorem zd_3_13_3 : zz_D zy_tileHalf_3_13 3 (.aload_n 0) 1 4 := ⟨zq_42 zg_3_13_0.2.2.2.1, rfl⟩
theorem zd_3_13_4 : zz_D zy_tileHalf_3_13 4 (.getfield 70) 3 7 := ⟨zq_180 zg_3_13_0.2.2.2.2.1 zg_3_13_0.2.2.2.2.2.1 zg_3_13_0.2.2.2.2.2.2.1 rfl, rfl⟩
theorem zd_3_13_7 : zz_D zy_tileHalf_3_13 7 (.iconst 1) 1 8 := ⟨zq_4 zg_3_13_0.2.2.2.2.2.2.2.1, rfl⟩
theorem zd_3_13_8 : zz_D zy_tileHalf_3_13 8 (.iand) 1 9 := ⟨zq_126 zg_3_13_0.2.2.2.2.2.2.2.2.1, rfl⟩
theorem zd_3_13_9 : zz_D zy_tileHalf_3_13 9 (.imul) 1 10 := ⟨zq_104 zg_3_13_0.2.2.2.2.2.2.2.2.2.1, rfl⟩
theorem zd_3_13_10 : zz_D zy_tileHalf_3_13 10 (.ireturn) 1 11 := ⟨zq_172 zg_3_13_0.2.2.2.2.2.2.2.2.2.2, rfl⟩
-- TensorForge$Compiler tileHalf ()I
abbrev zr_tileHalf_3_13 : Room := { frames := 0, cells := 0, slots := 0, locals := 0 }
def zp_tileHalf_3_13  (S0 : zz_S) : Int → zz_S → Prop := fun r S => S0 = S ∧ ((-2147483648) ≤ r ∧ r ≤ 2147483647)
theorem zc_tileHalf_3_13 {g : mm_G} {l : Launch}  (S0 : zz_S) (n : Nat) (hn : zz_end ≤ n) (G_S0 : zz_G S0)  : mm_Met g l zy_tileHalf_3_13 zr_tileHalf_3_13 [.ref 1076] (zz_M S0 n) n (zz_QI n (zp_tileHalf_3_13  S0)) := by
  refine zz_enter (by decide) (Nat.le_of_ble_eq_true rfl) (zz_less (ls1 := [some (.ref 1076)]) ⟨rfl, trivial⟩ ?_)
  refine zz_sipush (by decide) zd_3_13_0 ?_
  refine zz_aload_n (x := 1076) rfl zd_3_13_3 ?_
  have g1 := zz_G.r G_S0 1076 6 (-2147483648) 2147483647 rfl rfl
  refine zz_geti (z := S0 1076 6) zd_3_13_4 zf_Compiler_70 zT_1076 rfl (zz_ltn hn rfl) rfl ?_
  refine zz_iconst zd_3_13_7 ?_
  refine zz_iand (by omega) (by omega) zd_3_13_8 (fun v2 hv2 av2 bv2 ev2 => ?_)
  refine zz_imul zd_3_13_9 ?_
  exact zz_iret zd_3_13_10 rfl (Nat.zero_le _) (Nat.zero_le _) ⟨_, _, rfl, rfl, by omega⟩
theorem zk_Compiler_122 : mm_Vl "TensorForge$Compiler" 122 9 0 zy_tileHalf_3_13 := ⟨zyw_tileHalf_3_13, (R_Compiler, F_Compiler, 17), rfl, mm_tb_1 1431 (by decide +kernel) rfl, mm_tb_1 1433 (by decide +kernel) rfl, mm_tb_s 66 (by decide +kernel) rfl⟩
abbrev zy_shaped_12_6 : mm_Y := (⟨"TensorForge$Words", "shaped", "(III)J"⟩, prog_12_method_6_code, 3, (some .long))
theorem zyw_shaped_12_6 : mm_Yw zy_shaped_12_6 3 := ⟨mm_tb_1 1430 (by decide +kernel) rfl, mm_tb_1 20 (by decide +kernel) rfl, ⟨by decide, by decide⟩, by decide +kernel⟩
theorem zg_3_4_283 : zq_at zy_makeTile_3_4.2.1 283 54 ∧ zq_at zy_makeTile_3_4.2.1 284 7 ∧ zq_at zy_makeTile_3_4.2.1 285 16 ∧ zq_at zy_makeTile_3_4.2.1 286 7 ∧ zq_at zy_makeTile_3_4.2.1 287 42 ∧ zq_at zy_makeTile_3_4.2.1 288 180 ∧ zq_at zy_makeTile_3_4.2.1 289 0 ∧ zq_at zy_makeTile_3_4.2.1 290 91 ∧ zq_at zy_makeTile_3_4.2.1 291 42 ∧ zq_at zy_makeTile_3_4.2.1 292 180 ∧ zq_at zy_makeTile_3_4.2.1 293 0 ∧ zq_at zy_makeTile_3_4.2.1 294 82 ∧ zq_at zy_makeTile_3_4.2.1 295 184 ∧ zq_at zy_makeTile_3_4.2.1 296 0 ∧ zq_at zy_makeTile_3_4.2.1 297 128 := by decide +kernel
theorem zd_3_4_283 : zz_D zy_makeTile_3_4 283 (.istore 7) 2 285 := ⟨zq_54 zg_3_4_283.1 zg_3_4_283.2.1, rfl⟩
theorem zd_3_4_285 : zz_D zy_makeTile_3_4 285 (.bipush 7) 2 287 := ⟨zq_16 zg_3_4_283.2.2.1 zg_3_4_283.2.2.2.1 (by decide), rfl⟩
theorem zd_3_4_287 : zz_D zy_makeTile_3_4 287 (.aload_n 0) 1 288 := ⟨zq_42 zg_3_4_283.2.2.2.2.1, rfl⟩
theorem zd_3_4_288 : zz_D zy_makeTile_3_4 288 (.getfield 91) 3 291 := ⟨zq_180 zg_3_4_283.2.2.2.2.2.1 zg_3_4_283.2.2.2.2.2.2.1 zg_3_4_283.2.2.2.2.2.2.2.1 rfl, rfl⟩
theorem zd_3_4_291 : zz_D zy_makeTile_3_4 291 (.aload_n 0) 1 292 := ⟨zq_42 zg_3_4_283.2.2.2.2.2.2.2.2.1, rfl⟩
theorem zd_3_4_292 : zz_D zy_makeTile_3_4 292 (.getfield 82) 3 295 := ⟨zq_180 zg_3_4_283.2.2.2.2.2.2.2.2.2.1 zg_3_4_283.2.2.2.2.2.2.2.2.2.2.1 zg_3_4_283.2.2.2.2.2.2.2.2.2.2.2.1 rfl, rfl⟩
theorem zd_3_4_295 : zz_D zy_makeTile_3_4 295 (.invokestatic 128) 3 298 := ⟨zq_184 zg_3_4_283.2.2.2.2.2.2.2.2.2.2.2.2.1 zg_3_4_283.2.2.2.2.2.2.2.2.2.2.2.2.2.1 zg_3_4_283.2.2.2.2.2.2.2.2.2.2.2.2.2.2 rfl, rfl⟩
theorem zg_12_6_0 : zq_at zy_shaped_12_6.2.1 0 26 ∧ zq_at zy_shaped_12_6.2.1 1 133 ∧ zq_at zy_shaped_12_6.2.1 2 27 ∧ zq_at zy_shaped_12_6.2.1 3 133 ∧ zq_at zy_shaped_12_6.2.1 4 178 ∧ zq_at zy_shaped_12_6.2.1 5 0 ∧ zq_at zy_shaped_12_6.2.1 6 9 ∧ zq_at zy_shaped_12_6.2.1 7 16 ∧ zq_at zy_shaped_12_6.2.1 8 6 ∧ zq_at zy_shaped_12_6.2.1 9 46 ∧ zq_at zy_shaped_12_6.2.1 10 121 ∧ zq_at zy_shaped_12_6.2.1 11 129 ∧ zq_at zy_shaped_12_6.2.1 12 28 ∧ zq_at zy_shaped_12_6.2.1 13 133 ∧ zq_at zy_shaped_12_6.2.1 14 178 ∧ zq_at zy_shaped_12_6.2.1 15 0 ∧ zq_at zy_shaped_12_6.2.1 16 9 ∧ zq_at zy_shaped_12_6.2.1 17 16 ∧ zq_at zy_shaped_12_6.2.1 18 7 ∧ zq_at zy_shaped_12_6.2.1 19 46 ∧ zq_at zy_shaped_12_6.2.1 20 121 ∧ zq_at zy_shaped_12_6.2.1 21 129 ∧ zq_at zy_shaped_12_6.2.1 22 173 := by decide +kernel
theorem zd_12_6_0 : zz_D zy_shaped_12_6 0 (.iload_n 0) 1 1 := ⟨zq_26 zg_12_6_0.1, rfl⟩
theorem zd_12_6_1 : zz_D zy_shaped_12_6 1 (.i2l) 1 2 := ⟨zq_133 zg_12_6_0.2.1, rfl⟩
theorem zd_12_6_2 : zz_D zy_shaped_12_6 2 (.iload_n 1) 1 3 := ⟨zq_27 zg_12_6_0.2.2.1, rfl⟩
theorem zd_12_6_3 : zz_D zy_shaped_12_6 3 (.i2l) 1 4 := ⟨zq_133 zg_12_6_0.2.2.2.1, rfl⟩
theorem zd_12_6_4 : zz_D zy_shaped_12_6 4 (.getstatic 9) 3 7 := ⟨zq_178 zg_12_6_0.2.2.2.2.1 zg_12_6_0.2.2.2.2.2.1 zg_12_6_0.2.2.2.2.2.2.1 rfl, rfl⟩
theorem zd_12_6_7 : zz_D zy_shaped_12_6 7 (.bipush 6) 2 9 := ⟨zq_16 zg_12_6_0.2.2.2.2.2.2.2.1 zg_12_6_0.2.2.2.2.2.2.2.2.1 (by decide), rfl⟩
theorem zd_12_6_9 : zz_D zy_shaped_12_6 9 (.iaload) 1 10 := ⟨zq_46 zg_12_6_0.2.2.2.2.2.2.2.2.2.1, rfl⟩
theorem zd_12_6_10 : zz_D zy_shaped_12_6 10 (.lshl) 1 11 := ⟨zq_121 zg_12_6_0.2.2.2.2.2.2.2.2.2.2.1, rfl⟩
theorem zd_12_6_11 : zz_D zy_shaped_12_6 11 (.lor) 1 12 := ⟨zq_129 zg_12_6_0.2.2.2.2.2.2.2.2.2.2.2.1, rfl⟩
theorem zd_12_6_12 : zz_D zy_shaped_12_6 12 (.iload_n 2) 1 13 := ⟨zq_28 zg_12_6_0.2.2.2.2.2.2.2.2.2.2.2.2.1, rfl⟩
theorem zd_12_6_13 : zz_D zy_shaped_12_6 13 (.i2l) 1 14 := ⟨zq_133 zg_12_6_0.2.2.2.2.2.2.2.2.2.2.2.2.2.1, rfl⟩
theorem zd_12_6_14 : zz_D zy_shaped_12_6 14 (.getstatic 9) 3 17 := ⟨zq_178 zg_12_6_0.2.2.2.2.2.2.2.2.2.2.2.2.2.2.1 zg_12_6_0.2.2.2.2.2.2.2.2.2.2.2.2.2.2.2.1 zg_12_6_0.2.2.2.2.2.2.2.2.2.2.2.2.2.2.2.2.1 rfl, rfl⟩
theorem zd_12_6_17 : zz_D zy_shaped_12_6 17 (.bipush 7) 2 19 := ⟨zq_16 zg_12_6_0.2.2.2.2.2.2.2.2.2.2.2.2.2.2.2.2.2.1 zg_12_6_0.2.2.2.2.2.2.2.2.2.2.2.2.2.2.2.2.2.2.1 (by decide), rfl⟩
theorem zd_12_6_19 : zz_D zy_shaped_12_6 19 (.iaload) 1 20 := ⟨zq_46 zg_12_6_0.2.2.2.2.2.2.2.2.2.2.2.2.2.2.2.2.2.2.2.1, rfl⟩
theorem zd_12_6_20 : zz_D zy_shaped_12_6 20 (.lshl) 1 21 := ⟨zq_121 zg_12_6_0.2.2.2.2.2.2.2.2.2.2.2.2.2.2.2.2.2.2.2.2.1, rfl⟩
theorem zd_12_6_21 : zz_D zy_shaped_12_6 21 (.lor) 1 22 := ⟨zq_129 zg_12_6_0.2.2.2.2.2.2.2.2.2.2.2.2.2.2.2.2.2.2.2.2.2.1, rfl⟩
theorem zd_12_6_22 : zz_D zy_shaped_12_6 22 (.lreturn) 1 23 := ⟨zq_173 zg_12_6_0.2.2.2.2.2.2.2.2.2.2.2.2.2.2.2.2.2.2.2.2.2.2, rfl⟩
-- TensorForge$Words shaped (III)J
abbrev zr_shaped_12_6 : Room := { frames := 0, cells := 0, slots := 0, locals := 0 }
def zp_shaped_12_6 (p0 : Int) (p1 : Int) (p2 : Int) (S0 : zz_S) : Int → zz_S → Prop := fun r S => S0 = S ∧ ((-9223372036854775808) ≤ r ∧ r ≤ 9223372036854775807)
theorem zc_shaped_12_6 {g : mm_G} {l : Launch} (p0 : Int) (p1 : Int) (p2 : Int) (S0 : zz_S) (n : Nat) (hn : zz_end ≤ n) (G_S0 : zz_G S0) (hp0 : (-2147483648) ≤ p0 ∧ p0 ≤ 2147483647) (hp1 : (-2147483648) ≤ p1 ∧ p1 ≤ 2147483647) (hp2 : (-2147483648) ≤ p2 ∧ p2 ≤ 2147483647) : mm_Met g l zy_shaped_12_6 zr_shaped_12_6 [zi p0, zi p1, zi p2] (zz_M S0 n) n (zz_QJ n (zp_shaped_12_6 p0 p1 p2 S0)) := by
  refine zz_enter (by decide) (Nat.le_of_ble_eq_true rfl) (zz_less (ls1 := [some (zi p0), some (zi p1), some (zi p2)]) ⟨rfl, ⟨rfl, ⟨rfl, trivial⟩⟩⟩ ?_)
  refine zz_iload_n (x := p0) rfl zd_12_6_0 ?_
  refine zz_i2l (by omega) zd_12_6_1 ?_
  refine zz_iload_n (x := p1) rfl zd_12_6_2 ?_
  refine zz_i2l (by omega) zd_12_6_3 ?_
  refine zz_gets (q0 := 1) zd_12_6_4 rfl (by decide) zs_Words_9 ?_
  refine zz_bipush (by decide) zd_12_6_7 ?_
  refine zz_tiald 20 zd_12_6_9 rfl (by decide) rfl (by decide) (by decide) rfl ?_
  refine zz_lshl zd_12_6_10 (fun v1 hv1 ev1 => ?_)
  refine zz_lor zd_12_6_11 (fun v2 hv2 ev2 => ?_)
  refine zz_iload_n (x := p2) rfl zd_12_6_12 ?_
  refine zz_i2l (by omega) zd_12_6_13 ?_
  refine zz_gets (q0 := 1) zd_12_6_14 rfl (by decide) zs_Words_9 ?_
  refine zz_bipush (by decide) zd_12_6_17 ?_
  refine zz_tiald 26 zd_12_6_19 rfl (by decide) rfl (by decide) (by decide) rfl ?_
  refine zz_lshl zd_12_6_20 (fun v3 hv3 ev3 => ?_)
  refine zz_lor zd_12_6_21 (fun v4 hv4 ev4 => ?_)
  exact zz_lret zd_12_6_22 rfl (Nat.zero_le _) (Nat.zero_le _) ⟨_, _, rfl, rfl, by omega⟩
theorem zk_Compiler_128 : mm_Sl "TensorForge$Compiler" 128 3 zy_shaped_12_6 := ⟨zyw_shaped_12_6, mm_tb_1 1428 (by decide +kernel) rfl, mm_tb_1 1429 (by decide +kernel) rfl⟩
abbrev zy_narrowing_4_6 : mm_Y := (⟨"TensorForge$Layer", "narrowing", "()I"⟩, prog_4_method_6_code, 1, (some .int))
theorem zyw_narrowing_4_6 : mm_Yw zy_narrowing_4_6 0 := ⟨mm_tb_1 906 (by decide +kernel) rfl, mm_tb_1 3 (by decide +kernel) rfl, ⟨by decide, by decide⟩, by decide +kernel⟩
theorem zg_3_4_298 : zq_at zy_makeTile_3_4.2.1 298 16 ∧ zq_at zy_makeTile_3_4.2.1 299 8 ∧ zq_at zy_makeTile_3_4.2.1 300 21 ∧ zq_at zy_makeTile_3_4.2.1 301 7 ∧ zq_at zy_makeTile_3_4.2.1 302 184 ∧ zq_at zy_makeTile_3_4.2.1 303 0 ∧ zq_at zy_makeTile_3_4.2.1 304 132 ∧ zq_at zy_makeTile_3_4.2.1 305 129 ∧ zq_at zy_makeTile_3_4.2.1 306 16 ∧ zq_at zy_makeTile_3_4.2.1 307 9 ∧ zq_at zy_makeTile_3_4.2.1 308 21 ∧ zq_at zy_makeTile_3_4.2.1 309 7 ∧ zq_at zy_makeTile_3_4.2.1 310 184 ∧ zq_at zy_makeTile_3_4.2.1 311 0 ∧ zq_at zy_makeTile_3_4.2.1 312 132 ∧ zq_at zy_makeTile_3_4.2.1 313 129 ∧ zq_at zy_makeTile_3_4.2.1 314 16 ∧ zq_at zy_makeTile_3_4.2.1 315 11 ∧ zq_at zy_makeTile_3_4.2.1 316 42 ∧ zq_at zy_makeTile_3_4.2.1 317 180 ∧ zq_at zy_makeTile_3_4.2.1 318 0 ∧ zq_at zy_makeTile_3_4.2.1 319 51 := by decide +kernel
theorem zd_3_4_298 : zz_D zy_makeTile_3_4 298 (.bipush 8) 2 300 := ⟨zq_16 zg_3_4_298.1 zg_3_4_298.2.1 (by decide), rfl⟩
theorem zd_3_4_300 : zz_D zy_makeTile_3_4 300 (.iload 7) 2 302 := ⟨zq_21 zg_3_4_298.2.2.1 zg_3_4_298.2.2.2.1, rfl⟩
theorem zd_3_4_302 : zz_D zy_makeTile_3_4 302 (.invokestatic 132) 3 305 := ⟨zq_184 zg_3_4_298.2.2.2.2.1 zg_3_4_298.2.2.2.2.2.1 zg_3_4_298.2.2.2.2.2.2.1 rfl, rfl⟩
theorem zd_3_4_305 : zz_D zy_makeTile_3_4 305 (.lor) 1 306 := ⟨zq_129 zg_3_4_298.2.2.2.2.2.2.2.1, rfl⟩
theorem zd_3_4_306 : zz_D zy_makeTile_3_4 306 (.bipush 9) 2 308 := ⟨zq_16 zg_3_4_298.2.2.2.2.2.2.2.2.1 zg_3_4_298.2.2.2.2.2.2.2.2.2.1 (by decide), rfl⟩
theorem zd_3_4_308 : zz_D zy_makeTile_3_4 308 (.iload 7) 2 310 := ⟨zq_21 zg_3_4_298.2.2.2.2.2.2.2.2.2.2.1 zg_3_4_298.2.2.2.2.2.2.2.2.2.2.2.1, rfl⟩
theorem zd_3_4_310 : zz_D zy_makeTile_3_4 310 (.invokestatic 132) 3 313 := ⟨zq_184 zg_3_4_298.2.2.2.2.2.2.2.2.2.2.2.2.1 zg_3_4_298.2.2.2.2.2.2.2.2.2.2.2.2.2.1 zg_3_4_298.2.2.2.2.2.2.2.2.2.2.2.2.2.2.1 rfl, rfl⟩
theorem zd_3_4_313 : zz_D zy_makeTile_3_4 313 (.lor) 1 314 := ⟨zq_129 zg_3_4_298.2.2.2.2.2.2.2.2.2.2.2.2.2.2.2.1, rfl⟩
theorem zd_3_4_314 : zz_D zy_makeTile_3_4 314 (.bipush 11) 2 316 := ⟨zq_16 zg_3_4_298.2.2.2.2.2.2.2.2.2.2.2.2.2.2.2.2.1 zg_3_4_298.2.2.2.2.2.2.2.2.2.2.2.2.2.2.2.2.2.1 (by decide), rfl⟩
theorem zd_3_4_316 : zz_D zy_makeTile_3_4 316 (.aload_n 0) 1 317 := ⟨zq_42 zg_3_4_298.2.2.2.2.2.2.2.2.2.2.2.2.2.2.2.2.2.2.1, rfl⟩
theorem zd_3_4_317 : zz_D zy_makeTile_3_4 317 (.getfield 51) 3 320 := ⟨zq_180 zg_3_4_298.2.2.2.2.2.2.2.2.2.2.2.2.2.2.2.2.2.2.2.1 zg_3_4_298.2.2.2.2.2.2.2.2.2.2.2.2.2.2.2.2.2.2.2.2.1 zg_3_4_298.2.2.2.2.2.2.2.2.2.2.2.2.2.2.2.2.2.2.2.2.2 rfl, rfl⟩
theorem zg_3_4_320 : zq_at zy_makeTile_3_4.2.1 320 182 ∧ zq_at zy_makeTile_3_4.2.1 321 0 ∧ zq_at zy_makeTile_3_4.2.1 322 136 := by decide +kernel
theorem zd_3_4_320 : zz_D zy_makeTile_3_4 320 (.invokevirtual 136) 3 323 := ⟨zq_182 zg_3_4_320.1 zg_3_4_320.2.1 zg_3_4_320.2.2 rfl, rfl⟩
theorem zg_4_6_0 : zq_at zy_narrowing_4_6.2.1 0 42 ∧ zq_at zy_narrowing_4_6.2.1 1 180 ∧ zq_at zy_narrowing_4_6.2.1 2 0 ∧ zq_at zy_narrowing_4_6.2.1 3 38 ∧ zq_at zy_narrowing_4_6.2.1 4 153 ∧ zq_at zy_narrowing_4_6.2.1 5 0 ∧ zq_at zy_narrowing_4_6.2.1 6 13 ∧ zq_at zy_narrowing_4_6.2.1 17 42 ∧ zq_at zy_narrowing_4_6.2.1 18 180 ∧ zq_at zy_narrowing_4_6.2.1 19 0 ∧ zq_at zy_narrowing_4_6.2.1 20 35 ∧ zq_at zy_narrowing_4_6.2.1 21 172 ∧ zq_at zy_narrowing_4_6.2.1 7 16 ∧ zq_at zy_narrowing_4_6.2.1 8 16 ∧ zq_at zy_narrowing_4_6.2.1 9 42 ∧ zq_at zy_narrowing_4_6.2.1 10 180 ∧ zq_at zy_narrowing_4_6.2.1 11 0 ∧ zq_at zy_narrowing_4_6.2.1 12 35 ∧ zq_at zy_narrowing_4_6.2.1 13 96 ∧ zq_at zy_narrowing_4_6.2.1 14 167 ∧ zq_at zy_narrowing_4_6.2.1 15 0 ∧ zq_at zy_narrowing_4_6.2.1 16 7 := by decide +kernel
theorem zd_4_6_0 : zz_D zy_narrowing_4_6 0 (.aload_n 0) 1 1 := ⟨zq_42 zg_4_6_0.1, rfl⟩
theorem zd_4_6_1 : zz_D zy_narrowing_4_6 1 (.getfield 38) 3 4 := ⟨zq_180 zg_4_6_0.2.1 zg_4_6_0.2.2.1 zg_4_6_0.2.2.2.1 rfl, rfl⟩
theorem zd_4_6_4 : zz_B zy_narrowing_4_6 4 (Instr.ifCond .eq) 17 7 := ⟨13, zq_153 zg_4_6_0.2.2.2.2.1 zg_4_6_0.2.2.2.2.2.1 zg_4_6_0.2.2.2.2.2.2.1 (by decide), rfl, rfl⟩
theorem zd_4_6_17 : zz_D zy_narrowing_4_6 17 (.aload_n 0) 1 18 := ⟨zq_42 zg_4_6_0.2.2.2.2.2.2.2.1, rfl⟩
theorem zd_4_6_18 : zz_D zy_narrowing_4_6 18 (.getfield 35) 3 21 := ⟨zq_180 zg_4_6_0.2.2.2.2.2.2.2.2.1 zg_4_6_0.2.2.2.2.2.2.2.2.2.1 zg_4_6_0.2.2.2.2.2.2.2.2.2.2.1 rfl, rfl⟩
theorem zd_4_6_21 : zz_D zy_narrowing_4_6 21 (.ireturn) 1 22 := ⟨zq_172 zg_4_6_0.2.2.2.2.2.2.2.2.2.2.2.1, rfl⟩
theorem zd_4_6_7 : zz_D zy_narrowing_4_6 7 (.bipush 16) 2 9 := ⟨zq_16 zg_4_6_0.2.2.2.2.2.2.2.2.2.2.2.2.1 zg_4_6_0.2.2.2.2.2.2.2.2.2.2.2.2.2.1 (by decide), rfl⟩
theorem zd_4_6_9 : zz_D zy_narrowing_4_6 9 (.aload_n 0) 1 10 := ⟨zq_42 zg_4_6_0.2.2.2.2.2.2.2.2.2.2.2.2.2.2.1, rfl⟩
theorem zd_4_6_10 : zz_D zy_narrowing_4_6 10 (.getfield 35) 3 13 := ⟨zq_180 zg_4_6_0.2.2.2.2.2.2.2.2.2.2.2.2.2.2.2.1 zg_4_6_0.2.2.2.2.2.2.2.2.2.2.2.2.2.2.2.2.1 zg_4_6_0.2.2.2.2.2.2.2.2.2.2.2.2.2.2.2.2.2.1 rfl, rfl⟩
theorem zd_4_6_13 : zz_D zy_narrowing_4_6 13 (.iadd) 1 14 := ⟨zq_96 zg_4_6_0.2.2.2.2.2.2.2.2.2.2.2.2.2.2.2.2.2.2.1, rfl⟩
theorem zd_4_6_14 : zz_B zy_narrowing_4_6 14 Instr.goto 21 17 := ⟨7, zq_167 zg_4_6_0.2.2.2.2.2.2.2.2.2.2.2.2.2.2.2.2.2.2.2.1 zg_4_6_0.2.2.2.2.2.2.2.2.2.2.2.2.2.2.2.2.2.2.2.2.1 zg_4_6_0.2.2.2.2.2.2.2.2.2.2.2.2.2.2.2.2.2.2.2.2.2 (by decide), rfl, rfl⟩

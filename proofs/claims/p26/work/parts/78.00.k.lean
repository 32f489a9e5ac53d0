-- TensorForge$Text <init> ()V at 1070, 1071
abbrev zr_init_11_1_c1070_1071 : Room := { frames := 1, cells := 1, slots := 1500, locals := 12 }
def zp_init_11_1_c1070_1071 (S0 : zz_S) : zz_S → Prop := fun S => zz_Gm [1070, 1071, 1070] [] S ∧ zz_fr [(1070, 2), (1070, 3), (1070, 4), (1070, 5), (1070, 6)] [1070, 1071] (fun _ _ => False) S0 S ∧ (S 1070 1 = 0)
theorem zc_init_11_1_c1070_1071 {g : mm_G} {l : Launch} (S0 : zz_S) (G_S0 : zz_Gm [1070] [(1070, 0)] S0) : mm_Met g l zy_init_11_1 zr_init_11_1_c1070_1071 [.ref 1070] (zz_M S0 1071) 1071 (zz_QV 1072 (zp_init_11_1_c1070_1071 S0)) := by
  refine zz_enter (by decide) (Nat.le_of_ble_eq_true rfl) (zz_less (ls1 := [some (.ref 1070)]) ⟨rfl, trivial⟩ ?_)
  have F_S0 : zz_fr [(1070, 2), (1070, 3), (1070, 4), (1070, 5), (1070, 6)] [1070, 1071] (fun _ _ => False) S0 S0 := zz_fr.refl
  refine zz_aload_n (x := 1070) rfl zd_11_1_0 ?_
  refine zz_objI zd_11_1_1 zoi_Text_3 zoi.1 zoi.2 (Nat.le_of_ble_eq_true rfl) (Nat.le_of_ble_eq_true rfl) ?_
  refine zz_aload_n (x := 1070) rfl zd_11_1_4 ?_
  refine zz_sipush (by decide) zd_11_1_5 ?_
  refine zz_newa (z := 1500) (fun _ => 0) zd_11_1_8 zT_1071 rfl (mm_tb_1 313 (by decide +kernel) rfl) rfl (by decide) (by decide) (fun _ => rfl) (fun _ => rfl) (fun _ h => by cases h) (Nat.le_of_ble_eq_true rfl) (Nat.le_of_ble_eq_true rfl) (fun S2 qS2 => ?_)
  have G_S2 := zz_Gm.nwa [(1070, 0)] G_S0 qS2 (by decide +kernel) (fun i _ => ⟨(by decide : (0 : Int) ≤ 0), (by decide : (0 : Int) ≤ 65535)⟩)
  have F_S2 := zz_fr.nw F_S0 qS2 (by decide +kernel)
  refine zz_setn (n1 := 1072) (k1 := 1) (j1 := 1500) rfl rfl rfl ?_
  refine zz_putrF (kd := 0) 1071 zd_11_1_10 zf_Text_9 zT_1070 rfl (by decide) (by decide) rfl (fun _ => rfl) (fun _ => rfl) rfl (fun q h => by cases h; rfl) (fun S3 qS3 => ?_)
  have G_S3 := zz_Gm.put [] G_S2 qS3 1071 1071 rfl (by decide) (by decide +kernel)
  have F_S3 := zz_fr.putc F_S2 qS3 (by decide +kernel)
  refine zz_aload_n (x := 1070) rfl zd_11_1_13 ?_
  refine zz_iconst zd_11_1_14 ?_
  refine zz_puti zd_11_1_15 zf_Text_15 zT_1070 rfl (by decide) (fun S4 qS4 => ?_)
  have G_S4 := zz_Gm.put [] G_S3 qS4 0 1500 rfl (by decide) (by decide +kernel)
  have F_S4 := zz_fr.putc F_S3 qS4 (by decide +kernel)
  refine zz_aload_n (x := 1070) rfl zd_11_1_18 ?_
  refine zz_callVV [] zd_11_1_19 zk_Text_19 zT_1070 (by decide) rfl rfl ⟨Nat.le_of_ble_eq_true rfl, Nat.le_of_ble_eq_true rfl⟩ ⟨rfl, rfl⟩ (Nat.le_of_ble_eq_true rfl) (Nat.le_of_ble_eq_true rfl) (zc_rewind_11_5_c1070_1072 S4 (zz_Gm.sub (C1 := [1070]) (X1 := []) G_S4 (by decide +kernel) (by decide +kernel))) (fun S5 hP => ?_)
  obtain ⟨gS5, fS5⟩ := hP
  have F_S5 := zz_fr.trans F_S4 fS5 (by decide +kernel) zz_nv
  have G_S5 := zz_Gm.call [] G_S4 fS5 gS5 (by decide +kernel) (by decide +kernel) (by decide +kernel) (by decide +kernel)
  have e6 : S5 1070 1 = 0 := (zz_rc fS5 rfl rfl (fun h => h) (zz_rs qS4))
  exact zz_vret zd_11_1_22 rfl (Nat.le_of_ble_eq_true rfl) (Nat.le_of_ble_eq_true rfl) ⟨_, rfl, G_S5, F_S5, by omega⟩
theorem zf_TF_49 : mm_Fl "TensorForge" 49 0 2 (.object "TensorForge$Text") true := ⟨R_TF, F_TF, 12, t_TF, rfl, i_TF, by decide, mm_tb_1 442 (by decide +kernel) rfl, rfl, t_TF_ok, n_TF, rfl, by decide +kernel⟩
def zX_56 : List (Nat × Nat) := [(1000, 3), (1000, 4), (1000, 5), (1000, 6)]
theorem zn_TF_53 : mm_Nl "TensorForge" 53 7 4 [.null, .int 0, .long 0, .int 0] := ⟨R_Assembler, F_Assembler, t_Assembler, rfl, i_Assembler, t_Assembler_ok, mm_tb_1 314 (by decide +kernel) rfl, mm_tb_1 315 (by decide +kernel) rfl, mm_tb_1 8 (by decide +kernel) rfl, fun q hq => by rcases (by omega : q = 0 ∨ q = 1 ∨ q = 2 ∨ q = 3) with rfl | rfl | rfl | rfl <;> rfl, fun _ => rfl⟩
abbrev zy_init_2_1 : mm_Y := (⟨"TensorForge$Assembler", "<init>", "(LTensorForge$Text;)V"⟩, prog_2_method_1_code, 2, none)
theorem zyw_init_2_1 : mm_Yw zy_init_2_1 1 := ⟨mm_tb_1 318 (by decide +kernel) rfl, mm_tb_1 8 (by decide +kernel) rfl, ⟨by decide, by decide⟩, by decide +kernel⟩
theorem zk_TF_55 : mm_Il "TensorForge" 55 1 zy_init_2_1 := ⟨zyw_init_2_1, mm_tb_1 316 (by decide +kernel) rfl, mm_tb_1 317 (by decide +kernel) rfl, rfl, rfl⟩
theorem zoi_Assembler_3 : Cond.methodLink "TensorForge$Assembler" 3 Lib.objectInit ∈ mm_tb := mm_tb_1 319 (by decide +kernel) rfl
theorem zf_Assembler_9 : mm_Fl "TensorForge$Assembler" 9 7 0 (.object "TensorForge$Text") true := ⟨R_Assembler, F_Assembler, 4, t_Assembler, rfl, i_Assembler, by decide, mm_tb_1 320 (by decide +kernel) rfl, rfl, t_Assembler_ok, n_Assembler, rfl, by decide +kernel⟩
theorem zf_Assembler_15 : mm_Fl "TensorForge$Assembler" 15 7 1 .int false := ⟨R_Assembler, F_Assembler, 4, t_Assembler, rfl, i_Assembler, by decide, mm_tb_1 321 (by decide +kernel) rfl, rfl, t_Assembler_ok, n_Assembler, rfl, by decide +kernel⟩
theorem zf_Assembler_19 : mm_Fl "TensorForge$Assembler" 19 7 2 .long false := ⟨R_Assembler, F_Assembler, 4, t_Assembler, rfl, i_Assembler, by decide, mm_tb_1 323 (by decide +kernel) rfl, rfl, t_Assembler_ok, n_Assembler, rfl, by decide +kernel⟩
theorem zf_Assembler_23 : mm_Fl "TensorForge$Assembler" 23 7 3 .int false := ⟨R_Assembler, F_Assembler, 4, t_Assembler, rfl, i_Assembler, by decide, mm_tb_1 324 (by decide +kernel) rfl, rfl, t_Assembler_ok, n_Assembler, rfl, by decide +kernel⟩
theorem zg_1_1_83 : zq_at zy_init_1_1.2.1 83 181 ∧ zq_at zy_init_1_1.2.1 84 0 ∧ zq_at zy_init_1_1.2.1 85 49 ∧ zq_at zy_init_1_1.2.1 86 42 ∧ zq_at zy_init_1_1.2.1 87 187 ∧ zq_at zy_init_1_1.2.1 88 0 ∧ zq_at zy_init_1_1.2.1 89 53 ∧ zq_at zy_init_1_1.2.1 90 89 ∧ zq_at zy_init_1_1.2.1 91 42 ∧ zq_at zy_init_1_1.2.1 92 180 ∧ zq_at zy_init_1_1.2.1 93 0 ∧ zq_at zy_init_1_1.2.1 94 49 ∧ zq_at zy_init_1_1.2.1 95 183 ∧ zq_at zy_init_1_1.2.1 96 0 ∧ zq_at zy_init_1_1.2.1 97 55 := by decide +kernel
theorem zd_1_1_83 : zz_D zy_init_1_1 83 (.putfield 49) 3 86 := ⟨zq_181 zg_1_1_83.1 zg_1_1_83.2.1 zg_1_1_83.2.2.1 rfl, rfl⟩
theorem zd_1_1_86 : zz_D zy_init_1_1 86 (.aload_n 0) 1 87 := ⟨zq_42 zg_1_1_83.2.2.2.1, rfl⟩
theorem zd_1_1_87 : zz_D zy_init_1_1 87 (.new 53) 3 90 := ⟨zq_187 zg_1_1_83.2.2.2.2.1 zg_1_1_83.2.2.2.2.2.1 zg_1_1_83.2.2.2.2.2.2.1 rfl, rfl⟩
theorem zd_1_1_90 : zz_D zy_init_1_1 90 (.dup) 1 91 := ⟨zq_89 zg_1_1_83.2.2.2.2.2.2.2.1, rfl⟩
theorem zd_1_1_91 : zz_D zy_init_1_1 91 (.aload_n 0) 1 92 := ⟨zq_42 zg_1_1_83.2.2.2.2.2.2.2.2.1, rfl⟩
theorem zd_1_1_92 : zz_D zy_init_1_1 92 (.getfield 49) 3 95 := ⟨zq_180 zg_1_1_83.2.2.2.2.2.2.2.2.2.1 zg_1_1_83.2.2.2.2.2.2.2.2.2.2.1 zg_1_1_83.2.2.2.2.2.2.2.2.2.2.2.1 rfl, rfl⟩
theorem zd_1_1_95 : zz_D zy_init_1_1 95 (.invokespecial 55) 3 98 := ⟨zq_183 zg_1_1_83.2.2.2.2.2.2.2.2.2.2.2.2.1 zg_1_1_83.2.2.2.2.2.2.2.2.2.2.2.2.2.1 zg_1_1_83.2.2.2.2.2.2.2.2.2.2.2.2.2.2 rfl, rfl⟩
theorem zg_2_1_0 : zq_at zy_init_2_1.2.1 0 42 ∧ zq_at zy_init_2_1.2.1 1 183 ∧ zq_at zy_init_2_1.2.1 2 0 ∧ zq_at zy_init_2_1.2.1 3 3 ∧ zq_at zy_init_2_1.2.1 4 42 ∧ zq_at zy_init_2_1.2.1 5 43 ∧ zq_at zy_init_2_1.2.1 6 181 ∧ zq_at zy_init_2_1.2.1 7 0 ∧ zq_at zy_init_2_1.2.1 8 9 ∧ zq_at zy_init_2_1.2.1 9 42 ∧ zq_at zy_init_2_1.2.1 10 3 ∧ zq_at zy_init_2_1.2.1 11 181 ∧ zq_at zy_init_2_1.2.1 12 0 ∧ zq_at zy_init_2_1.2.1 13 15 ∧ zq_at zy_init_2_1.2.1 14 42 ∧ zq_at zy_init_2_1.2.1 15 9 ∧ zq_at zy_init_2_1.2.1 16 181 ∧ zq_at zy_init_2_1.2.1 17 0 ∧ zq_at zy_init_2_1.2.1 18 19 ∧ zq_at zy_init_2_1.2.1 19 42 ∧ zq_at zy_init_2_1.2.1 20 3 ∧ zq_at zy_init_2_1.2.1 21 181 ∧ zq_at zy_init_2_1.2.1 22 0 ∧ zq_at zy_init_2_1.2.1 23 23 := by decide +kernel
theorem zd_2_1_0 : zz_D zy_init_2_1 0 (.aload_n 0) 1 1 := ⟨zq_42 zg_2_1_0.1, rfl⟩
theorem zd_2_1_1 : zz_D zy_init_2_1 1 (.invokespecial 3) 3 4 := ⟨zq_183 zg_2_1_0.2.1 zg_2_1_0.2.2.1 zg_2_1_0.2.2.2.1 rfl, rfl⟩
theorem zd_2_1_4 : zz_D zy_init_2_1 4 (.aload_n 0) 1 5 := ⟨zq_42 zg_2_1_0.2.2.2.2.1, rfl⟩
theorem zd_2_1_5 : zz_D zy_init_2_1 5 (.aload_n 1) 1 6 := ⟨zq_43 zg_2_1_0.2.2.2.2.2.1, rfl⟩
theorem zd_2_1_6 : zz_D zy_init_2_1 6 (.putfield 9) 3 9 := ⟨zq_181 zg_2_1_0.2.2.2.2.2.2.1 zg_2_1_0.2.2.2.2.2.2.2.1 zg_2_1_0.2.2.2.2.2.2.2.2.1 rfl, rfl⟩
theorem zd_2_1_9 : zz_D zy_init_2_1 9 (.aload_n 0) 1 10 := ⟨zq_42 zg_2_1_0.2.2.2.2.2.2.2.2.2.1, rfl⟩
theorem zd_2_1_10 : zz_D zy_init_2_1 10 (.iconst 0) 1 11 := ⟨zq_3 zg_2_1_0.2.2.2.2.2.2.2.2.2.2.1, rfl⟩
theorem zd_2_1_11 : zz_D zy_init_2_1 11 (.putfield 15) 3 14 := ⟨zq_181 zg_2_1_0.2.2.2.2.2.2.2.2.2.2.2.1 zg_2_1_0.2.2.2.2.2.2.2.2.2.2.2.2.1 zg_2_1_0.2.2.2.2.2.2.2.2.2.2.2.2.2.1 rfl, rfl⟩
theorem zd_2_1_14 : zz_D zy_init_2_1 14 (.aload_n 0) 1 15 := ⟨zq_42 zg_2_1_0.2.2.2.2.2.2.2.2.2.2.2.2.2.2.1, rfl⟩
theorem zd_2_1_15 : zz_D zy_init_2_1 15 (.lconst 0) 1 16 := ⟨zq_9 zg_2_1_0.2.2.2.2.2.2.2.2.2.2.2.2.2.2.2.1, rfl⟩
theorem zd_2_1_16 : zz_D zy_init_2_1 16 (.putfield 19) 3 19 := ⟨zq_181 zg_2_1_0.2.2.2.2.2.2.2.2.2.2.2.2.2.2.2.2.1 zg_2_1_0.2.2.2.2.2.2.2.2.2.2.2.2.2.2.2.2.2.1 zg_2_1_0.2.2.2.2.2.2.2.2.2.2.2.2.2.2.2.2.2.2.1 rfl, rfl⟩
theorem zd_2_1_19 : zz_D zy_init_2_1 19 (.aload_n 0) 1 20 := ⟨zq_42 zg_2_1_0.2.2.2.2.2.2.2.2.2.2.2.2.2.2.2.2.2.2.2.1, rfl⟩
theorem zd_2_1_20 : zz_D zy_init_2_1 20 (.iconst 0) 1 21 := ⟨zq_3 zg_2_1_0.2.2.2.2.2.2.2.2.2.2.2.2.2.2.2.2.2.2.2.2.1, rfl⟩
theorem zd_2_1_21 : zz_D zy_init_2_1 21 (.putfield 23) 3 24 := ⟨zq_181 zg_2_1_0.2.2.2.2.2.2.2.2.2.2.2.2.2.2.2.2.2.2.2.2.2.1 zg_2_1_0.2.2.2.2.2.2.2.2.2.2.2.2.2.2.2.2.2.2.2.2.2.2.1 zg_2_1_0.2.2.2.2.2.2.2.2.2.2.2.2.2.2.2.2.2.2.2.2.2.2.2 rfl, rfl⟩
theorem zg_2_1_24 : zq_at zy_init_2_1.2.1 24 177 := by decide +kernel
theorem zd_2_1_24 : zz_D zy_init_2_1 24 (.return_) 1 25 := ⟨zq_177 zg_2_1_24, rfl⟩
-- TensorForge$Assembler <init> (LTensorForge$Text;)V at 1072, 1073
abbrev zr_init_2_1_c1072_1073 : Room := { frames := 1, cells := 0, slots := 0, locals := 12 }
def zp_init_2_1_c1072_1073 (S0 : zz_S) : zz_S → Prop := fun S => zz_Gm [1072] [] S ∧ zz_fr [] [1072] (fun _ _ => False) S0 S
theorem zc_init_2_1_c1072_1073 {g : mm_G} {l : Launch} (S0 : zz_S) (G_S0 : zz_Gm [1072] [(1072, 0)] S0) : mm_Met g l zy_init_2_1 zr_init_2_1_c1072_1073 [.ref 1072, .ref 1070] (zz_M S0 1073) 1073 (zz_QV 1073 (zp_init_2_1_c1072_1073 S0)) := by
  refine zz_enter (by decide) (Nat.le_of_ble_eq_true rfl) (zz_less (ls1 := [some (.ref 1072), some (.ref 1070)]) ⟨rfl, ⟨rfl, trivial⟩⟩ ?_)
  have F_S0 : zz_fr [] [1072] (fun _ _ => False) S0 S0 := zz_fr.refl
  refine zz_aload_n (x := 1072) rfl zd_2_1_0 ?_
  refine zz_objI zd_2_1_1 zoi_Assembler_3 zoi.1 zoi.2 (Nat.le_of_ble_eq_true rfl) (Nat.le_of_ble_eq_true rfl) ?_
  refine zz_aload_n (x := 1072) rfl zd_2_1_4 ?_
  refine zz_aload_n (x := 1070) rfl zd_2_1_5 ?_
  refine zz_putrF (kd := 0) 1070 zd_2_1_6 zf_Assembler_9 zT_1072 rfl (by decide) (by decide) rfl (fun _ => rfl) (fun _ => rfl) rfl (fun q h => by cases h; rfl) (fun S2 qS2 => ?_)
  have G_S2 := zz_Gm.put [] G_S0 qS2 1070 1070 rfl (by decide) (by decide +kernel)
  have F_S2 := zz_fr.putc F_S0 qS2 (by decide +kernel)
  refine zz_aload_n (x := 1072) rfl zd_2_1_9 ?_
  refine zz_iconst zd_2_1_10 ?_
  refine zz_puti zd_2_1_11 zf_Assembler_15 zT_1072 rfl (by decide) (fun S3 qS3 => ?_)
  have G_S3 := zz_Gm.put [] G_S2 qS3 0 600 rfl (by decide) (by decide +kernel)
  have F_S3 := zz_fr.putc F_S2 qS3 (by decide +kernel)
  refine zz_aload_n (x := 1072) rfl zd_2_1_14 ?_
  refine zz_lconst (z := 0) (by decide) zd_2_1_15 ?_
  refine zz_putl zd_2_1_16 zf_Assembler_19 zT_1072 rfl (by decide) (fun S4 qS4 => ?_)
  have G_S4 := zz_Gm.put [] G_S3 qS4 (-9223372036854775808) 9223372036854775807 rfl (by decide) (by decide +kernel)
  have F_S4 := zz_fr.putc F_S3 qS4 (by decide +kernel)
  refine zz_aload_n (x := 1072) rfl zd_2_1_19 ?_
  refine zz_iconst zd_2_1_20 ?_
  refine zz_puti zd_2_1_21 zf_Assembler_23 zT_1072 rfl (by decide) (fun S5 qS5 => ?_)
  have G_S5 := zz_Gm.put [] G_S4 qS5 (-2147483648) 2147483647 rfl (by decide) (by decide +kernel)
  have F_S5 := zz_fr.putc F_S4 qS5 (by decide +kernel)
  exact zz_vret zd_2_1_24 rfl (Nat.le_of_ble_eq_true rfl) (Nat.le_of_ble_eq_true rfl) ⟨_, rfl, G_S5, F_S5⟩
theorem zf_TF_58 : mm_Fl "TensorForge" 58 0 3 (.object "TensorForge$Assembler") true := ⟨R_TF, F_TF, 12, t_TF, rfl, i_TF, by decide, mm_tb_1 443 (by decide +kernel) rfl, rfl, t_TF_ok, n_TF, rfl, by decide +kernel⟩
def zX_57 : List (Nat × Nat) := [(1000, 4), (1000, 5), (1000, 6)]
theorem zn_TF_62 : mm_Nl "TensorForge" 62 8 9 [.null, .null, .null, .null, .int 0, .int 0, .int 0, .int 0, .int 0] := ⟨R_NetworkReader, F_NetworkReader, t_NetworkReader, rfl, i_NetworkReader, t_NetworkReader_ok, mm_tb_1 334 (by decide +kernel) rfl, mm_tb_1 335 (by decide +kernel) rfl, mm_tb_1 9 (by decide +kernel) rfl, fun q hq => by rcases (by omega : q = 0 ∨ q = 1 ∨ q = 2 ∨ q = 3 ∨ q = 4 ∨ q = 5 ∨ q = 6 ∨ q = 7 ∨ q = 8) with rfl | rfl | rfl | rfl | rfl | rfl | rfl | rfl | rfl <;> rfl, fun _ => rfl⟩
abbrev zy_init_8_1 : mm_Y := (⟨"TensorForge$NetworkReader", "<init>", "(LTensorForge$Text;LTensorForge$Network;)V"⟩, prog_8_method_1_code, 3, none)
theorem zyw_init_8_1 : mm_Yw zy_init_8_1 2 := ⟨mm_tb_1 338 (by decide +kernel) rfl, mm_tb_1 9 (by decide +kernel) rfl, ⟨by decide, by decide⟩, by decide +kernel⟩
theorem zk_TF_64 : mm_Il "TensorForge" 64 2 zy_init_8_1 := ⟨zyw_init_8_1, mm_tb_1 336 (by decide +kernel) rfl, mm_tb_1 337 (by decide +kernel) rfl, rfl, rfl⟩
theorem zoi_NetworkReader_3 : Cond.methodLink "TensorForge$NetworkReader" 3 Lib.objectInit ∈ mm_tb := mm_tb_1 339 (by decide +kernel) rfl
theorem zf_NetworkReader_9 : mm_Fl "TensorForge$NetworkReader" 9 8 0 (.object "TensorForge$Text") true := ⟨R_NetworkReader, F_NetworkReader, 9, t_NetworkReader, rfl, i_NetworkReader, by decide, mm_tb_1 340 (by decide +kernel) rfl, rfl, t_NetworkReader_ok, n_NetworkReader, rfl, by decide +kernel⟩
def zX_58 : List (Nat × Nat) := [(1073, 1), (1073, 2), (1073, 3)]
theorem zf_NetworkReader_15 : mm_Fl "TensorForge$NetworkReader" 15 8 1 (.object "TensorForge$Network") false := ⟨R_NetworkReader, F_NetworkReader, 9, t_NetworkReader, rfl, i_NetworkReader, by decide, mm_tb_1 341 (by decide +kernel) rfl, rfl, t_NetworkReader_ok, n_NetworkReader, rfl, by decide +kernel⟩
theorem zf_NetworkReader_21 : mm_Fl "TensorForge$NetworkReader" 21 8 2 (.array .int) true := ⟨R_NetworkReader, F_NetworkReader, 9, t_NetworkReader, rfl, i_NetworkReader, by decide, mm_tb_1 342 (by decide +kernel) rfl, rfl, t_NetworkReader_ok, n_NetworkReader, rfl, by decide +kernel⟩
theorem zf_NetworkReader_25 : mm_Fl "TensorForge$NetworkReader" 25 8 3 (.array .int) true := ⟨R_NetworkReader, F_NetworkReader, 9, t_NetworkReader, rfl, i_NetworkReader, by decide, mm_tb_1 343 (by decide +kernel) rfl, rfl, t_NetworkReader_ok, n_NetworkReader, rfl, by decide +kernel⟩
theorem zf_NetworkReader_28 : mm_Fl "TensorForge$NetworkReader" 28 8 4 .int false := ⟨R_NetworkReader, F_NetworkReader, 9, t_NetworkReader, rfl, i_NetworkReader, by decide, mm_tb_1 344 (by decide +kernel) rfl, rfl, t_NetworkReader_ok, n_NetworkReader, rfl, by decide +kernel⟩
theorem zf_NetworkReader_32 : mm_Fl "TensorForge$NetworkReader" 32 8 5 .int false := ⟨R_NetworkReader, F_NetworkReader, 9, t_NetworkReader, rfl, i_NetworkReader, by decide, mm_tb_1 345 (by decide +kernel) rfl, rfl, t_NetworkReader_ok, n_NetworkReader, rfl, by decide +kernel⟩
theorem zf_NetworkReader_35 : mm_Fl "TensorForge$NetworkReader" 35 8 6 .int false := ⟨R_NetworkReader, F_NetworkReader, 9, t_NetworkReader, rfl, i_NetworkReader, by decide, mm_tb_1 346 (by decide +kernel) rfl, rfl, t_NetworkReader_ok, n_NetworkReader, rfl, by decide +kernel⟩
theorem zf_NetworkReader_38 : mm_Fl "TensorForge$NetworkReader" 38 8 7 .int false := ⟨R_NetworkReader, F_NetworkReader, 9, t_NetworkReader, rfl, i_NetworkReader, by decide, mm_tb_1 347 (by decide +kernel) rfl, rfl, t_NetworkReader_ok, n_NetworkReader, rfl, by decide +kernel⟩
theorem zf_NetworkReader_41 : mm_Fl "TensorForge$NetworkReader" 41 8 8 .int false := ⟨R_NetworkReader, F_NetworkReader, 9, t_NetworkReader, rfl, i_NetworkReader, by decide, mm_tb_1 348 (by decide +kernel) rfl, rfl, t_NetworkReader_ok, n_NetworkReader, rfl, by decide +kernel⟩
theorem zg_1_1_98 : zq_at zy_init_1_1.2.1 98 181 ∧ zq_at zy_init_1_1.2.1 99 0 ∧ zq_at zy_init_1_1.2.1 100 58 ∧ zq_at zy_init_1_1.2.1 101 42 ∧ zq_at zy_init_1_1.2.1 102 187 ∧ zq_at zy_init_1_1.2.1 103 0 ∧ zq_at zy_init_1_1.2.1 104 62 ∧ zq_at zy_init_1_1.2.1 105 89 ∧ zq_at zy_init_1_1.2.1 106 42 ∧ zq_at zy_init_1_1.2.1 107 180 ∧ zq_at zy_init_1_1.2.1 108 0 ∧ zq_at zy_init_1_1.2.1 109 49 ∧ zq_at zy_init_1_1.2.1 110 42 ∧ zq_at zy_init_1_1.2.1 111 180 ∧ zq_at zy_init_1_1.2.1 112 0 ∧ zq_at zy_init_1_1.2.1 113 16 ∧ zq_at zy_init_1_1.2.1 114 183 ∧ zq_at zy_init_1_1.2.1 115 0 ∧ zq_at zy_init_1_1.2.1 116 64 := by decide +kernel
theorem zd_1_1_98 : zz_D zy_init_1_1 98 (.putfield 58) 3 101 := ⟨zq_181 zg_1_1_98.1 zg_1_1_98.2.1 zg_1_1_98.2.2.1 rfl, rfl⟩
theorem zd_1_1_101 : zz_D zy_init_1_1 101 (.aload_n 0) 1 102 := ⟨zq_42 zg_1_1_98.2.2.2.1, rfl⟩
theorem zd_1_1_102 : zz_D zy_init_1_1 102 (.new 62) 3 105 := ⟨zq_187 zg_1_1_98.2.2.2.2.1 zg_1_1_98.2.2.2.2.2.1 zg_1_1_98.2.2.2.2.2.2.1 rfl, rfl⟩
theorem zd_1_1_105 : zz_D zy_init_1_1 105 (.dup) 1 106 := ⟨zq_89 zg_1_1_98.2.2.2.2.2.2.2.1, rfl⟩
theorem zd_1_1_106 : zz_D zy_init_1_1 106 (.aload_n 0) 1 107 := ⟨zq_42 zg_1_1_98.2.2.2.2.2.2.2.2.1, rfl⟩
theorem zd_1_1_107 : zz_D zy_init_1_1 107 (.getfield 49) 3 110 := ⟨zq_180 zg_1_1_98.2.2.2.2.2.2.2.2.2.1 zg_1_1_98.2.2.2.2.2.2.2.2.2.2.1 zg_1_1_98.2.2.2.2.2.2.2.2.2.2.2.1 rfl, rfl⟩
theorem zd_1_1_110 : zz_D zy_init_1_1 110 (.aload_n 0) 1 111 := ⟨zq_42 zg_1_1_98.2.2.2.2.2.2.2.2.2.2.2.2.1, rfl⟩
theorem zd_1_1_111 : zz_D zy_init_1_1 111 (.getfield 16) 3 114 := ⟨zq_180 zg_1_1_98.2.2.2.2.2.2.2.2.2.2.2.2.2.1 zg_1_1_98.2.2.2.2.2.2.2.2.2.2.2.2.2.2.1 zg_1_1_98.2.2.2.2.2.2.2.2.2.2.2.2.2.2.2.1 rfl, rfl⟩
theorem zd_1_1_114 : zz_D zy_init_1_1 114 (.invokespecial 64) 3 117 := ⟨zq_183 zg_1_1_98.2.2.2.2.2.2.2.2.2.2.2.2.2.2.2.2.1 zg_1_1_98.2.2.2.2.2.2.2.2.2.2.2.2.2.2.2.2.2.1 zg_1_1_98.2.2.2.2.2.2.2.2.2.2.2.2.2.2.2.2.2.2 rfl, rfl⟩
theorem zg_8_1_0 : zq_at zy_init_8_1.2.1 0 42 ∧ zq_at zy_init_8_1.2.1 1 183 ∧ zq_at zy_init_8_1.2.1 2 0 ∧ zq_at zy_init_8_1.2.1 3 3 ∧ zq_at zy_init_8_1.2.1 4 42 ∧ zq_at zy_init_8_1.2.1 5 43 ∧ zq_at zy_init_8_1.2.1 6 181 ∧ zq_at zy_init_8_1.2.1 7 0 ∧ zq_at zy_init_8_1.2.1 8 9 ∧ zq_at zy_init_8_1.2.1 9 42 ∧ zq_at zy_init_8_1.2.1 10 44 ∧ zq_at zy_init_8_1.2.1 11 181 ∧ zq_at zy_init_8_1.2.1 12 0 ∧ zq_at zy_init_8_1.2.1 13 15 ∧ zq_at zy_init_8_1.2.1 14 42 ∧ zq_at zy_init_8_1.2.1 15 16 ∧ zq_at zy_init_8_1.2.1 16 11 ∧ zq_at zy_init_8_1.2.1 17 188 ∧ zq_at zy_init_8_1.2.1 18 10 ∧ zq_at zy_init_8_1.2.1 19 181 ∧ zq_at zy_init_8_1.2.1 20 0 ∧ zq_at zy_init_8_1.2.1 21 21 ∧ zq_at zy_init_8_1.2.1 22 42 := by decide +kernel
theorem zd_8_1_0 : zz_D zy_init_8_1 0 (.aload_n 0) 1 1 := ⟨zq_42 zg_8_1_0.1, rfl⟩
theorem zd_8_1_1 : zz_D zy_init_8_1 1 (.invokespecial 3) 3 4 := ⟨zq_183 zg_8_1_0.2.1 zg_8_1_0.2.2.1 zg_8_1_0.2.2.2.1 rfl, rfl⟩
theorem zd_8_1_4 : zz_D zy_init_8_1 4 (.aload_n 0) 1 5 := ⟨zq_42 zg_8_1_0.2.2.2.2.1, rfl⟩
theorem zd_8_1_5 : zz_D zy_init_8_1 5 (.aload_n 1) 1 6 := ⟨zq_43 zg_8_1_0.2.2.2.2.2.1, rfl⟩
theorem zd_8_1_6 : zz_D zy_init_8_1 6 (.putfield 9) 3 9 := ⟨zq_181 zg_8_1_0.2.2.2.2.2.2.1 zg_8_1_0.2.2.2.2.2.2.2.1 zg_8_1_0.2.2.2.2.2.2.2.2.1 rfl, rfl⟩
theorem zd_8_1_9 : zz_D zy_init_8_1 9 (.aload_n 0) 1 10 := ⟨zq_42 zg_8_1_0.2.2.2.2.2.2.2.2.2.1, rfl⟩
theorem zd_8_1_10 : zz_D zy_init_8_1 10 (.aload_n 2) 1 11 := ⟨zq_44 zg_8_1_0.2.2.2.2.2.2.2.2.2.2.1, rfl⟩
theorem zd_8_1_11 : zz_D zy_init_8_1 11 (.putfield 15) 3 14 := ⟨zq_181 zg_8_1_0.2.2.2.2.2.2.2.2.2.2.2.1 zg_8_1_0.2.2.2.2.2.2.2.2.2.2.2.2.1 zg_8_1_0.2.2.2.2.2.2.2.2.2.2.2.2.2.1 rfl, rfl⟩
theorem zd_8_1_14 : zz_D zy_init_8_1 14 (.aload_n 0) 1 15 := ⟨zq_42 zg_8_1_0.2.2.2.2.2.2.2.2.2.2.2.2.2.2.1, rfl⟩
theorem zd_8_1_15 : zz_D zy_init_8_1 15 (.bipush 11) 2 17 := ⟨zq_16 zg_8_1_0.2.2.2.2.2.2.2.2.2.2.2.2.2.2.2.1 zg_8_1_0.2.2.2.2.2.2.2.2.2.2.2.2.2.2.2.2.1 (by decide), rfl⟩
theorem zd_8_1_17 : zz_D zy_init_8_1 17 (.newarray .int) 2 19 := ⟨zq_188_10 zg_8_1_0.2.2.2.2.2.2.2.2.2.2.2.2.2.2.2.2.2.1 zg_8_1_0.2.2.2.2.2.2.2.2.2.2.2.2.2.2.2.2.2.2.1, rfl⟩
theorem zd_8_1_19 : zz_D zy_init_8_1 19 (.putfield 21) 3 22 := ⟨zq_181 zg_8_1_0.2.2.2.2.2.2.2.2.2.2.2.2.2.2.2.2.2.2.2.1 zg_8_1_0.2.2.2.2.2.2.2.2.2.2.2.2.2.2.2.2.2.2.2.2.1 zg_8_1_0.2.2.2.2.2.2.2.2.2.2.2.2.2.2.2.2.2.2.2.2.2.1 rfl, rfl⟩
theorem zd_8_1_22 : zz_D zy_init_8_1 22 (.aload_n 0) 1 23 := ⟨zq_42 zg_8_1_0.2.2.2.2.2.2.2.2.2.2.2.2.2.2.2.2.2.2.2.2.2.2, rfl⟩
theorem zg_8_1_23 : zq_at zy_init_8_1.2.1 23 16 ∧ zq_at zy_init_8_1.2.1 24 11 ∧ zq_at zy_init_8_1.2.1 25 188 ∧ zq_at zy_init_8_1.2.1 26 10 ∧ zq_at zy_init_8_1.2.1 27 181 ∧ zq_at zy_init_8_1.2.1 28 0 ∧ zq_at zy_init_8_1.2.1 29 25 ∧ zq_at zy_init_8_1.2.1 30 42 ∧ zq_at zy_init_8_1.2.1 31 3 ∧ zq_at zy_init_8_1.2.1 32 181 ∧ zq_at zy_init_8_1.2.1 33 0 ∧ zq_at zy_init_8_1.2.1 34 28 ∧ zq_at zy_init_8_1.2.1 35 42 ∧ zq_at zy_init_8_1.2.1 36 3 ∧ zq_at zy_init_8_1.2.1 37 181 ∧ zq_at zy_init_8_1.2.1 38 0 ∧ zq_at zy_init_8_1.2.1 39 32 ∧ zq_at zy_init_8_1.2.1 40 42 ∧ zq_at zy_init_8_1.2.1 41 3 ∧ zq_at zy_init_8_1.2.1 42 181 ∧ zq_at zy_init_8_1.2.1 43 0 ∧ zq_at zy_init_8_1.2.1 44 35 ∧ zq_at zy_init_8_1.2.1 45 42 ∧ zq_at zy_init_8_1.2.1 46 3 := by decide +kernel
theorem zd_8_1_23 : zz_D zy_init_8_1 23 (.bipush 11) 2 25 := ⟨zq_16 zg_8_1_23.1 zg_8_1_23.2.1 (by decide), rfl⟩
theorem zd_8_1_25 : zz_D zy_init_8_1 25 (.newarray .int) 2 27 := ⟨zq_188_10 zg_8_1_23.2.2.1 zg_8_1_23.2.2.2.1, rfl⟩
theorem zd_8_1_27 : zz_D zy_init_8_1 27 (.putfield 25) 3 30 := ⟨zq_181 zg_8_1_23.2.2.2.2.1 zg_8_1_23.2.2.2.2.2.1 zg_8_1_23.2.2.2.2.2.2.1 rfl, rfl⟩
theorem zd_8_1_30 : zz_D zy_init_8_1 30 (.aload_n 0) 1 31 := ⟨zq_42 zg_8_1_23.2.2.2.2.2.2.2.1, rfl⟩
theorem zd_8_1_31 : zz_D zy_init_8_1 31 (.iconst 0) 1 32 := ⟨zq_3 zg_8_1_23.2.2.2.2.2.2.2.2.1, rfl⟩
theorem zd_8_1_32 : zz_D zy_init_8_1 32 (.putfield 28) 3 35 := ⟨zq_181 zg_8_1_23.2.2.2.2.2.2.2.2.2.1 zg_8_1_23.2.2.2.2.2.2.2.2.2.2.1 zg_8_1_23.2.2.2.2.2.2.2.2.2.2.2.1 rfl, rfl⟩
theorem zd_8_1_35 : zz_D zy_init_8_1 35 (.aload_n 0) 1 36 := ⟨zq_42 zg_8_1_23.2.2.2.2.2.2.2.2.2.2.2.2.1, rfl⟩
theorem zd_8_1_36 : zz_D zy_init_8_1 36 (.iconst 0) 1 37 := ⟨zq_3 zg_8_1_23.2.2.2.2.2.2.2.2.2.2.2.2.2.1, rfl⟩
theorem zd_8_1_37 : zz_D zy_init_8_1 37 (.putfield 32) 3 40 := ⟨zq_181 zg_8_1_23.2.2.2.2.2.2.2.2.2.2.2.2.2.2.1 zg_8_1_23.2.2.2.2.2.2.2.2.2.2.2.2.2.2.2.1 zg_8_1_23.2.2.2.2.2.2.2.2.2.2.2.2.2.2.2.2.1 rfl, rfl⟩
theorem zd_8_1_40 : zz_D zy_init_8_1 40 (.aload_n 0) 1 41 := ⟨zq_42 zg_8_1_23.2.2.2.2.2.2.2.2.2.2.2.2.2.2.2.2.2.1, rfl⟩
theorem zd_8_1_41 : zz_D zy_init_8_1 41 (.iconst 0) 1 42 := ⟨zq_3 zg_8_1_23.2.2.2.2.2.2.2.2.2.2.2.2.2.2.2.2.2.2.1, rfl⟩
theorem zd_8_1_42 : zz_D zy_init_8_1 42 (.putfield 35) 3 45 := ⟨zq_181 zg_8_1_23.2.2.2.2.2.2.2.2.2.2.2.2.2.2.2.2.2.2.2.1 zg_8_1_23.2.2.2.2.2.2.2.2.2.2.2.2.2.2.2.2.2.2.2.2.1 zg_8_1_23.2.2.2.2.2.2.2.2.2.2.2.2.2.2.2.2.2.2.2.2.2.1 rfl, rfl⟩
theorem zd_8_1_45 : zz_D zy_init_8_1 45 (.aload_n 0) 1 46 := ⟨zq_42 zg_8_1_23.2.2.2.2.2.2.2.2.2.2.2.2.2.2.2.2.2.2.2.2.2.2.1, rfl⟩
theorem zd_8_1_46 : zz_D zy_init_8_1 46 (.iconst 0) 1 47 := ⟨zq_3 zg_8_1_23.2.2.2.2.2.2.2.2.2.2.2.2.2.2.2.2.2.2.2.2.2.2.2, rfl⟩
theorem zg_8_1_47 : zq_at zy_init_8_1.2.1 47 181 ∧ zq_at zy_init_8_1.2.1 48 0 ∧ zq_at zy_init_8_1.2.1 49 38 ∧ zq_at zy_init_8_1.2.1 50 42 ∧ zq_at zy_init_8_1.2.1 51 3 ∧ zq_at zy_init_8_1.2.1 52 181 ∧ zq_at zy_init_8_1.2.1 53 0 ∧ zq_at zy_init_8_1.2.1 54 41 ∧ zq_at zy_init_8_1.2.1 55 177 := by decide +kernel
theorem zd_8_1_47 : zz_D zy_init_8_1 47 (.putfield 38) 3 50 := ⟨zq_181 zg_8_1_47.1 zg_8_1_47.2.1 zg_8_1_47.2.2.1 rfl, rfl⟩
theorem zd_8_1_50 : zz_D zy_init_8_1 50 (.aload_n 0) 1 51 := ⟨zq_42 zg_8_1_47.2.2.2.1, rfl⟩
theorem zd_8_1_51 : zz_D zy_init_8_1 51 (.iconst 0) 1 52 := ⟨zq_3 zg_8_1_47.2.2.2.2.1, rfl⟩
theorem zd_8_1_52 : zz_D zy_init_8_1 52 (.putfield 41) 3 55 := ⟨zq_181 zg_8_1_47.2.2.2.2.2.1 zg_8_1_47.2.2.2.2.2.2.1 zg_8_1_47.2.2.2.2.2.2.2.1 rfl, rfl⟩
theorem zd_8_1_55 : zz_D zy_init_8_1 55 (.return_) 1 56 := ⟨zq_177 zg_8_1_47.2.2.2.2.2.2.2.2, rfl⟩
-- TensorForge$NetworkReader <init> (LTensorForge$Text;LTensorForge$Network;)V at 1073, 1074
abbrev zr_init_8_1_c1073_1074 : Room := { frames := 1, cells := 2, slots := 22, locals := 12 }
def zp_init_8_1_c1073_1074 (S0 : zz_S) : zz_S → Prop := fun S => zz_Gm [1075, 1074, 1073] [] S ∧ zz_fr [] [1073, 1074, 1075] (fun _ _ => False) S0 S
def zX_59 : List (Nat × Nat) := [(1073, 0), (1073, 1), (1073, 2), (1073, 3)]
theorem zc_init_8_1_c1073_1074 {g : mm_G} {l : Launch} (S0 : zz_S) (G_S0 : zz_Gm [1073] zX_59 S0) : mm_Met g l zy_init_8_1 zr_init_8_1_c1073_1074 [.ref 1073, .ref 1070, .ref 1015] (zz_M S0 1074) 1074 (zz_QV 1076 (zp_init_8_1_c1073_1074 S0)) := by
  refine zz_enter (by decide) (Nat.le_of_ble_eq_true rfl) (zz_less (ls1 := [some (.ref 1073), some (.ref 1070), some (.ref 1015)]) ⟨rfl, ⟨rfl, ⟨rfl, trivial⟩⟩⟩ ?_)
  have F_S0 : zz_fr [] [1073, 1074, 1075] (fun _ _ => False) S0 S0 := zz_fr.refl
  refine zz_aload_n (x := 1073) rfl zd_8_1_0 ?_
  refine zz_objI zd_8_1_1 zoi_NetworkReader_3 zoi.1 zoi.2 (Nat.le_of_ble_eq_true rfl) (Nat.le_of_ble_eq_true rfl) ?_
  refine zz_aload_n (x := 1073) rfl zd_8_1_4 ?_
  refine zz_aload_n (x := 1070) rfl zd_8_1_5 ?_
  refine zz_putrF (kd := 0) 1070 zd_8_1_6 zf_NetworkReader_9 zT_1073 rfl (by decide) (by decide) rfl (fun _ => rfl) (fun _ => rfl) rfl (fun q h => by cases h; rfl) (fun S2 qS2 => ?_)
  have G_S2 := zz_Gm.put zX_58 G_S0 qS2 1070 1070 rfl (by decide) (by decide +kernel)
  have F_S2 := zz_fr.putc F_S0 qS2 (by decide +kernel)
  refine zz_aload_n (x := 1073) rfl zd_8_1_9 ?_
  refine zz_aload_n (x := 1015) rfl zd_8_1_10 ?_
  refine zz_putr (kd := 1) 1 zd_8_1_11 zf_NetworkReader_15 zT_1073 rfl (by decide) (by decide) rfl (fun _ => rfl) (fun _ => rfl) (fun S3 qS3 => ?_)
  have G_S3 := zz_Gm.put [(1073, 2), (1073, 3)] G_S2 qS3 0 1 rfl (by decide) (by decide +kernel)
  have F_S3 := zz_fr.putc F_S2 qS3 (by decide +kernel)
  refine zz_aload_n (x := 1073) rfl zd_8_1_14 ?_
  refine zz_bipush (by decide) zd_8_1_15 ?_
  refine zz_newa (z := 11) (fun _ => 0) zd_8_1_17 zT_1074 rfl (mm_tb_1 183 (by decide +kernel) rfl) rfl (by decide) (by decide) (fun _ => rfl) (fun _ => rfl) (fun _ h => by cases h) (Nat.le_of_ble_eq_true rfl) (Nat.le_of_ble_eq_true rfl) (fun S4 qS4 => ?_)
  have G_S4 := zz_Gm.nwa [(1073, 2), (1073, 3)] G_S3 qS4 (by decide +kernel) (fun i _ => ⟨(by decide : (0 : Int) ≤ 0), (by decide : (0 : Int) ≤ 1500)⟩)
  have F_S4 := zz_fr.nw F_S3 qS4 (by decide +kernel)
  refine zz_setn (n1 := 1075) (k1 := 1) (j1 := 11) rfl rfl rfl ?_
  refine zz_putrF (kd := 0) 1074 zd_8_1_19 zf_NetworkReader_21 zT_1073 rfl (by decide) (by decide) rfl (fun _ => rfl) (fun _ => rfl) rfl (fun q h => by cases h; rfl) (fun S5 qS5 => ?_)
  have G_S5 := zz_Gm.put [(1073, 3)] G_S4 qS5 1074 1074 rfl (by decide) (by decide +kernel)
  have F_S5 := zz_fr.putc F_S4 qS5 (by decide +kernel)
  refine zz_aload_n (x := 1073) rfl zd_8_1_22 ?_
  refine zz_bipush (by decide) zd_8_1_23 ?_
  refine zz_newa (z := 11) (fun _ => 0) zd_8_1_25 zT_1075 rfl (mm_tb_1 183 (by decide +kernel) rfl) rfl (by decide) (by decide) (fun _ => rfl) (fun _ => rfl) (fun _ h => by cases h) (Nat.le_of_ble_eq_true rfl) (Nat.le_of_ble_eq_true rfl) (fun S6 qS6 => ?_)
  have G_S6 := zz_Gm.nwa [(1073, 3)] G_S5 qS6 (by decide +kernel) (fun i _ => ⟨(by decide : ((-1500) : Int) ≤ 0), (by decide : (0 : Int) ≤ 1500)⟩)
  have F_S6 := zz_fr.nw F_S5 qS6 (by decide +kernel)
  refine zz_setn (n1 := 1076) (k1 := 2) (j1 := 22) rfl rfl rfl ?_
  refine zz_putrF (kd := 0) 1075 zd_8_1_27 zf_NetworkReader_25 zT_1073 rfl (by decide) (by decide) rfl (fun _ => rfl) (fun _ => rfl) rfl (fun q h => by cases h; rfl) (fun S7 qS7 => ?_)
  have G_S7 := zz_Gm.put [] G_S6 qS7 1075 1075 rfl (by decide) (by decide +kernel)
  have F_S7 := zz_fr.putc F_S6 qS7 (by decide +kernel)
  refine zz_aload_n (x := 1073) rfl zd_8_1_30 ?_
  refine zz_iconst zd_8_1_31 ?_
  refine zz_puti zd_8_1_32 zf_NetworkReader_28 zT_1073 rfl (by decide) (fun S8 qS8 => ?_)
  have G_S8 := zz_Gm.put [] G_S7 qS8 0 1500 rfl (by decide) (by decide +kernel)
  have F_S8 := zz_fr.putc F_S7 qS8 (by decide +kernel)
  refine zz_aload_n (x := 1073) rfl zd_8_1_35 ?_
  refine zz_iconst zd_8_1_36 ?_
  refine zz_puti zd_8_1_37 zf_NetworkReader_32 zT_1073 rfl (by decide) (fun S9 qS9 => ?_)
  have G_S9 := zz_Gm.put [] G_S8 qS9 (-1500) 1500 rfl (by decide) (by decide +kernel)
  have F_S9 := zz_fr.putc F_S8 qS9 (by decide +kernel)
  refine zz_aload_n (x := 1073) rfl zd_8_1_40 ?_
  refine zz_iconst zd_8_1_41 ?_
  refine zz_puti zd_8_1_42 zf_NetworkReader_35 zT_1073 rfl (by decide) (fun S10 qS10 => ?_)
  have G_S10 := zz_Gm.put [] G_S9 qS10 (-2147483648) 2147483647 rfl (by decide) (by decide +kernel)
  have F_S10 := zz_fr.putc F_S9 qS10 (by decide +kernel)
  refine zz_aload_n (x := 1073) rfl zd_8_1_45 ?_
  refine zz_iconst zd_8_1_46 ?_
  refine zz_puti zd_8_1_47 zf_NetworkReader_38 zT_1073 rfl (by decide) (fun S11 qS11 => ?_)
  have G_S11 := zz_Gm.put [] G_S10 qS11 (-2147483648) 2147483647 rfl (by decide) (by decide +kernel)
  have F_S11 := zz_fr.putc F_S10 qS11 (by decide +kernel)
  refine zz_aload_n (x := 1073) rfl zd_8_1_50 ?_
  refine zz_iconst zd_8_1_51 ?_
  refine zz_puti zd_8_1_52 zf_NetworkReader_41 zT_1073 rfl (by decide) (fun S12 qS12 => ?_)
  have G_S12 := zz_Gm.put [] G_S11 qS12 (-2147483648) 2147483647 rfl (by decide) (by decide +kernel)
  have F_S12 := zz_fr.putc F_S11 qS12 (by decide +kernel)
  exact zz_vret zd_8_1_55 rfl (Nat.le_of_ble_eq_true rfl) (Nat.le_of_ble_eq_true rfl) ⟨_, rfl, G_S12, F_S12⟩
theorem zf_TF_67 : mm_Fl "TensorForge" 67 0 4 (.object "TensorForge$NetworkReader") true := ⟨R_TF, F_TF, 12, t_TF, rfl, i_TF, by decide, mm_tb_1 444 (by decide +kernel) rfl, rfl, t_TF_ok, n_TF, rfl, by decide +kernel⟩
theorem zn_TF_71 : mm_Nl "TensorForge" 71 9 17 [.null, .int 0, .int 0, .null, .null, .null, .int 0, .int 0, .int 0, .int 0, .int 0, .int 0, .int 0, .int 0, .int 0, .int 0, .int 0] := ⟨R_Compiler, F_Compiler, t_Compiler, rfl, i_Compiler, t_Compiler_ok, mm_tb_1 368 (by decide +kernel) rfl, mm_tb_1 369 (by decide +kernel) rfl, mm_tb_1 10 (by decide +kernel) rfl, fun q hq => by rcases (by omega : q = 0 ∨ q = 1 ∨ q = 2 ∨ q = 3 ∨ q = 4 ∨ q = 5 ∨ q = 6 ∨ q = 7 ∨ q = 8 ∨ q = 9 ∨ q = 10 ∨ q = 11 ∨ q = 12 ∨ q = 13 ∨ q = 14 ∨ q = 15 ∨ q = 16) with rfl | rfl | rfl | rfl | rfl | rfl | rfl | rfl | rfl | rfl | rfl | rfl | rfl | rfl | rfl | rfl | rfl <;> rfl, fun _ => rfl⟩
abbrev zy_init_3_1 : mm_Y := (⟨"TensorForge$Compiler", "<init>", "([J)V"⟩, prog_3_method_1_code, 2, none)
theorem zyw_init_3_1 : mm_Yw zy_init_3_1 1 := ⟨mm_tb_1 372 (by decide +kernel) rfl, mm_tb_1 10 (by decide +kernel) rfl, ⟨by decide, by decide⟩, by decide +kernel⟩
theorem zk_TF_73 : mm_Il "TensorForge" 73 1 zy_init_3_1 := ⟨zyw_init_3_1, mm_tb_1 370 (by decide +kernel) rfl, mm_tb_1 371 (by decide +kernel) rfl, rfl, rfl⟩
theorem zoi_Compiler_3 : Cond.methodLink "TensorForge$Compiler" 3 Lib.objectInit ∈ mm_tb := mm_tb_1 373 (by decide +kernel) rfl
theorem zf_Compiler_9 : mm_Fl "TensorForge$Compiler" 9 9 0 (.array .long) false := ⟨R_Compiler, F_Compiler, 17, t_Compiler, rfl, i_Compiler, by decide, mm_tb_1 374 (by decide +kernel) rfl, rfl, t_Compiler_ok, n_Compiler, rfl, by decide +kernel⟩
theorem zf_Compiler_15 : mm_Fl "TensorForge$Compiler" 15 9 1 .int false := ⟨R_Compiler, F_Compiler, 17, t_Compiler, rfl, i_Compiler, by decide, mm_tb_1 375 (by decide +kernel) rfl, rfl, t_Compiler_ok, n_Compiler, rfl, by decide +kernel⟩
theorem zf_Compiler_21 : mm_Fl "TensorForge$Compiler" 21 9 2 .int false := ⟨R_Compiler, F_Compiler, 17, t_Compiler, rfl, i_Compiler, by decide, mm_tb_1 377 (by decide +kernel) rfl, rfl, t_Compiler_ok, n_Compiler, rfl, by decide +kernel⟩
theorem zg_1_1_117 : zq_at zy_init_1_1.2.1 117 181 ∧ zq_at zy_init_1_1.2.1 118 0 ∧ zq_at zy_init_1_1.2.1 119 67 ∧ zq_at zy_init_1_1.2.1 120 42 ∧ zq_at zy_init_1_1.2.1 121 187 ∧ zq_at zy_init_1_1.2.1 122 0 ∧ zq_at zy_init_1_1.2.1 123 71 ∧ zq_at zy_init_1_1.2.1 124 89 ∧ zq_at zy_init_1_1.2.1 125 42 ∧ zq_at zy_init_1_1.2.1 126 180 ∧ zq_at zy_init_1_1.2.1 127 0 ∧ zq_at zy_init_1_1.2.1 128 23 ∧ zq_at zy_init_1_1.2.1 129 183 ∧ zq_at zy_init_1_1.2.1 130 0 ∧ zq_at zy_init_1_1.2.1 131 73 := by decide +kernel
theorem zd_1_1_117 : zz_D zy_init_1_1 117 (.putfield 67) 3 120 := ⟨zq_181 zg_1_1_117.1 zg_1_1_117.2.1 zg_1_1_117.2.2.1 rfl, rfl⟩
theorem zd_1_1_120 : zz_D zy_init_1_1 120 (.aload_n 0) 1 121 := ⟨zq_42 zg_1_1_117.2.2.2.1, rfl⟩
theorem zd_1_1_121 : zz_D zy_init_1_1 121 (.new 71) 3 124 := ⟨zq_187 zg_1_1_117.2.2.2.2.1 zg_1_1_117.2.2.2.2.2.1 zg_1_1_117.2.2.2.2.2.2.1 rfl, rfl⟩
theorem zd_1_1_124 : zz_D zy_init_1_1 124 (.dup) 1 125 := ⟨zq_89 zg_1_1_117.2.2.2.2.2.2.2.1, rfl⟩
theorem zd_1_1_125 : zz_D zy_init_1_1 125 (.aload_n 0) 1 126 := ⟨zq_42 zg_1_1_117.2.2.2.2.2.2.2.2.1, rfl⟩
theorem zd_1_1_126 : zz_D zy_init_1_1 126 (.getfield 23) 3 129 := ⟨zq_180 zg_1_1_117.2.2.2.2.2.2.2.2.2.1 zg_1_1_117.2.2.2.2.2.2.2.2.2.2.1 zg_1_1_117.2.2.2.2.2.2.2.2.2.2.2.1 rfl, rfl⟩
theorem zd_1_1_129 : zz_D zy_init_1_1 129 (.invokespecial 73) 3 132 := ⟨zq_183 zg_1_1_117.2.2.2.2.2.2.2.2.2.2.2.2.1 zg_1_1_117.2.2.2.2.2.2.2.2.2.2.2.2.2.1 zg_1_1_117.2.2.2.2.2.2.2.2.2.2.2.2.2.2 rfl, rfl⟩
theorem zg_3_1_0 : zq_at zy_init_3_1.2.1 0 42 ∧ zq_at zy_init_3_1.2.1 1 183 ∧ zq_at zy_init_3_1.2.1 2 0 ∧ zq_at zy_init_3_1.2.1 3 3 ∧ zq_at zy_init_3_1.2.1 4 42 ∧ zq_at zy_init_3_1.2.1 5 43 ∧ zq_at zy_init_3_1.2.1 6 181 ∧ zq_at zy_init_3_1.2.1 7 0 ∧ zq_at zy_init_3_1.2.1 8 9 ∧ zq_at zy_init_3_1.2.1 9 42 ∧ zq_at zy_init_3_1.2.1 10 3 ∧ zq_at zy_init_3_1.2.1 11 181 ∧ zq_at zy_init_3_1.2.1 12 0 ∧ zq_at zy_init_3_1.2.1 13 15 ∧ zq_at zy_init_3_1.2.1 14 42 ∧ zq_at zy_init_3_1.2.1 15 5 ∧ zq_at zy_init_3_1.2.1 16 181 ∧ zq_at zy_init_3_1.2.1 17 0 ∧ zq_at zy_init_3_1.2.1 18 21 ∧ zq_at zy_init_3_1.2.1 19 177 := by decide +kernel
theorem zd_3_1_0 : zz_D zy_init_3_1 0 (.aload_n 0) 1 1 := ⟨zq_42 zg_3_1_0.1, rfl⟩
theorem zd_3_1_1 : zz_D zy_init_3_1 1 (.invokespecial 3) 3 4 := ⟨zq_183 zg_3_1_0.2.1 zg_3_1_0.2.2.1 zg_3_1_0.2.2.2.1 rfl, rfl⟩
theorem zd_3_1_4 : zz_D zy_init_3_1 4 (.aload_n 0) 1 5 := ⟨zq_42 zg_3_1_0.2.2.2.2.1, rfl⟩
theorem zd_3_1_5 : zz_D zy_init_3_1 5 (.aload_n 1) 1 6 := ⟨zq_43 zg_3_1_0.2.2.2.2.2.1, rfl⟩
theorem zd_3_1_6 : zz_D zy_init_3_1 6 (.putfield 9) 3 9 := ⟨zq_181 zg_3_1_0.2.2.2.2.2.2.1 zg_3_1_0.2.2.2.2.2.2.2.1 zg_3_1_0.2.2.2.2.2.2.2.2.1 rfl, rfl⟩
theorem zd_3_1_9 : zz_D zy_init_3_1 9 (.aload_n 0) 1 10 := ⟨zq_42 zg_3_1_0.2.2.2.2.2.2.2.2.2.1, rfl⟩
theorem zd_3_1_10 : zz_D zy_init_3_1 10 (.iconst 0) 1 11 := ⟨zq_3 zg_3_1_0.2.2.2.2.2.2.2.2.2.2.1, rfl⟩
theorem zd_3_1_11 : zz_D zy_init_3_1 11 (.putfield 15) 3 14 := ⟨zq_181 zg_3_1_0.2.2.2.2.2.2.2.2.2.2.2.1 zg_3_1_0.2.2.2.2.2.2.2.2.2.2.2.2.1 zg_3_1_0.2.2.2.2.2.2.2.2.2.2.2.2.2.1 rfl, rfl⟩
theorem zd_3_1_14 : zz_D zy_init_3_1 14 (.aload_n 0) 1 15 := ⟨zq_42 zg_3_1_0.2.2.2.2.2.2.2.2.2.2.2.2.2.2.1, rfl⟩
theorem zd_3_1_15 : zz_D zy_init_3_1 15 (.iconst 2) 1 16 := ⟨zq_5 zg_3_1_0.2.2.2.2.2.2.2.2.2.2.2.2.2.2.2.1, rfl⟩
theorem zd_3_1_16 : zz_D zy_init_3_1 16 (.putfield 21) 3 19 := ⟨zq_181 zg_3_1_0.2.2.2.2.2.2.2.2.2.2.2.2.2.2.2.2.1 zg_3_1_0.2.2.2.2.2.2.2.2.2.2.2.2.2.2.2.2.2.1 zg_3_1_0.2.2.2.2.2.2.2.2.2.2.2.2.2.2.2.2.2.2.1 rfl, rfl⟩
theorem zd_3_1_19 : zz_D zy_init_3_1 19 (.return_) 1 20 := ⟨zq_177 zg_3_1_0.2.2.2.2.2.2.2.2.2.2.2.2.2.2.2.2.2.2.2, rfl⟩
-- TensorForge$Compiler <init> ([J)V at 1076, 1077
abbrev zr_init_3_1_c1076_1077 : Room := { frames := 1, cells := 0, slots := 0, locals := 12 }
def zp_init_3_1_c1076_1077 (S0 : zz_S) : zz_S → Prop := fun S => zz_Gm [1076] [] S ∧ zz_fr [] [1076] (fun _ _ => False) S0 S
theorem zc_init_3_1_c1076_1077 {g : mm_G} {l : Launch} (S0 : zz_S) (G_S0 : zz_Gm [1076] [(1076, 0), (1076, 2)] S0) : mm_Met g l zy_init_3_1 zr_init_3_1_c1076_1077 [.ref 1076, .ref 1030] (zz_M S0 1077) 1077 (zz_QV 1077 (zp_init_3_1_c1076_1077 S0)) := by
  refine zz_enter (by decide) (Nat.le_of_ble_eq_true rfl) (zz_less (ls1 := [some (.ref 1076), some (.ref 1030)]) ⟨rfl, ⟨rfl, trivial⟩⟩ ?_)
  have F_S0 : zz_fr [] [1076] (fun _ _ => False) S0 S0 := zz_fr.refl
  refine zz_aload_n (x := 1076) rfl zd_3_1_0 ?_
  refine zz_objI zd_3_1_1 zoi_Compiler_3 zoi.1 zoi.2 (Nat.le_of_ble_eq_true rfl) (Nat.le_of_ble_eq_true rfl) ?_
  refine zz_aload_n (x := 1076) rfl zd_3_1_4 ?_
  refine zz_aload_n (x := 1030) rfl zd_3_1_5 ?_
  refine zz_putr (kd := 2) 1 zd_3_1_6 zf_Compiler_9 zT_1076 rfl (by decide) (by decide) rfl (fun _ => rfl) (fun _ => rfl) (fun S2 qS2 => ?_)
  have G_S2 := zz_Gm.put [(1076, 2)] G_S0 qS2 0 1 rfl (by decide) (by decide +kernel)
  have F_S2 := zz_fr.putc F_S0 qS2 (by decide +kernel)
  refine zz_aload_n (x := 1076) rfl zd_3_1_9 ?_
  refine zz_iconst zd_3_1_10 ?_
  refine zz_puti zd_3_1_11 zf_Compiler_15 zT_1076 rfl (by decide) (fun S3 qS3 => ?_)
  have G_S3 := zz_Gm.put [(1076, 2)] G_S2 qS3 0 1000000 rfl (by decide) (by decide +kernel)
  have F_S3 := zz_fr.putc F_S2 qS3 (by decide +kernel)
  refine zz_aload_n (x := 1076) rfl zd_3_1_14 ?_
  refine zz_iconst zd_3_1_15 ?_
  refine zz_puti zd_3_1_16 zf_Compiler_21 zT_1076 rfl (by decide) (fun S4 qS4 => ?_)
  have G_S4 := zz_Gm.put [] G_S3 qS4 2 8 rfl (by decide) (by decide +kernel)
  have F_S4 := zz_fr.putc F_S3 qS4 (by decide +kernel)
  exact zz_vret zd_3_1_19 rfl (Nat.le_of_ble_eq_true rfl) (Nat.le_of_ble_eq_true rfl) ⟨_, rfl, G_S4, F_S4⟩
theorem zf_TF_76 : mm_Fl "TensorForge" 76 0 5 (.object "TensorForge$Compiler") true := ⟨R_TF, F_TF, 12, t_TF, rfl, i_TF, by decide, mm_tb_1 445 (by decide +kernel) rfl, rfl, t_TF_ok, n_TF, rfl, by decide +kernel⟩
theorem zn_TF_80 : mm_Nl "TensorForge" 80 10 2 [.null, .int 0] := ⟨R_Line, F_Line, t_Line, rfl, i_Line, t_Line_ok, mm_tb_1 427 (by decide +kernel) rfl, mm_tb_1 428 (by decide +kernel) rfl, mm_tb_1 11 (by decide +kernel) rfl, fun q hq => by rcases (by omega : q = 0 ∨ q = 1) with rfl | rfl <;> rfl, fun _ => rfl⟩
abbrev zy_init_5_1 : mm_Y := (⟨"TensorForge$Line", "<init>", "()V"⟩, prog_5_method_1_code, 1, none)
theorem zyw_init_5_1 : mm_Yw zy_init_5_1 0 := ⟨mm_tb_1 431 (by decide +kernel) rfl, mm_tb_1 11 (by decide +kernel) rfl, ⟨by decide, by decide⟩, by decide +kernel⟩
theorem zk_TF_82 : mm_Il "TensorForge" 82 0 zy_init_5_1 := ⟨zyw_init_5_1, mm_tb_1 429 (by decide +kernel) rfl, mm_tb_1 430 (by decide +kernel) rfl, rfl, rfl⟩
theorem zoi_Line_3 : Cond.methodLink "TensorForge$Line" 3 Lib.objectInit ∈ mm_tb := mm_tb_1 432 (by decide +kernel) rfl
theorem zf_Line_11 : mm_Fl "TensorForge$Line" 11 10 0 (.array .char) true := ⟨R_Line, F_Line, 2, t_Line, rfl, i_Line, by decide, mm_tb_1 433 (by decide +kernel) rfl, rfl, t_Line_ok, n_Line, rfl, by decide +kernel⟩
theorem zf_Line_15 : mm_Fl "TensorForge$Line" 15 10 1 .int false := ⟨R_Line, F_Line, 2, t_Line, rfl, i_Line, by decide, mm_tb_1 434 (by decide +kernel) rfl, rfl, t_Line_ok, n_Line, rfl, by decide +kernel⟩
theorem zg_1_1_132 : zq_at zy_init_1_1.2.1 132 181 ∧ zq_at zy_init_1_1.2.1 133 0 ∧ zq_at zy_init_1_1.2.1 134 76 ∧ zq_at zy_init_1_1.2.1 135 42 ∧ zq_at zy_init_1_1.2.1 136 187 ∧ zq_at zy_init_1_1.2.1 137 0 ∧ zq_at zy_init_1_1.2.1 138 80 ∧ zq_at zy_init_1_1.2.1 139 89 ∧ zq_at zy_init_1_1.2.1 140 183 ∧ zq_at zy_init_1_1.2.1 141 0 ∧ zq_at zy_init_1_1.2.1 142 82 := by decide +kernel
theorem zd_1_1_132 : zz_D zy_init_1_1 132 (.putfield 76) 3 135 := ⟨zq_181 zg_1_1_132.1 zg_1_1_132.2.1 zg_1_1_132.2.2.1 rfl, rfl⟩
theorem zd_1_1_135 : zz_D zy_init_1_1 135 (.aload_n 0) 1 136 := ⟨zq_42 zg_1_1_132.2.2.2.1, rfl⟩
theorem zd_1_1_136 : zz_D zy_init_1_1 136 (.new 80) 3 139 := ⟨zq_187 zg_1_1_132.2.2.2.2.1 zg_1_1_132.2.2.2.2.2.1 zg_1_1_132.2.2.2.2.2.2.1 rfl, rfl⟩
theorem zd_1_1_139 : zz_D zy_init_1_1 139 (.dup) 1 140 := ⟨zq_89 zg_1_1_132.2.2.2.2.2.2.2.1, rfl⟩
theorem zd_1_1_140 : zz_D zy_init_1_1 140 (.invokespecial 82) 3 143 := ⟨zq_183 zg_1_1_132.2.2.2.2.2.2.2.2.1 zg_1_1_132.2.2.2.2.2.2.2.2.2.1 zg_1_1_132.2.2.2.2.2.2.2.2.2.2 rfl, rfl⟩
theorem zg_5_1_0 : zq_at zy_init_5_1.2.1 0 42 ∧ zq_at zy_init_5_1.2.1 1 183 ∧ zq_at zy_init_5_1.2.1 2 0 ∧ zq_at zy_init_5_1.2.1 3 3 ∧ zq_at zy_init_5_1.2.1 4 42 ∧ zq_at zy_init_5_1.2.1 5 17 ∧ zq_at zy_init_5_1.2.1 6 0 ∧ zq_at zy_init_5_1.2.1 7 128 ∧ zq_at zy_init_5_1.2.1 8 188 ∧ zq_at zy_init_5_1.2.1 9 5 ∧ zq_at zy_init_5_1.2.1 10 181 ∧ zq_at zy_init_5_1.2.1 11 0 ∧ zq_at zy_init_5_1.2.1 12 11 ∧ zq_at zy_init_5_1.2.1 13 42 ∧ zq_at zy_init_5_1.2.1 14 3 ∧ zq_at zy_init_5_1.2.1 15 181 ∧ zq_at zy_init_5_1.2.1 16 0 ∧ zq_at zy_init_5_1.2.1 17 15 ∧ zq_at zy_init_5_1.2.1 18 177 := by decide +kernel
theorem zd_5_1_0 : zz_D zy_init_5_1 0 (.aload_n 0) 1 1 := ⟨zq_42 zg_5_1_0.1, rfl⟩
theorem zd_5_1_1 : zz_D zy_init_5_1 1 (.invokespecial 3) 3 4 := ⟨zq_183 zg_5_1_0.2.1 zg_5_1_0.2.2.1 zg_5_1_0.2.2.2.1 rfl, rfl⟩
theorem zd_5_1_4 : zz_D zy_init_5_1 4 (.aload_n 0) 1 5 := ⟨zq_42 zg_5_1_0.2.2.2.2.1, rfl⟩
theorem zd_5_1_5 : zz_D zy_init_5_1 5 (.sipush 128) 3 8 := ⟨zq_17 zg_5_1_0.2.2.2.2.2.1 zg_5_1_0.2.2.2.2.2.2.1 zg_5_1_0.2.2.2.2.2.2.2.1 (by decide), rfl⟩
theorem zd_5_1_8 : zz_D zy_init_5_1 8 (.newarray .char) 2 10 := ⟨zq_188_5 zg_5_1_0.2.2.2.2.2.2.2.2.1 zg_5_1_0.2.2.2.2.2.2.2.2.2.1, rfl⟩
theorem zd_5_1_10 : zz_D zy_init_5_1 10 (.putfield 11) 3 13 := ⟨zq_181 zg_5_1_0.2.2.2.2.2.2.2.2.2.2.1 zg_5_1_0.2.2.2.2.2.2.2.2.2.2.2.1 zg_5_1_0.2.2.2.2.2.2.2.2.2.2.2.2.1 rfl, rfl⟩
theorem zd_5_1_13 : zz_D zy_init_5_1 13 (.aload_n 0) 1 14 := ⟨zq_42 zg_5_1_0.2.2.2.2.2.2.2.2.2.2.2.2.2.1, rfl⟩
theorem zd_5_1_14 : zz_D zy_init_5_1 14 (.iconst 0) 1 15 := ⟨zq_3 zg_5_1_0.2.2.2.2.2.2.2.2.2.2.2.2.2.2.1, rfl⟩
theorem zd_5_1_15 : zz_D zy_init_5_1 15 (.putfield 15) 3 18 := ⟨zq_181 zg_5_1_0.2.2.2.2.2.2.2.2.2.2.2.2.2.2.2.1 zg_5_1_0.2.2.2.2.2.2.2.2.2.2.2.2.2.2.2.2.1 zg_5_1_0.2.2.2.2.2.2.2.2.2.2.2.2.2.2.2.2.2.1 rfl, rfl⟩
theorem zd_5_1_18 : zz_D zy_init_5_1 18 (.return_) 1 19 := ⟨zq_177 zg_5_1_0.2.2.2.2.2.2.2.2.2.2.2.2.2.2.2.2.2.2, rfl⟩
-- TensorForge$Line <init> ()V at 1077, 1078
abbrev zr_init_5_1_c1077_1078 : Room := { frames := 1, cells := 1, slots := 128, locals := 12 }
def zp_init_5_1_c1077_1078 (S0 : zz_S) : zz_S → Prop := fun S => zz_Gm [1078, 1077] [] S ∧ zz_fr [] [1077, 1078] (fun _ _ => False) S0 S
theorem zc_init_5_1_c1077_1078 {g : mm_G} {l : Launch} (S0 : zz_S) (G_S0 : zz_Gm [1077] [(1077, 0)] S0) : mm_Met g l zy_init_5_1 zr_init_5_1_c1077_1078 [.ref 1077] (zz_M S0 1078) 1078 (zz_QV 1079 (zp_init_5_1_c1077_1078 S0)) := by
  refine zz_enter (by decide) (Nat.le_of_ble_eq_true rfl) (zz_less (ls1 := [some (.ref 1077)]) ⟨rfl, trivial⟩ ?_)
  have F_S0 : zz_fr [] [1077, 1078] (fun _ _ => False) S0 S0 := zz_fr.refl
  refine zz_aload_n (x := 1077) rfl zd_5_1_0 ?_
  refine zz_objI zd_5_1_1 zoi_Line_3 zoi.1 zoi.2 (Nat.le_of_ble_eq_true rfl) (Nat.le_of_ble_eq_true rfl) ?_
  refine zz_aload_n (x := 1077) rfl zd_5_1_4 ?_
  refine zz_sipush (by decide) zd_5_1_5 ?_
  refine zz_newa (z := 128) (fun _ => 0) zd_5_1_8 zT_1078 rfl (mm_tb_1 313 (by decide +kernel) rfl) rfl (by decide) (by decide) (fun _ => rfl) (fun _ => rfl) (fun _ h => by cases h) (Nat.le_of_ble_eq_true rfl) (Nat.le_of_ble_eq_true rfl) (fun S2 qS2 => ?_)
  have G_S2 := zz_Gm.nwa [(1077, 0)] G_S0 qS2 (by decide +kernel) (fun i _ => ⟨(by decide : (0 : Int) ≤ 0), (by decide : (0 : Int) ≤ 65535)⟩)
  have F_S2 := zz_fr.nw F_S0 qS2 (by decide +kernel)
  refine zz_setn (n1 := 1079) (k1 := 1) (j1 := 128) rfl rfl rfl ?_
  refine zz_putrF (kd := 0) 1078 zd_5_1_10 zf_Line_11 zT_1077 rfl (by decide) (by decide) rfl (fun _ => rfl) (fun _ => rfl) rfl (fun q h => by cases h; rfl) (fun S3 qS3 => ?_)
  have G_S3 := zz_Gm.put [] G_S2 qS3 1078 1078 rfl (by decide) (by decide +kernel)
  have F_S3 := zz_fr.putc F_S2 qS3 (by decide +kernel)
  refine zz_aload_n (x := 1077) rfl zd_5_1_13 ?_
  refine zz_iconst zd_5_1_14 ?_
  refine zz_puti zd_5_1_15 zf_Line_15 zT_1077 rfl (by decide) (fun S4 qS4 => ?_)
  have G_S4 := zz_Gm.put [] G_S3 qS4 0 128 rfl (by decide) (by decide +kernel)
  have F_S4 := zz_fr.putc F_S3 qS4 (by decide +kernel)
  exact zz_vret zd_5_1_18 rfl (Nat.le_of_ble_eq_true rfl) (Nat.le_of_ble_eq_true rfl) ⟨_, rfl, G_S4, F_S4⟩
theorem zf_TF_83 : mm_Fl "TensorForge" 83 0 6 (.object "TensorForge$Line") true := ⟨R_TF, F_TF, 12, t_TF, rfl, i_TF, by decide, mm_tb_1 446 (by decide +kernel) rfl, rfl, t_TF_ok, n_TF, rfl, by decide +kernel⟩
theorem zg_1_1_143 : zq_at zy_init_1_1.2.1 143 181 ∧ zq_at zy_init_1_1.2.1 144 0 ∧ zq_at zy_init_1_1.2.1 145 83 ∧ zq_at zy_init_1_1.2.1 146 177 := by decide +kernel
theorem zd_1_1_143 : zz_D zy_init_1_1 143 (.putfield 83) 3 146 := ⟨zq_181 zg_1_1_143.1 zg_1_1_143.2.1 zg_1_1_143.2.2.1 rfl, rfl⟩
theorem zd_1_1_146 : zz_D zy_init_1_1 146 (.return_) 1 147 := ⟨zq_177 zg_1_1_143.2.2.2, rfl⟩
-- TensorForge <init> ()V at 1000, 1001
abbrev zr_init_1_1_c1000_1001 : Room := { frames := 4, cells := 78, slots := 10872, locals := 60 }
def zp_init_1_1_c1000_1001 (S0 : zz_S) : zz_S → Prop := fun S => zz_Gm [1078, 1077, 1076, 1075, 1074, 1073, 1072, 1070, 1071, 1070, 1069, 1068, 1067, 1066, 1065, 1064, 1063, 1062, 1061, 1060, 1059, 1058, 1057, 1056, 1055, 1054, 1053, 1052, 1051, 1050, 1049, 1048, 1047, 1046, 1045, 1044, 1043, 1042, 1041, 1040, 1039, 1038, 1037, 1036, 1035, 1034, 1033, 1032, 1031, 1030, 1029, 1028, 1028, 1028, 1027, 1027, 1027, 1026, 1026, 1026, 1025, 1025, 1025, 1024, 1024, 1024, 1023, 1023, 1023, 1022, 1022, 1022, 1021, 1021, 1021, 1020, 1020, 1020, 1019, 1019, 1019, 1018, 1018, 1018, 1017, 1017, 1017, 1016, 1015, 1014, 1014, 1014, 1013, 1013, 1013, 1012, 1012, 1012, 1011, 1011, 1011, 1010, 1010, 1010, 1009, 1009, 1009, 1008, 1008, 1008, 1007, 1007, 1007, 1006, 1006, 1006, 1005, 1005, 1005, 1004, 1004, 1004, 1003, 1003, 1003, 1002, 1001, 1000] [] S ∧ zz_fr [(1003, 0), (1003, 1), (1003, 2), (1003, 3), (1003, 4), (1003, 5), (1003, 6), (1003, 7), (1003, 8), (1003, 9), (1003, 10), (1003, 11), (1003, 12), (1003, 13), (1003, 14), (1004, 0), (1004, 1), (1004, 2), (1004, 3), (1004, 4), (1004, 5), (1004, 6), (1004, 7), (1004, 8), (1004, 9), (1004, 10), (1004, 11), (1004, 12), (1004, 13), (1004, 14), (1005, 0), (1005, 1), (1005, 2), (1005, 3), (1005, 4), (1005, 5), (1005, 6), (1005, 7), (1005, 8), (1005, 9), (1005, 10), (1005, 11), (1005, 12), (1005, 13), (1005, 14), (1006, 0), (1006, 1), (1006, 2), (1006, 3), (1006, 4), (1006, 5), (1006, 6), (1006, 7), (1006, 8), (1006, 9), (1006, 10), (1006, 11), (1006, 12), (1006, 13), (1006, 14), (1007, 0), (1007, 1), (1007, 2), (1007, 3), (1007, 4), (1007, 5), (1007, 6), (1007, 7), (1007, 8), (1007, 9), (1007, 10), (1007, 11), (1007, 12), (1007, 13), (1007, 14), (1008, 0), (1008, 1), (1008, 2), (1008, 3), (1008, 4), (1008, 5), (1008, 6), (1008, 7), (1008, 8), (1008, 9), (1008, 10), (1008, 11), (1008, 12), (1008, 13), (1008, 14), (1009, 0), (1009, 1), (1009, 2), (1009, 3), (1009, 4), (1009, 5), (1009, 6), (1009, 7), (1009, 8), (1009, 9), (1009, 10), (1009, 11), (1009, 12), (1009, 13), (1009, 14), (1010, 0), (1010, 1), (1010, 2), (1010, 3), (1010, 4), (1010, 5), (1010, 6), (1010, 7), (1010, 8), (1010, 9), (1010, 10), (1010, 11), (1010, 12), (1010, 13), (1010, 14), (1011, 0), (1011, 1), (1011, 2), (1011, 3), (1011, 4), (1011, 5), (1011, 6), (1011, 7), (1011, 8), (1011, 9), (1011, 10), (1011, 11), (1011, 12), (1011, 13), (1011, 14), (1012, 0), (1012, 1), (1012, 2), (1012, 3), (1012, 4), (1012, 5), (1012, 6), (1012, 7), (1012, 8), (1012, 9), (1012, 10), (1012, 11), (1012, 12), (1012, 13), (1012, 14), (1013, 0), (1013, 1), (1013, 2), (1013, 3), (1013, 4), (1013, 5), (1013, 6), (1013, 7), (1013, 8), (1013, 9), (1013, 10), (1013, 11), (1013, 12), (1013, 13), (1013, 14), (1014, 0), (1014, 1), (1014, 2), (1014, 3), (1014, 4), (1014, 5), (1014, 6), (1014, 7), (1014, 8), (1014, 9), (1014, 10), (1014, 11), (1014, 12), (1014, 13), (1014, 14), (1017, 0), (1017, 1), (1017, 2), (1017, 3), (1017, 4), (1017, 5), (1017, 6), (1017, 7), (1017, 8), (1017, 9), (1017, 10), (1017, 11), (1017, 12), (1017, 13), (1017, 14), (1018, 0), (1018, 1), (1018, 2), (1018, 3), (1018, 4), (1018, 5), (1018, 6), (1018, 7), (1018, 8), (1018, 9), (1018, 10), (1018, 11), (1018, 12), (1018, 13), (1018, 14), (1019, 0), (1019, 1), (1019, 2), (1019, 3), (1019, 4), (1019, 5), (1019, 6), (1019, 7), (1019, 8), (1019, 9), (1019, 10), (1019, 11), (1019, 12), (1019, 13), (1019, 14), (1020, 0), (1020, 1), (1020, 2), (1020, 3), (1020, 4), (1020, 5), (1020, 6), (1020, 7), (1020, 8), (1020, 9), (1020, 10), (1020, 11), (1020, 12), (1020, 13), (1020, 14), (1021, 0), (1021, 1), (1021, 2), (1021, 3), (1021, 4), (1021, 5), (1021, 6), (1021, 7), (1021, 8), (1021, 9), (1021, 10), (1021, 11), (1021, 12), (1021, 13), (1021, 14), (1022, 0), (1022, 1), (1022, 2), (1022, 3), (1022, 4), (1022, 5), (1022, 6), (1022, 7), (1022, 8), (1022, 9), (1022, 10), (1022, 11), (1022, 12), (1022, 13), (1022, 14), (1023, 0), (1023, 1), (1023, 2), (1023, 3), (1023, 4), (1023, 5), (1023, 6), (1023, 7), (1023, 8), (1023, 9), (1023, 10), (1023, 11), (1023, 12), (1023, 13), (1023, 14), (1024, 0), (1024, 1), (1024, 2), (1024, 3), (1024, 4), (1024, 5), (1024, 6), (1024, 7), (1024, 8), (1024, 9), (1024, 10), (1024, 11), (1024, 12), (1024, 13), (1024, 14), (1025, 0), (1025, 1), (1025, 2), (1025, 3), (1025, 4), (1025, 5), (1025, 6), (1025, 7), (1025, 8), (1025, 9), (1025, 10), (1025, 11), (1025, 12), (1025, 13), (1025, 14), (1026, 0), (1026, 1), (1026, 2), (1026, 3), (1026, 4), (1026, 5), (1026, 6), (1026, 7), (1026, 8), (1026, 9), (1026, 10), (1026, 11), (1026, 12), (1026, 13), (1026, 14), (1027, 0), (1027, 1), (1027, 2), (1027, 3), (1027, 4), (1027, 5), (1027, 6), (1027, 7), (1027, 8), (1027, 9), (1027, 10), (1027, 11), (1027, 12), (1027, 13), (1027, 14), (1028, 0), (1028, 1), (1028, 2), (1028, 3), (1028, 4), (1028, 5), (1028, 6), (1028, 7), (1028, 8), (1028, 9), (1028, 10), (1028, 11), (1028, 12), (1028, 13), (1028, 14), (1070, 2), (1070, 3), (1070, 4), (1070, 5), (1070, 6)] [1000, 1001, 1002, 1003, 1004, 1005, 1006, 1007, 1008, 1009, 1010, 1011, 1012, 1013, 1014, 1015, 1016, 1017, 1018, 1019, 1020, 1021, 1022, 1023, 1024, 1025, 1026, 1027, 1028, 1029, 1030, 1031, 1032, 1033, 1034, 1035, 1036, 1037, 1038, 1039, 1040, 1041, 1042, 1043, 1044, 1045, 1046, 1047, 1048, 1049, 1050, 1051, 1052, 1053, 1054, 1055, 1056, 1057, 1058, 1059, 1060, 1061, 1062, 1063, 1064, 1065, 1066, 1067, 1068, 1069, 1070, 1071, 1072, 1073, 1074, 1075, 1076, 1077, 1078] (fun _ _ => False) S0 S ∧ (S 1001 1 = 1 ∧ S 1003 0 = 0 ∧ S 1003 3 = 1 ∧ S 1003 4 = 1 ∧ S 1003 12 = 1) ∧ (S 1015 1 = 1 ∧ S 1017 0 = 0 ∧ S 1017 3 = 1 ∧ S 1017 4 = 1 ∧ S 1017 12 = 1) ∧ (S 1031 6 = 2) ∧ (S 1070 1 = 0) ∧ (S 1003 0 = 0 ∧ S 1003 1 = 0 ∧ S 1003 2 = 0 ∧ S 1003 3 = 1 ∧ S 1003 4 = 1 ∧ S 1003 5 = 1 ∧ S 1003 6 = 0 ∧ S 1003 7 = 0 ∧ S 1003 8 = 0 ∧ S 1003 9 = 0 ∧ S 1003 10 = 1 ∧ S 1003 11 = 1 ∧ S 1003 12 = 1 ∧ S 1003 13 = 0) ∧ (S 1000 7 = 0 ∧ S 1000 8 = 1)
theorem zc_init_1_1_c1000_1001 {g : mm_G} {l : Launch} (S0 : zz_S) (G_S0 : zz_Gm [1000] zX_12 S0) : mm_Met g l zy_init_1_1 zr_init_1_1_c1000_1001 [.ref 1000] (zz_M S0 1001) 1001 (zz_QV 1079 (zp_init_1_1_c1000_1001 S0)) := by
  refine zz_enter (by decide) (Nat.le_of_ble_eq_true rfl) (zz_less (ls1 := [some (.ref 1000)]) ⟨rfl, trivial⟩ ?_)
  have F_S0 : zz_fr [(1003, 0), (1003, 1), (1003, 2), (1003, 3), (1003, 4), (1003, 5), (1003, 6), (1003, 7), (1003, 8), (1003, 9), (1003, 10), (1003, 11), (1003, 12), (1003, 13), (1003, 14), (1004, 0), (1004, 1), (1004, 2), (1004, 3), (1004, 4), (1004, 5), (1004, 6), (1004, 7), (1004, 8), (1004, 9), (1004, 10), (1004, 11), (1004, 12), (1004, 13), (1004, 14), (1005, 0), (1005, 1), (1005, 2), (1005, 3), (1005, 4), (1005, 5), (1005, 6), (1005, 7), (1005, 8), (1005, 9), (1005, 10), (1005, 11), (1005, 12), (1005, 13), (1005, 14), (1006, 0), (1006, 1), (1006, 2), (1006, 3), (1006, 4), (1006, 5), (1006, 6), (1006, 7), (1006, 8), (1006, 9), (1006, 10), (1006, 11), (1006, 12), (1006, 13), (1006, 14), (1007, 0), (1007, 1), (1007, 2), (1007, 3), (1007, 4), (1007, 5), (1007, 6), (1007, 7), (1007, 8), (1007, 9), (1007, 10), (1007, 11), (1007, 12), (1007, 13), (1007, 14), (1008, 0), (1008, 1), (1008, 2), (1008, 3), (1008, 4), (1008, 5), (1008, 6), (1008, 7), (1008, 8), (1008, 9), (1008, 10), (1008, 11), (1008, 12), (1008, 13), (1008, 14), (1009, 0), (1009, 1), (1009, 2), (1009, 3), (1009, 4), (1009, 5), (1009, 6), (1009, 7), (1009, 8), (1009, 9), (1009, 10), (1009, 11), (1009, 12), (1009, 13), (1009, 14), (1010, 0), (1010, 1), (1010, 2), (1010, 3), (1010, 4), (1010, 5), (1010, 6), (1010, 7), (1010, 8), (1010, 9), (1010, 10), (1010, 11), (1010, 12), (1010, 13), (1010, 14), (1011, 0), (1011, 1), (1011, 2), (1011, 3), (1011, 4), (1011, 5), (1011, 6), (1011, 7), (1011, 8), (1011, 9), (1011, 10), (1011, 11), (1011, 12), (1011, 13), (1011, 14), (1012, 0), (1012, 1), (1012, 2), (1012, 3), (1012, 4), (1012, 5), (1012, 6), (1012, 7), (1012, 8), (1012, 9), (1012, 10), (1012, 11), (1012, 12), (1012, 13), (1012, 14), (1013, 0), (1013, 1), (1013, 2), (1013, 3), (1013, 4), (1013, 5), (1013, 6), (1013, 7), (1013, 8), (1013, 9), (1013, 10), (1013, 11), (1013, 12), (1013, 13), (1013, 14), (1014, 0), (1014, 1), (1014, 2), (1014, 3), (1014, 4), (1014, 5), (1014, 6), (1014, 7), (1014, 8), (1014, 9), (1014, 10), (1014, 11), (1014, 12), (1014, 13), (1014, 14), (1017, 0), (1017, 1), (1017, 2), (1017, 3), (1017, 4), (1017, 5), (1017, 6), (1017, 7), (1017, 8), (1017, 9), (1017, 10), (1017, 11), (1017, 12), (1017, 13), (1017, 14), (1018, 0), (1018, 1), (1018, 2), (1018, 3), (1018, 4), (1018, 5), (1018, 6), (1018, 7), (1018, 8), (1018, 9), (1018, 10), (1018, 11), (1018, 12), (1018, 13), (1018, 14), (1019, 0), (1019, 1), (1019, 2), (1019, 3), (1019, 4), (1019, 5), (1019, 6), (1019, 7), (1019, 8), (1019, 9), (1019, 10), (1019, 11), (1019, 12), (1019, 13), (1019, 14), (1020, 0), (1020, 1), (1020, 2), (1020, 3), (1020, 4), (1020, 5), (1020, 6), (1020, 7), (1020, 8), (1020, 9), (1020, 10), (1020, 11), (1020, 12), (1020, 13), (1020, 14), (1021, 0), (1021, 1), (1021, 2), (1021, 3), (1021, 4), (1021, 5), (1021, 6), (1021, 7), (1021, 8), (1021, 9), (1021, 10), (1021, 11), (1021, 12), (1021, 13), (1021, 14), (1022, 0), (1022, 1), (1022, 2), (1022, 3), (1022, 4), (1022, 5), (1022, 6), (1022, 7), (1022, 8), (1022, 9), (1022, 10), (1022, 11), (1022, 12), (1022, 13), (1022, 14), (1023, 0), (1023, 1), (1023, 2), (1023, 3), (1023, 4), (1023, 5), (1023, 6), (1023, 7), (1023, 8), (1023, 9), (1023, 10), (1023, 11), (1023, 12), (1023, 13), (1023, 14), (1024, 0), (1024, 1), (1024, 2), (1024, 3), (1024, 4), (1024, 5), (1024, 6), (1024, 7), (1024, 8), (1024, 9), (1024, 10), (1024, 11), (1024, 12), (1024, 13), (1024, 14), (1025, 0), (1025, 1), (1025, 2), (1025, 3), (1025, 4), (1025, 5), (1025, 6), (1025, 7), (1025, 8), (1025, 9), (1025, 10), (1025, 11), (1025, 12), (1025, 13), (1025, 14), (1026, 0), (1026, 1), (1026, 2), (1026, 3), (1026, 4), (1026, 5), (1026, 6), (1026, 7), (1026, 8), (1026, 9), (1026, 10), (1026, 11), (1026, 12), (1026, 13), (1026, 14), (1027, 0), (1027, 1), (1027, 2), (1027, 3), (1027, 4), (1027, 5), (1027, 6), (1027, 7), (1027, 8), (1027, 9), (1027, 10), (1027, 11), (1027, 12), (1027, 13), (1027, 14), (1028, 0), (1028, 1), (1028, 2), (1028, 3), (1028, 4), (1028, 5), (1028, 6), (1028, 7), (1028, 8), (1028, 9), (1028, 10), (1028, 11), (1028, 12), (1028, 13), (1028, 14), (1070, 2), (1070, 3), (1070, 4), (1070, 5), (1070, 6)] [1000, 1001, 1002, 1003, 1004, 1005, 1006, 1007, 1008, 1009, 1010, 1011, 1012, 1013, 1014, 1015, 1016, 1017, 1018, 1019, 1020, 1021, 1022, 1023, 1024, 1025, 1026, 1027, 1028, 1029, 1030, 1031, 1032, 1033, 1034, 1035, 1036, 1037, 1038, 1039, 1040, 1041, 1042, 1043, 1044, 1045, 1046, 1047, 1048, 1049, 1050, 1051, 1052, 1053, 1054, 1055, 1056, 1057, 1058, 1059, 1060, 1061, 1062, 1063, 1064, 1065, 1066, 1067, 1068, 1069, 1070, 1071, 1072, 1073, 1074, 1075, 1076, 1077, 1078] (fun _ _ => False) S0 S0 := zz_fr.refl
  refine zz_aload_n (x := 1000) rfl zd_1_1_0 ?_
  refine zz_objI zd_1_1_1 zoi_TF_1 zoi.1 zoi.2 (Nat.le_of_ble_eq_true rfl) (Nat.le_of_ble_eq_true rfl) ?_
  refine zz_aload_n (x := 1000) rfl zd_1_1_4 ?_
  refine zz_new (zz_ov [(-1), 0]) zd_1_1_5 zn_TF_7 zT_1001 rfl (Nat.le_of_ble_eq_true rfl) (Nat.le_of_ble_eq_true rfl) (fun S2 qS2 => ?_)
  have G_S2 := zz_Gm.nwo G_S0 qS2 (by decide +kernel)
  have F_S2 := zz_fr.nw F_S0 qS2 (by decide +kernel)
  refine zz_setn (n1 := 1002) (k1 := 1) (j1 := 2) rfl rfl rfl ?_
  refine zz_dup rfl zd_1_1_8 ?_
  refine zz_callN (n1 := 1015) [] zd_1_1_9 zk_TF_9 rfl rfl ⟨Nat.le_of_ble_eq_true rfl, Nat.le_of_ble_eq_true rfl⟩ (Nat.le_of_ble_eq_true rfl) (Nat.le_of_ble_eq_true rfl) (zc_init_7_1_c1001_1002 S2 (zz_Gm.own qS2 (zz_ovG (rs := [(1002, 1002), (1, 11)]) (fun _ => rfl) rfl (by decide +kernel)))) (fun S3 hP => ?_)
  obtain ⟨gS3, fS3, o4, o5⟩ := hP
  have F_S3 := zz_fr.trans F_S2 fS3 (by decide +kernel) zz_nv
  have G_S3 := zz_Gm.call zX_12 G_S2 fS3 gS3 (by decide +kernel) (by decide +kernel) (by decide +kernel) (by decide +kernel)
  refine zz_setn (n1 := 1015) (k1 := 14) (j1 := 194) rfl rfl rfl ?_
  refine zz_putr (kd := 1) 0 zd_1_1_12 zf_TF_10 zT_1000 rfl (by decide) (by decide) rfl (fun _ => rfl) (fun _ => rfl) (fun S6 qS6 => ?_)
  have G_S6 := zz_Gm.put zX_13 G_S3 qS6 0 1 rfl (by decide) (by decide +kernel)
  have F_S6 := zz_fr.putc F_S3 qS6 (by decide +kernel)
  refine zz_aload_n (x := 1000) rfl zd_1_1_15 ?_
  refine zz_new (zz_ov [(-1), 0]) zd_1_1_16 zn_TF_7 zT_1015 rfl (Nat.le_of_ble_eq_true rfl) (Nat.le_of_ble_eq_true rfl) (fun S7 qS7 => ?_)
  have G_S7 := zz_Gm.nwo G_S6 qS7 (by decide +kernel)
  have F_S7 := zz_fr.nw F_S6 qS7 (by decide +kernel)
  refine zz_setn (n1 := 1016) (k1 := 15) (j1 := 196) rfl rfl rfl ?_
  refine zz_dup rfl zd_1_1_19 ?_
  refine zz_callN (n1 := 1029) [] zd_1_1_20 zk_TF_9 rfl rfl ⟨Nat.le_of_ble_eq_true rfl, Nat.le_of_ble_eq_true rfl⟩ (Nat.le_of_ble_eq_true rfl) (Nat.le_of_ble_eq_true rfl) (zc_init_7_1_c1015_1016 S7 (zz_Gm.own qS7 (zz_ovG (rs := [(1016, 1016), (1, 11)]) (fun _ => rfl) rfl (by decide +kernel)))) (fun S8 hP => ?_)
  obtain ⟨gS8, fS8, o9⟩ := hP
  have F_S8 := zz_fr.trans F_S7 fS8 (by decide +kernel) zz_nv
  have G_S8 := zz_Gm.call zX_13 G_S7 fS8 gS8 (by decide +kernel) (by decide +kernel) (by decide +kernel) (by decide +kernel)
  refine zz_setn (n1 := 1029) (k1 := 28) (j1 := 388) rfl rfl rfl ?_
  refine zz_putr (kd := 1) 1 zd_1_1_23 zf_TF_16 zT_1000 rfl (by decide) (by decide) rfl (fun _ => rfl) (fun _ => rfl) (fun S10 qS10 => ?_)
  have G_S10 := zz_Gm.put zX_26 G_S8 qS10 0 1 rfl (by decide) (by decide +kernel)
  have F_S10 := zz_fr.putc F_S8 qS10 (by decide +kernel)
  refine zz_aload_n (x := 1000) rfl zd_1_1_26 ?_
  refine zz_sipush (by decide) zd_1_1_27 ?_
  refine zz_newa (z := 600) (fun _ => 0) zd_1_1_30 zT_1029 rfl (mm_tb_1 181 (by decide +kernel) rfl) rfl (by decide) (by decide) (fun _ => rfl) (fun _ => rfl) (fun _ h => by cases h) (Nat.le_of_ble_eq_true rfl) (Nat.le_of_ble_eq_true rfl) (fun S11 qS11 => ?_)
  have G_S11 := zz_Gm.nwa zX_26 G_S10 qS11 (by decide +kernel) (fun i _ => ⟨(by decide : ((-9223372036854775808) : Int) ≤ 0), (by decide : (0 : Int) ≤ 9223372036854775807)⟩)
  have F_S11 := zz_fr.nw F_S10 qS11 (by decide +kernel)
  refine zz_setn (n1 := 1030) (k1 := 29) (j1 := 988) rfl rfl rfl ?_
  refine zz_putr (kd := 2) 0 zd_1_1_32 zf_TF_19 zT_1000 rfl (by decide) (by decide) rfl (fun _ => rfl) (fun _ => rfl) (fun S12 qS12 => ?_)
  have G_S12 := zz_Gm.put zX_27 G_S11 qS12 0 1 rfl (by decide) (by decide +kernel)
  have F_S12 := zz_fr.putc F_S11 qS12 (by decide +kernel)
  refine zz_aload_n (x := 1000) rfl zd_1_1_35 ?_
  refine zz_sipush (by decide) zd_1_1_36 ?_
  refine zz_newa (z := 600) (fun _ => 0) zd_1_1_39 zT_1030 rfl (mm_tb_1 181 (by decide +kernel) rfl) rfl (by decide) (by decide) (fun _ => rfl) (fun _ => rfl) (fun _ h => by cases h) (Nat.le_of_ble_eq_true rfl) (Nat.le_of_ble_eq_true rfl) (fun S13 qS13 => ?_)
  have G_S13 := zz_Gm.nwa zX_27 G_S12 qS13 (by decide +kernel) (fun i _ => ⟨(by decide : ((-9223372036854775808) : Int) ≤ 0), (by decide : (0 : Int) ≤ 9223372036854775807)⟩)
  have F_S13 := zz_fr.nw F_S12 qS13 (by decide +kernel)
  refine zz_setn (n1 := 1031) (k1 := 30) (j1 := 1588) rfl rfl rfl ?_
  refine zz_putr (kd := 2) 1 zd_1_1_41 zf_TF_23 zT_1000 rfl (by decide) (by decide) rfl (fun _ => rfl) (fun _ => rfl) (fun S14 qS14 => ?_)
  have G_S14 := zz_Gm.put zX_28 G_S13 qS14 0 1 rfl (by decide) (by decide +kernel)
  have F_S14 := zz_fr.putc F_S13 qS14 (by decide +kernel)
  refine zz_aload_n (x := 1000) rfl zd_1_1_44 ?_
  refine zz_iconst zd_1_1_45 ?_
  refine zz_puti zd_1_1_46 zf_TF_26 zT_1000 rfl (by decide) (fun S15 qS15 => ?_)
  have G_S15 := zz_Gm.put zX_28 G_S14 qS15 0 600 rfl (by decide) (by decide +kernel)
  have F_S15 := zz_fr.putc F_S14 qS15 (by decide +kernel)
  refine zz_aload_n (x := 1000) rfl zd_1_1_49 ?_
  refine zz_new (zz_ov [(-1), (-1), (-1), (-1), (-1), (-1), 0, 0, 0, 0, 0, 0, 0, 0]) zd_1_1_50 zn_TF_30 zT_1031 rfl (Nat.le_of_ble_eq_true rfl) (Nat.le_of_ble_eq_true rfl) (fun S16 qS16 => ?_)
  have G_S16 := zz_Gm.nwo G_S15 qS16 (by decide +kernel)
  have F_S16 := zz_fr.nw F_S15 qS16 (by decide +kernel)
  refine zz_setn (n1 := 1032) (k1 := 31) (j1 := 1602) rfl rfl rfl ?_
  refine zz_dup rfl zd_1_1_53 ?_
  refine zz_callN (n1 := 1042) [] zd_1_1_54 zk_TF_32 rfl rfl ⟨Nat.le_of_ble_eq_true rfl, Nat.le_of_ble_eq_true rfl⟩ (Nat.le_of_ble_eq_true rfl) (Nat.le_of_ble_eq_true rfl) (zc_init_6_1_c1031_1032 S16 (zz_Gm.own qS16 (zz_ovG (rs := [(1032, 1032), (1033, 1033), (1034, 1034), (1035, 1035), (1036, 1036), (4, 4), (2, 8), (0, 4095), (0, 63), (0, 31), (0, 511), (0, 511), (0, 1023), (0, 31)]) (fun _ => rfl) rfl (by decide +kernel)))) (fun S17 hP => ?_)
  obtain ⟨gS17, fS17, o18⟩ := hP
  have F_S17 := zz_fr.trans F_S16 fS17 (by decide +kernel) zz_nv
  have G_S17 := zz_Gm.call zX_28 G_S16 fS17 gS17 (by decide +kernel) (by decide +kernel) (by decide +kernel) (by decide +kernel)
  refine zz_setn (n1 := 1042) (k1 := 41) (j1 := 7258) rfl rfl rfl ?_
  refine zz_putrF (kd := 0) 1031 zd_1_1_57 zf_TF_33 zT_1000 rfl (by decide) (by decide) rfl (fun _ => rfl) (fun _ => rfl) rfl (fun q h => by cases h; rfl) (fun S19 qS19 => ?_)
  have G_S19 := zz_Gm.put zX_36 G_S17 qS19 1031 1031 rfl (by decide) (by decide +kernel)
  have F_S19 := zz_fr.putc F_S17 qS19 (by decide +kernel)
  refine zz_aload_n (x := 1000) rfl zd_1_1_60 ?_
  refine zz_new (zz_ov [(-1), (-1), (-1), (-1), (-1), (-1), (-1), (-1), (-1), 0]) zd_1_1_61 zn_TF_37 zT_1042 rfl (Nat.le_of_ble_eq_true rfl) (Nat.le_of_ble_eq_true rfl) (fun S20 qS20 => ?_)
  have G_S20 := zz_Gm.nwo G_S19 qS20 (by decide +kernel)
  have F_S20 := zz_fr.nw F_S19 qS20 (by decide +kernel)
  refine zz_setn (n1 := 1043) (k1 := 42) (j1 := 7268) rfl rfl rfl ?_
  refine zz_dup rfl zd_1_1_64 ?_
  refine zz_aload_n (x := 1000) rfl zd_1_1_65 ?_
  have g21 := G_S20 1000 0 (by decide +kernel) (by decide +kernel)
  refine zz_getr (kd := 0) (z := 1031) zd_1_1_66 zf_TF_33 zT_1000 rfl (by decide) (Int.le_antisymm g21.2 g21.1) (by decide) 1031 rfl ?_
  refine zz_callN (n1 := 1070) [.ref 1031] zd_1_1_69 zk_TF_39 rfl rfl ⟨Nat.le_of_ble_eq_true rfl, Nat.le_of_ble_eq_true rfl⟩ (Nat.le_of_ble_eq_true rfl) (Nat.le_of_ble_eq_true rfl) (zc_init_10_1_c1042_1043 S20 (zz_Gm.own qS20 (zz_ovG (rs := [(1031, 1031), (1043, 1043), (1044, 1044), (1045, 1045), (1046, 1046), (1047, 1047), (1048, 1048), (1049, 1049), (0, 3), (0, 600)]) (fun _ => rfl) rfl (by decide +kernel)))) (fun S22 hP => ?_)
  obtain ⟨gS22, fS22⟩ := hP
  have F_S22 := zz_fr.trans F_S20 fS22 (by decide +kernel) zz_nv
  have G_S22 := zz_Gm.call zX_36 G_S20 fS22 gS22 (by decide +kernel) (by decide +kernel) (by decide +kernel) (by decide +kernel)
  refine zz_setn (n1 := 1070) (k1 := 69) (j1 := 9183) rfl rfl rfl ?_
  refine zz_putrF (kd := 0) 1042 zd_1_1_72 zf_TF_42 zT_1000 rfl (by decide) (by decide) rfl (fun _ => rfl) (fun _ => rfl) rfl (fun q h => by cases h; rfl) (fun S23 qS23 => ?_)
  have G_S23 := zz_Gm.put zX_55 G_S22 qS23 1042 1042 rfl (by decide) (by decide +kernel)
  have F_S23 := zz_fr.putc F_S22 qS23 (by decide +kernel)
  refine zz_aload_n (x := 1000) rfl zd_1_1_75 ?_
  refine zz_new (zz_ov [(-1), 0, 0, 0, 0, 0, 0]) zd_1_1_76 zn_TF_46 zT_1070 rfl (Nat.le_of_ble_eq_true rfl) (Nat.le_of_ble_eq_true rfl) (fun S24 qS24 => ?_)
  have G_S24 := zz_Gm.nwo G_S23 qS24 (by decide +kernel)
  have F_S24 := zz_fr.nw F_S23 qS24 (by decide +kernel)
  refine zz_setn (n1 := 1071) (k1 := 70) (j1 := 9190) rfl rfl rfl ?_
  refine zz_dup rfl zd_1_1_79 ?_
  refine zz_callN (n1 := 1072) [] zd_1_1_80 zk_TF_48 rfl rfl ⟨Nat.le_of_ble_eq_true rfl, Nat.le_of_ble_eq_true rfl⟩ (Nat.le_of_ble_eq_true rfl) (Nat.le_of_ble_eq_true rfl) (zc_init_11_1_c1070_1071 S24 (zz_Gm.own qS24 (zz_ovG (rs := [(1071, 1071), (0, 1500), ((-1), 1500), (0, 1500), ((-2147483648), 2147483647), (0, 1500), ((-2147483648), 2147483647)]) (fun _ => rfl) rfl (by decide +kernel)))) (fun S25 hP => ?_)
  obtain ⟨gS25, fS25, o26⟩ := hP
  have F_S25 := zz_fr.trans F_S24 fS25 (by decide +kernel) zz_nv
  have G_S25 := zz_Gm.call zX_55 G_S24 fS25 gS25 (by decide +kernel) (by decide +kernel) (by decide +kernel) (by decide +kernel)
  refine zz_setn (n1 := 1072) (k1 := 71) (j1 := 10690) rfl rfl rfl ?_
  refine zz_putrF (kd := 0) 1070 zd_1_1_83 zf_TF_49 zT_1000 rfl (by decide) (by decide) rfl (fun _ => rfl) (fun _ => rfl) rfl (fun q h => by cases h; rfl) (fun S27 qS27 => ?_)
  have G_S27 := zz_Gm.put zX_56 G_S25 qS27 1070 1070 rfl (by decide) (by decide +kernel)
  have F_S27 := zz_fr.putc F_S25 qS27 (by decide +kernel)
  refine zz_aload_n (x := 1000) rfl zd_1_1_86 ?_
  refine zz_new (zz_ov [(-1), 0, 0, 0]) zd_1_1_87 zn_TF_53 zT_1072 rfl (Nat.le_of_ble_eq_true rfl) (Nat.le_of_ble_eq_true rfl) (fun S28 qS28 => ?_)
  have G_S28 := zz_Gm.nwo G_S27 qS28 (by decide +kernel)
  have F_S28 := zz_fr.nw F_S27 qS28 (by decide +kernel)
  refine zz_setn (n1 := 1073) (k1 := 72) (j1 := 10694) rfl rfl rfl ?_
  refine zz_dup rfl zd_1_1_90 ?_
  refine zz_aload_n (x := 1000) rfl zd_1_1_91 ?_
  have g29 := G_S28 1000 2 (by decide +kernel) (by decide +kernel)
  refine zz_getr (kd := 0) (z := 1070) zd_1_1_92 zf_TF_49 zT_1000 rfl (by decide) (Int.le_antisymm g29.2 g29.1) (by decide) 1070 rfl ?_
  refine zz_callN (n1 := 1073) [.ref 1070] zd_1_1_95 zk_TF_55 rfl rfl ⟨Nat.le_of_ble_eq_true rfl, Nat.le_of_ble_eq_true rfl⟩ (Nat.le_of_ble_eq_true rfl) (Nat.le_of_ble_eq_true rfl) (zc_init_2_1_c1072_1073 S28 (zz_Gm.own qS28 (zz_ovG (rs := [(1070, 1070), (0, 600), ((-9223372036854775808), 9223372036854775807), ((-2147483648), 2147483647)]) (fun _ => rfl) rfl (by decide +kernel)))) (fun S30 hP => ?_)
  obtain ⟨gS30, fS30⟩ := hP
  have F_S30 := zz_fr.trans F_S28 fS30 (by decide +kernel) zz_nv
  have G_S30 := zz_Gm.call zX_56 G_S28 fS30 gS30 (by decide +kernel) (by decide +kernel) (by decide +kernel) (by decide +kernel)
  refine zz_setn (n1 := 1073) (k1 := 72) (j1 := 10694) rfl rfl rfl ?_
  refine zz_putrF (kd := 0) 1072 zd_1_1_98 zf_TF_58 zT_1000 rfl (by decide) (by decide) rfl (fun _ => rfl) (fun _ => rfl) rfl (fun q h => by cases h; rfl) (fun S31 qS31 => ?_)
  have G_S31 := zz_Gm.put zX_57 G_S30 qS31 1072 1072 rfl (by decide) (by decide +kernel)
  have F_S31 := zz_fr.putc F_S30 qS31 (by decide +kernel)
  refine zz_aload_n (x := 1000) rfl zd_1_1_101 ?_
  refine zz_new (zz_ov [(-1), (-1), (-1), (-1), 0, 0, 0, 0, 0]) zd_1_1_102 zn_TF_62 zT_1073 rfl (Nat.le_of_ble_eq_true rfl) (Nat.le_of_ble_eq_true rfl) (fun S32 qS32 => ?_)
  have G_S32 := zz_Gm.nwo G_S31 qS32 (by decide +kernel)
  have F_S32 := zz_fr.nw F_S31 qS32 (by decide +kernel)
  refine zz_setn (n1 := 1074) (k1 := 73) (j1 := 10703) rfl rfl rfl ?_
  refine zz_dup rfl zd_1_1_105 ?_
  refine zz_aload_n (x := 1000) rfl zd_1_1_106 ?_
  have g33 := G_S32 1000 2 (by decide +kernel) (by decide +kernel)
  refine zz_getr (kd := 0) (z := 1070) zd_1_1_107 zf_TF_49 zT_1000 rfl (by decide) (Int.le_antisymm g33.2 g33.1) (by decide) 1070 rfl ?_
  refine zz_aload_n (x := 1000) rfl zd_1_1_110 ?_
  refine zz_getr (kd := 1) (z := 1) zd_1_1_111 zf_TF_16 zT_1000 rfl (by decide) (zz_nwo qS32 (by decide) (zz_ro qS31 (fun h => absurd h.2 (by decide)) (zz_rc fS30 rfl rfl (fun h => h) (zz_nwo qS28 (by decide) (zz_ro qS27 (fun h => absurd h.2 (by decide)) (zz_rc fS25 rfl rfl (fun h => h) (zz_nwo qS24 (by decide) (zz_ro qS23 (fun h => absurd h.2 (by decide)) (zz_rc fS22 rfl rfl (fun h => h) (zz_nwo qS20 (by decide) (zz_ro qS19 (fun h => absurd h.2 (by decide)) (zz_rc fS17 rfl rfl (fun h => h) (zz_nwo qS16 (by decide) (zz_ro qS15 (fun h => absurd h.2 (by decide)) (zz_ro qS14 (fun h => absurd h.2 (by decide)) (zz_nwo qS13 (by decide) (zz_ro qS12 (fun h => absurd h.2 (by decide)) (zz_nwo qS11 (by decide) (zz_rs qS10))))))))))))))))))) (by decide) 1015 rfl ?_
  refine zz_callN (n1 := 1076) [.ref 1070, .ref 1015] zd_1_1_114 zk_TF_64 rfl rfl ⟨Nat.le_of_ble_eq_true rfl, Nat.le_of_ble_eq_true rfl⟩ (Nat.le_of_ble_eq_true rfl) (Nat.le_of_ble_eq_true rfl) (zc_init_8_1_c1073_1074 S32 (zz_Gm.own qS32 (zz_ovG (rs := [(1070, 1070), (0, 1), (1074, 1074), (1075, 1075), (0, 1500), ((-1500), 1500), ((-2147483648), 2147483647), ((-2147483648), 2147483647), ((-2147483648), 2147483647)]) (fun _ => rfl) rfl (by decide +kernel)))) (fun S34 hP => ?_)
  obtain ⟨gS34, fS34⟩ := hP
  have F_S34 := zz_fr.trans F_S32 fS34 (by decide +kernel) zz_nv
  have G_S34 := zz_Gm.call zX_57 G_S32 fS34 gS34 (by decide +kernel) (by decide +kernel) (by decide +kernel) (by decide +kernel)
  refine zz_setn (n1 := 1076) (k1 := 75) (j1 := 10725) rfl rfl rfl ?_
  refine zz_putrF (kd := 0) 1073 zd_1_1_117 zf_TF_67 zT_1000 rfl (by decide) (by decide) rfl (fun _ => rfl) (fun _ => rfl) rfl (fun q h => by cases h; rfl) (fun S35 qS35 => ?_)
  have G_S35 := zz_Gm.put [(1000, 5), (1000, 6)] G_S34 qS35 1073 1073 rfl (by decide) (by decide +kernel)
  have F_S35 := zz_fr.putc F_S34 qS35 (by decide +kernel)
  refine zz_aload_n (x := 1000) rfl zd_1_1_120 ?_
  refine zz_new (zz_ov [(-1), 0, 0, (-1), (-1), (-1), 0, 0, 0, 0, 0, 0, 0, 0, 0, 0, 0]) zd_1_1_121 zn_TF_71 zT_1076 rfl (Nat.le_of_ble_eq_true rfl) (Nat.le_of_ble_eq_true rfl) (fun S36 qS36 => ?_)
  have G_S36 := zz_Gm.nwo G_S35 qS36 (by decide +kernel)
  have F_S36 := zz_fr.nw F_S35 qS36 (by decide +kernel)
  refine zz_setn (n1 := 1077) (k1 := 76) (j1 := 10742) rfl rfl rfl ?_
  refine zz_dup rfl zd_1_1_124 ?_
  refine zz_aload_n (x := 1000) rfl zd_1_1_125 ?_
  refine zz_getr (kd := 2) (z := 1) zd_1_1_126 zf_TF_23 zT_1000 rfl (by decide) (zz_nwo qS36 (by decide) (zz_ro qS35 (fun h => absurd h.2 (by decide)) (zz_rc fS34 rfl rfl (fun h => h) (zz_nwo qS32 (by decide) (zz_ro qS31 (fun h => absurd h.2 (by decide)) (zz_rc fS30 rfl rfl (fun h => h) (zz_nwo qS28 (by decide) (zz_ro qS27 (fun h => absurd h.2 (by decide)) (zz_rc fS25 rfl rfl (fun h => h) (zz_nwo qS24 (by decide) (zz_ro qS23 (fun h => absurd h.2 (by decide)) (zz_rc fS22 rfl rfl (fun h => h) (zz_nwo qS20 (by decide) (zz_ro qS19 (fun h => absurd h.2 (by decide)) (zz_rc fS17 rfl rfl (fun h => h) (zz_nwo qS16 (by decide) (zz_ro qS15 (fun h => absurd h.2 (by decide)) (zz_rs qS14)))))))))))))))))) (by decide) 1030 rfl ?_
  refine zz_callN (n1 := 1077) [.ref 1030] zd_1_1_129 zk_TF_73 rfl rfl ⟨Nat.le_of_ble_eq_true rfl, Nat.le_of_ble_eq_true rfl⟩ (Nat.le_of_ble_eq_true rfl) (Nat.le_of_ble_eq_true rfl) (zc_init_3_1_c1076_1077 S36 (zz_Gm.own qS36 (zz_ovG (rs := [(0, 1), (0, 1000000), (2, 8), ((-1), 23), ((-1), 23), ((-1), 23), ((-2147483648), 2147483647), ((-2147483648), 2147483647), ((-2147483648), 2147483647), ((-2147483648), 2147483647), ((-2147483648), 2147483647), ((-2147483648), 2147483647), ((-2147483648), 2147483647), ((-2147483648), 2147483647), ((-2147483648), 2147483647), ((-2147483648), 2147483647), ((-2147483648), 2147483647)]) (fun _ => rfl) rfl (by decide +kernel)))) (fun S37 hP => ?_)
  obtain ⟨gS37, fS37⟩ := hP
  have F_S37 := zz_fr.trans F_S36 fS37 (by decide +kernel) zz_nv
  have G_S37 := zz_Gm.call [(1000, 5), (1000, 6)] G_S36 fS37 gS37 (by decide +kernel) (by decide +kernel) (by decide +kernel) (by decide +kernel)
  refine zz_setn (n1 := 1077) (k1 := 76) (j1 := 10742) rfl rfl rfl ?_
  refine zz_putrF (kd := 0) 1076 zd_1_1_132 zf_TF_76 zT_1000 rfl (by decide) (by decide) rfl (fun _ => rfl) (fun _ => rfl) rfl (fun q h => by cases h; rfl) (fun S38 qS38 => ?_)
  have G_S38 := zz_Gm.put [(1000, 6)] G_S37 qS38 1076 1076 rfl (by decide) (by decide +kernel)
  have F_S38 := zz_fr.putc F_S37 qS38 (by decide +kernel)
  refine zz_aload_n (x := 1000) rfl zd_1_1_135 ?_
  refine zz_new (zz_ov [(-1), 0]) zd_1_1_136 zn_TF_80 zT_1077 rfl (Nat.le_of_ble_eq_true rfl) (Nat.le_of_ble_eq_true rfl) (fun S39 qS39 => ?_)
  have G_S39 := zz_Gm.nwo G_S38 qS39 (by decide +kernel)
  have F_S39 := zz_fr.nw F_S38 qS39 (by decide +kernel)
  refine zz_setn (n1 := 1078) (k1 := 77) (j1 := 10744) rfl rfl rfl ?_
  refine zz_dup rfl zd_1_1_139 ?_
  refine zz_callN (n1 := 1079) [] zd_1_1_140 zk_TF_82 rfl rfl ⟨Nat.le_of_ble_eq_true rfl, Nat.le_of_ble_eq_true rfl⟩ (Nat.le_of_ble_eq_true rfl) (Nat.le_of_ble_eq_true rfl) (zc_init_5_1_c1077_1078 S39 (zz_Gm.own qS39 (zz_ovG (rs := [(1078, 1078), (0, 128)]) (fun _ => rfl) rfl (by decide +kernel)))) (fun S40 hP => ?_)
  obtain ⟨gS40, fS40⟩ := hP
  have F_S40 := zz_fr.trans F_S39 fS40 (by decide +kernel) zz_nv
  have G_S40 := zz_Gm.call [(1000, 6)] G_S39 fS40 gS40 (by decide +kernel) (by decide +kernel) (by decide +kernel) (by decide +kernel)
  refine zz_setn (n1 := 1079) (k1 := 78) (j1 := 10872) rfl rfl rfl ?_
  refine zz_putrF (kd := 0) 1077 zd_1_1_143 zf_TF_83 zT_1000 rfl (by decide) (by decide) rfl (fun _ => rfl) (fun _ => rfl) rfl (fun q h => by cases h; rfl) (fun S41 qS41 => ?_)
  have G_S41 := zz_Gm.put [] G_S40 qS41 1077 1077 rfl (by decide) (by decide +kernel)
  have F_S41 := zz_fr.putc F_S40 qS41 (by decide +kernel)
  have g42 := trivial
  have e43 : S41 1001 1 = S3 1001 1 := (zz_ro qS41 (fun h => absurd h.1 (by decide)) (zz_rc fS40 rfl rfl (fun h => h) (zz_nwo qS39 (by decide) (zz_ro qS38 (fun h => absurd h.1 (by decide)) (zz_rc fS37 rfl rfl (fun h => h) (zz_nwo qS36 (by decide) (zz_ro qS35 (fun h => absurd h.1 (by decide)) (zz_rc fS34 rfl rfl (fun h => h) (zz_nwo qS32 (by decide) (zz_ro qS31 (fun h => absurd h.1 (by decide)) (zz_rc fS30 rfl rfl (fun h => h) (zz_nwo qS28 (by decide) (zz_ro qS27 (fun h => absurd h.1 (by decide)) (zz_rc fS25 rfl rfl (fun h => h) (zz_nwo qS24 (by decide) (zz_ro qS23 (fun h => absurd h.1 (by decide)) (zz_rc fS22 rfl rfl (fun h => h) (zz_nwo qS20 (by decide) (zz_ro qS19 (fun h => absurd h.1 (by decide)) (zz_rc fS17 rfl rfl (fun h => h) (zz_nwo qS16 (by decide) (zz_ro qS15 (fun h => absurd h.1 (by decide)) (zz_ro qS14 (fun h => absurd h.1 (by decide)) (zz_nwo qS13 (by decide) (zz_ro qS12 (fun h => absurd h.1 (by decide)) (zz_nwo qS11 (by decide) (zz_ro qS10 (fun h => absurd h.1 (by decide)) (zz_rc fS8 rfl rfl (fun h => h) (zz_nwo qS7 (by decide) (zz_ro qS6 (fun h => absurd h.1 (by decide)) rfl))))))))))))))))))))))))))))))
  have g44 := trivial
  have e45 : S41 1003 0 = S3 1003 0 := (zz_ro qS41 (fun h => absurd h.1 (by decide)) (zz_rc fS40 rfl rfl (fun h => h) (zz_nwo qS39 (by decide) (zz_ro qS38 (fun h => absurd h.1 (by decide)) (zz_rc fS37 rfl rfl (fun h => h) (zz_nwo qS36 (by decide) (zz_ro qS35 (fun h => absurd h.1 (by decide)) (zz_rc fS34 rfl rfl (fun h => h) (zz_nwo qS32 (by decide) (zz_ro qS31 (fun h => absurd h.1 (by decide)) (zz_rc fS30 rfl rfl (fun h => h) (zz_nwo qS28 (by decide) (zz_ro qS27 (fun h => absurd h.1 (by decide)) (zz_rc fS25 rfl rfl (fun h => h) (zz_nwo qS24 (by decide) (zz_ro qS23 (fun h => absurd h.1 (by decide)) (zz_rc fS22 rfl rfl (fun h => h) (zz_nwo qS20 (by decide) (zz_ro qS19 (fun h => absurd h.1 (by decide)) (zz_rc fS17 rfl rfl (fun h => h) (zz_nwo qS16 (by decide) (zz_ro qS15 (fun h => absurd h.1 (by decide)) (zz_ro qS14 (fun h => absurd h.1 (by decide)) (zz_nwo qS13 (by decide) (zz_ro qS12 (fun h => absurd h.1 (by decide)) (zz_nwo qS11 (by decide) (zz_ro qS10 (fun h => absurd h.1 (by decide)) (zz_rc fS8 rfl rfl (fun h => h) (zz_nwo qS7 (by decide) (zz_ro qS6 (fun h => absurd h.1 (by decide)) rfl))))))))))))))))))))))))))))))
  have g46 := trivial
  have e47 : S41 1003 12 = S3 1003 12 := (zz_ro qS41 (fun h => absurd h.1 (by decide)) (zz_rc fS40 rfl rfl (fun h => h) (zz_nwo qS39 (by decide) (zz_ro qS38 (fun h => absurd h.1 (by decide)) (zz_rc fS37 rfl rfl (fun h => h) (zz_nwo qS36 (by decide) (zz_ro qS35 (fun h => absurd h.1 (by decide)) (zz_rc fS34 rfl rfl (fun h => h) (zz_nwo qS32 (by decide) (zz_ro qS31 (fun h => absurd h.1 (by decide)) (zz_rc fS30 rfl rfl (fun h => h) (zz_nwo qS28 (by decide) (zz_ro qS27 (fun h => absurd h.1 (by decide)) (zz_rc fS25 rfl rfl (fun h => h) (zz_nwo qS24 (by decide) (zz_ro qS23 (fun h => absurd h.1 (by decide)) (zz_rc fS22 rfl rfl (fun h => h) (zz_nwo qS20 (by decide) (zz_ro qS19 (fun h => absurd h.1 (by decide)) (zz_rc fS17 rfl rfl (fun h => h) (zz_nwo qS16 (by decide) (zz_ro qS15 (fun h => absurd h.1 (by decide)) (zz_ro qS14 (fun h => absurd h.1 (by decide)) (zz_nwo qS13 (by decide) (zz_ro qS12 (fun h => absurd h.1 (by decide)) (zz_nwo qS11 (by decide) (zz_ro qS10 (fun h => absurd h.1 (by decide)) (zz_rc fS8 rfl rfl (fun h => h) (zz_nwo qS7 (by decide) (zz_ro qS6 (fun h => absurd h.1 (by decide)) rfl))))))))))))))))))))))))))))))
  have g48 := trivial
  have e49 : S41 1003 3 = S3 1003 3 := (zz_ro qS41 (fun h => absurd h.1 (by decide)) (zz_rc fS40 rfl rfl (fun h => h) (zz_nwo qS39 (by decide) (zz_ro qS38 (fun h => absurd h.1 (by decide)) (zz_rc fS37 rfl rfl (fun h => h) (zz_nwo qS36 (by decide) (zz_ro qS35 (fun h => absurd h.1 (by decide)) (zz_rc fS34 rfl rfl (fun h => h) (zz_nwo qS32 (by decide) (zz_ro qS31 (fun h => absurd h.1 (by decide)) (zz_rc fS30 rfl rfl (fun h => h) (zz_nwo qS28 (by decide) (zz_ro qS27 (fun h => absurd h.1 (by decide)) (zz_rc fS25 rfl rfl (fun h => h) (zz_nwo qS24 (by decide) (zz_ro qS23 (fun h => absurd h.1 (by decide)) (zz_rc fS22 rfl rfl (fun h => h) (zz_nwo qS20 (by decide) (zz_ro qS19 (fun h => absurd h.1 (by decide)) (zz_rc fS17 rfl rfl (fun h => h) (zz_nwo qS16 (by decide) (zz_ro qS15 (fun h => absurd h.1 (by decide)) (zz_ro qS14 (fun h => absurd h.1 (by decide)) (zz_nwo qS13 (by decide) (zz_ro qS12 (fun h => absurd h.1 (by decide)) (zz_nwo qS11 (by decide) (zz_ro qS10 (fun h => absurd h.1 (by decide)) (zz_rc fS8 rfl rfl (fun h => h) (zz_nwo qS7 (by decide) (zz_ro qS6 (fun h => absurd h.1 (by decide)) rfl))))))))))))))))))))))))))))))
  have g50 := trivial
  have e51 : S41 1003 4 = S3 1003 4 := (zz_ro qS41 (fun h => absurd h.1 (by decide)) (zz_rc fS40 rfl rfl (fun h => h) (zz_nwo qS39 (by decide) (zz_ro qS38 (fun h => absurd h.1 (by decide)) (zz_rc fS37 rfl rfl (fun h => h) (zz_nwo qS36 (by decide) (zz_ro qS35 (fun h => absurd h.1 (by decide)) (zz_rc fS34 rfl rfl (fun h => h) (zz_nwo qS32 (by decide) (zz_ro qS31 (fun h => absurd h.1 (by decide)) (zz_rc fS30 rfl rfl (fun h => h) (zz_nwo qS28 (by decide) (zz_ro qS27 (fun h => absurd h.1 (by decide)) (zz_rc fS25 rfl rfl (fun h => h) (zz_nwo qS24 (by decide) (zz_ro qS23 (fun h => absurd h.1 (by decide)) (zz_rc fS22 rfl rfl (fun h => h) (zz_nwo qS20 (by decide) (zz_ro qS19 (fun h => absurd h.1 (by decide)) (zz_rc fS17 rfl rfl (fun h => h) (zz_nwo qS16 (by decide) (zz_ro qS15 (fun h => absurd h.1 (by decide)) (zz_ro qS14 (fun h => absurd h.1 (by decide)) (zz_nwo qS13 (by decide) (zz_ro qS12 (fun h => absurd h.1 (by decide)) (zz_nwo qS11 (by decide) (zz_ro qS10 (fun h => absurd h.1 (by decide)) (zz_rc fS8 rfl rfl (fun h => h) (zz_nwo qS7 (by decide) (zz_ro qS6 (fun h => absurd h.1 (by decide)) rfl))))))))))))))))))))))))))))))
  have g52 := trivial
  have e53 : S41 1015 1 = S8 1015 1 := (zz_ro qS41 (fun h => absurd h.1 (by decide)) (zz_rc fS40 rfl rfl (fun h => h) (zz_nwo qS39 (by decide) (zz_ro qS38 (fun h => absurd h.1 (by decide)) (zz_rc fS37 rfl rfl (fun h => h) (zz_nwo qS36 (by decide) (zz_ro qS35 (fun h => absurd h.1 (by decide)) (zz_rc fS34 rfl rfl (fun h => h) (zz_nwo qS32 (by decide) (zz_ro qS31 (fun h => absurd h.1 (by decide)) (zz_rc fS30 rfl rfl (fun h => h) (zz_nwo qS28 (by decide) (zz_ro qS27 (fun h => absurd h.1 (by decide)) (zz_rc fS25 rfl rfl (fun h => h) (zz_nwo qS24 (by decide) (zz_ro qS23 (fun h => absurd h.1 (by decide)) (zz_rc fS22 rfl rfl (fun h => h) (zz_nwo qS20 (by decide) (zz_ro qS19 (fun h => absurd h.1 (by decide)) (zz_rc fS17 rfl rfl (fun h => h) (zz_nwo qS16 (by decide) (zz_ro qS15 (fun h => absurd h.1 (by decide)) (zz_ro qS14 (fun h => absurd h.1 (by decide)) (zz_nwo qS13 (by decide) (zz_ro qS12 (fun h => absurd h.1 (by decide)) (zz_nwo qS11 (by decide) (zz_ro qS10 (fun h => absurd h.1 (by decide)) rfl)))))))))))))))))))))))))))
  have g54 := trivial
  have e55 : S41 1017 0 = S8 1017 0 := (zz_ro qS41 (fun h => absurd h.1 (by decide)) (zz_rc fS40 rfl rfl (fun h => h) (zz_nwo qS39 (by decide) (zz_ro qS38 (fun h => absurd h.1 (by decide)) (zz_rc fS37 rfl rfl (fun h => h) (zz_nwo qS36 (by decide) (zz_ro qS35 (fun h => absurd h.1 (by decide)) (zz_rc fS34 rfl rfl (fun h => h) (zz_nwo qS32 (by decide) (zz_ro qS31 (fun h => absurd h.1 (by decide)) (zz_rc fS30 rfl rfl (fun h => h) (zz_nwo qS28 (by decide) (zz_ro qS27 (fun h => absurd h.1 (by decide)) (zz_rc fS25 rfl rfl (fun h => h) (zz_nwo qS24 (by decide) (zz_ro qS23 (fun h => absurd h.1 (by decide)) (zz_rc fS22 rfl rfl (fun h => h) (zz_nwo qS20 (by decide) (zz_ro qS19 (fun h => absurd h.1 (by decide)) (zz_rc fS17 rfl rfl (fun h => h) (zz_nwo qS16 (by decide) (zz_ro qS15 (fun h => absurd h.1 (by decide)) (zz_ro qS14 (fun h => absurd h.1 (by decide)) (zz_nwo qS13 (by decide) (zz_ro qS12 (fun h => absurd h.1 (by decide)) (zz_nwo qS11 (by decide) (zz_ro qS10 (fun h => absurd h.1 (by decide)) rfl)))))))))))))))))))))))))))
  have g56 := trivial
  have e57 : S41 1017 12 = S8 1017 12 := (zz_ro qS41 (fun h => absurd h.1 (by decide)) (zz_rc fS40 rfl rfl (fun h => h) (zz_nwo qS39 (by decide) (zz_ro qS38 (fun h => absurd h.1 (by decide)) (zz_rc fS37 rfl rfl (fun h => h) (zz_nwo qS36 (by decide) (zz_ro qS35 (fun h => absurd h.1 (by decide)) (zz_rc fS34 rfl rfl (fun h => h) (zz_nwo qS32 (by decide) (zz_ro qS31 (fun h => absurd h.1 (by decide)) (zz_rc fS30 rfl rfl (fun h => h) (zz_nwo qS28 (by decide) (zz_ro qS27 (fun h => absurd h.1 (by decide)) (zz_rc fS25 rfl rfl (fun h => h) (zz_nwo qS24 (by decide) (zz_ro qS23 (fun h => absurd h.1 (by decide)) (zz_rc fS22 rfl rfl (fun h => h) (zz_nwo qS20 (by decide) (zz_ro qS19 (fun h => absurd h.1 (by decide)) (zz_rc fS17 rfl rfl (fun h => h) (zz_nwo qS16 (by decide) (zz_ro qS15 (fun h => absurd h.1 (by decide)) (zz_ro qS14 (fun h => absurd h.1 (by decide)) (zz_nwo qS13 (by decide) (zz_ro qS12 (fun h => absurd h.1 (by decide)) (zz_nwo qS11 (by decide) (zz_ro qS10 (fun h => absurd h.1 (by decide)) rfl)))))))))))))))))))))))))))
  have g58 := trivial
  have e59 : S41 1017 3 = S8 1017 3 := (zz_ro qS41 (fun h => absurd h.1 (by decide)) (zz_rc fS40 rfl rfl (fun h => h) (zz_nwo qS39 (by decide) (zz_ro qS38 (fun h => absurd h.1 (by decide)) (zz_rc fS37 rfl rfl (fun h => h) (zz_nwo qS36 (by decide) (zz_ro qS35 (fun h => absurd h.1 (by decide)) (zz_rc fS34 rfl rfl (fun h => h) (zz_nwo qS32 (by decide) (zz_ro qS31 (fun h => absurd h.1 (by decide)) (zz_rc fS30 rfl rfl (fun h => h) (zz_nwo qS28 (by decide) (zz_ro qS27 (fun h => absurd h.1 (by decide)) (zz_rc fS25 rfl rfl (fun h => h) (zz_nwo qS24 (by decide) (zz_ro qS23 (fun h => absurd h.1 (by decide)) (zz_rc fS22 rfl rfl (fun h => h) (zz_nwo qS20 (by decide) (zz_ro qS19 (fun h => absurd h.1 (by decide)) (zz_rc fS17 rfl rfl (fun h => h) (zz_nwo qS16 (by decide) (zz_ro qS15 (fun h => absurd h.1 (by decide)) (zz_ro qS14 (fun h => absurd h.1 (by decide)) (zz_nwo qS13 (by decide) (zz_ro qS12 (fun h => absurd h.1 (by decide)) (zz_nwo qS11 (by decide) (zz_ro qS10 (fun h => absurd h.1 (by decide)) rfl)))))))))))))))))))))))))))
  have g60 := trivial
  have e61 : S41 1017 4 = S8 1017 4 := (zz_ro qS41 (fun h => absurd h.1 (by decide)) (zz_rc fS40 rfl rfl (fun h => h) (zz_nwo qS39 (by decide) (zz_ro qS38 (fun h => absurd h.1 (by decide)) (zz_rc fS37 rfl rfl (fun h => h) (zz_nwo qS36 (by decide) (zz_ro qS35 (fun h => absurd h.1 (by decide)) (zz_rc fS34 rfl rfl (fun h => h) (zz_nwo qS32 (by decide) (zz_ro qS31 (fun h => absurd h.1 (by decide)) (zz_rc fS30 rfl rfl (fun h => h) (zz_nwo qS28 (by decide) (zz_ro qS27 (fun h => absurd h.1 (by decide)) (zz_rc fS25 rfl rfl (fun h => h) (zz_nwo qS24 (by decide) (zz_ro qS23 (fun h => absurd h.1 (by decide)) (zz_rc fS22 rfl rfl (fun h => h) (zz_nwo qS20 (by decide) (zz_ro qS19 (fun h => absurd h.1 (by decide)) (zz_rc fS17 rfl rfl (fun h => h) (zz_nwo qS16 (by decide) (zz_ro qS15 (fun h => absurd h.1 (by decide)) (zz_ro qS14 (fun h => absurd h.1 (by decide)) (zz_nwo qS13 (by decide) (zz_ro qS12 (fun h => absurd h.1 (by decide)) (zz_nwo qS11 (by decide) (zz_ro qS10 (fun h => absurd h.1 (by decide)) rfl)))))))))))))))))))))))))))
  have e62 : S41 1031 6 = 2 := (zz_ro qS41 (fun h => absurd h.1 (by decide)) (zz_rc fS40 rfl rfl (fun h => h) (zz_nwo qS39 (by decide) (zz_ro qS38 (fun h => absurd h.1 (by decide)) (zz_rc fS37 rfl rfl (fun h => h) (zz_nwo qS36 (by decide) (zz_ro qS35 (fun h => absurd h.1 (by decide)) (zz_rc fS34 rfl rfl (fun h => h) (zz_nwo qS32 (by decide) (zz_ro qS31 (fun h => absurd h.1 (by decide)) (zz_rc fS30 rfl rfl (fun h => h) (zz_nwo qS28 (by decide) (zz_ro qS27 (fun h => absurd h.1 (by decide)) (zz_rc fS25 rfl rfl (fun h => h) (zz_nwo qS24 (by decide) (zz_ro qS23 (fun h => absurd h.1 (by decide)) (zz_rc fS22 rfl rfl (fun h => h) (zz_nwo qS20 (by decide) (zz_ro qS19 (fun h => absurd h.1 (by decide)) o18)))))))))))))))))))
  have e63 : S41 1070 1 = 0 := (zz_ro qS41 (fun h => absurd h.1 (by decide)) (zz_rc fS40 rfl rfl (fun h => h) (zz_nwo qS39 (by decide) (zz_ro qS38 (fun h => absurd h.1 (by decide)) (zz_rc fS37 rfl rfl (fun h => h) (zz_nwo qS36 (by decide) (zz_ro qS35 (fun h => absurd h.1 (by decide)) (zz_rc fS34 rfl rfl (fun h => h) (zz_nwo qS32 (by decide) (zz_ro qS31 (fun h => absurd h.1 (by decide)) (zz_rc fS30 rfl rfl (fun h => h) (zz_nwo qS28 (by decide) (zz_ro qS27 (fun h => absurd h.1 (by decide)) o26)))))))))))))
  have g64 := trivial
  have e65 : S41 1003 1 = S3 1003 1 := (zz_ro qS41 (fun h => absurd h.1 (by decide)) (zz_rc fS40 rfl rfl (fun h => h) (zz_nwo qS39 (by decide) (zz_ro qS38 (fun h => absurd h.1 (by decide)) (zz_rc fS37 rfl rfl (fun h => h) (zz_nwo qS36 (by decide) (zz_ro qS35 (fun h => absurd h.1 (by decide)) (zz_rc fS34 rfl rfl (fun h => h) (zz_nwo qS32 (by decide) (zz_ro qS31 (fun h => absurd h.1 (by decide)) (zz_rc fS30 rfl rfl (fun h => h) (zz_nwo qS28 (by decide) (zz_ro qS27 (fun h => absurd h.1 (by decide)) (zz_rc fS25 rfl rfl (fun h => h) (zz_nwo qS24 (by decide) (zz_ro qS23 (fun h => absurd h.1 (by decide)) (zz_rc fS22 rfl rfl (fun h => h) (zz_nwo qS20 (by decide) (zz_ro qS19 (fun h => absurd h.1 (by decide)) (zz_rc fS17 rfl rfl (fun h => h) (zz_nwo qS16 (by decide) (zz_ro qS15 (fun h => absurd h.1 (by decide)) (zz_ro qS14 (fun h => absurd h.1 (by decide)) (zz_nwo qS13 (by decide) (zz_ro qS12 (fun h => absurd h.1 (by decide)) (zz_nwo qS11 (by decide) (zz_ro qS10 (fun h => absurd h.1 (by decide)) (zz_rc fS8 rfl rfl (fun h => h) (zz_nwo qS7 (by decide) (zz_ro qS6 (fun h => absurd h.1 (by decide)) rfl))))))))))))))))))))))))))))))
  have g66 := trivial
  have e67 : S41 1003 10 = S3 1003 10 := (zz_ro qS41 (fun h => absurd h.1 (by decide)) (zz_rc fS40 rfl rfl (fun h => h) (zz_nwo qS39 (by decide) (zz_ro qS38 (fun h => absurd h.1 (by decide)) (zz_rc fS37 rfl rfl (fun h => h) (zz_nwo qS36 (by decide) (zz_ro qS35 (fun h => absurd h.1 (by decide)) (zz_rc fS34 rfl rfl (fun h => h) (zz_nwo qS32 (by decide) (zz_ro qS31 (fun h => absurd h.1 (by decide)) (zz_rc fS30 rfl rfl (fun h => h) (zz_nwo qS28 (by decide) (zz_ro qS27 (fun h => absurd h.1 (by decide)) (zz_rc fS25 rfl rfl (fun h => h) (zz_nwo qS24 (by decide) (zz_ro qS23 (fun h => absurd h.1 (by decide)) (zz_rc fS22 rfl rfl (fun h => h) (zz_nwo qS20 (by decide) (zz_ro qS19 (fun h => absurd h.1 (by decide)) (zz_rc fS17 rfl rfl (fun h => h) (zz_nwo qS16 (by decide) (zz_ro qS15 (fun h => absurd h.1 (by decide)) (zz_ro qS14 (fun h => absurd h.1 (by decide)) (zz_nwo qS13 (by decide) (zz_ro qS12 (fun h => absurd h.1 (by decide)) (zz_nwo qS11 (by decide) (zz_ro qS10 (fun h => absurd h.1 (by decide)) (zz_rc fS8 rfl rfl (fun h => h) (zz_nwo qS7 (by decide) (zz_ro qS6 (fun h => absurd h.1 (by decide)) rfl))))))))))))))))))))))))))))))
  have g68 := trivial
  have e69 : S41 1003 11 = S3 1003 11 := (zz_ro qS41 (fun h => absurd h.1 (by decide)) (zz_rc fS40 rfl rfl (fun h => h) (zz_nwo qS39 (by decide) (zz_ro qS38 (fun h => absurd h.1 (by decide)) (zz_rc fS37 rfl rfl (fun h => h) (zz_nwo qS36 (by decide) (zz_ro qS35 (fun h => absurd h.1 (by decide)) (zz_rc fS34 rfl rfl (fun h => h) (zz_nwo qS32 (by decide) (zz_ro qS31 (fun h => absurd h.1 (by decide)) (zz_rc fS30 rfl rfl (fun h => h) (zz_nwo qS28 (by decide) (zz_ro qS27 (fun h => absurd h.1 (by decide)) (zz_rc fS25 rfl rfl (fun h => h) (zz_nwo qS24 (by decide) (zz_ro qS23 (fun h => absurd h.1 (by decide)) (zz_rc fS22 rfl rfl (fun h => h) (zz_nwo qS20 (by decide) (zz_ro qS19 (fun h => absurd h.1 (by decide)) (zz_rc fS17 rfl rfl (fun h => h) (zz_nwo qS16 (by decide) (zz_ro qS15 (fun h => absurd h.1 (by decide)) (zz_ro qS14 (fun h => absurd h.1 (by decide)) (zz_nwo qS13 (by decide) (zz_ro qS12 (fun h => absurd h.1 (by decide)) (zz_nwo qS11 (by decide) (zz_ro qS10 (fun h => absurd h.1 (by decide)) (zz_rc fS8 rfl rfl (fun h => h) (zz_nwo qS7 (by decide) (zz_ro qS6 (fun h => absurd h.1 (by decide)) rfl))))))))))))))))))))))))))))))
  have g70 := trivial
  have e71 : S41 1003 13 = S3 1003 13 := (zz_ro qS41 (fun h => absurd h.1 (by decide)) (zz_rc fS40 rfl rfl (fun h => h) (zz_nwo qS39 (by decide) (zz_ro qS38 (fun h => absurd h.1 (by decide)) (zz_rc fS37 rfl rfl (fun h => h) (zz_nwo qS36 (by decide) (zz_ro qS35 (fun h => absurd h.1 (by decide)) (zz_rc fS34 rfl rfl (fun h => h) (zz_nwo qS32 (by decide) (zz_ro qS31 (fun h => absurd h.1 (by decide)) (zz_rc fS30 rfl rfl (fun h => h) (zz_nwo qS28 (by decide) (zz_ro qS27 (fun h => absurd h.1 (by decide)) (zz_rc fS25 rfl rfl (fun h => h) (zz_nwo qS24 (by decide) (zz_ro qS23 (fun h => absurd h.1 (by decide)) (zz_rc fS22 rfl rfl (fun h => h) (zz_nwo qS20 (by decide) (zz_ro qS19 (fun h => absurd h.1 (by decide)) (zz_rc fS17 rfl rfl (fun h => h) (zz_nwo qS16 (by decide) (zz_ro qS15 (fun h => absurd h.1 (by decide)) (zz_ro qS14 (fun h => absurd h.1 (by decide)) (zz_nwo qS13 (by decide) (zz_ro qS12 (fun h => absurd h.1 (by decide)) (zz_nwo qS11 (by decide) (zz_ro qS10 (fun h => absurd h.1 (by decide)) (zz_rc fS8 rfl rfl (fun h => h) (zz_nwo qS7 (by decide) (zz_ro qS6 (fun h => absurd h.1 (by decide)) rfl))))))))))))))))))))))))))))))
  have g72 := trivial
  have e73 : S41 1003 2 = S3 1003 2 := (zz_ro qS41 (fun h => absurd h.1 (by decide)) (zz_rc fS40 rfl rfl (fun h => h) (zz_nwo qS39 (by decide) (zz_ro qS38 (fun h => absurd h.1 (by decide)) (zz_rc fS37 rfl rfl (fun h => h) (zz_nwo qS36 (by decide) (zz_ro qS35 (fun h => absurd h.1 (by decide)) (zz_rc fS34 rfl rfl (fun h => h) (zz_nwo qS32 (by decide) (zz_ro qS31 (fun h => absurd h.1 (by decide)) (zz_rc fS30 rfl rfl (fun h => h) (zz_nwo qS28 (by decide) (zz_ro qS27 (fun h => absurd h.1 (by decide)) (zz_rc fS25 rfl rfl (fun h => h) (zz_nwo qS24 (by decide) (zz_ro qS23 (fun h => absurd h.1 (by decide)) (zz_rc fS22 rfl rfl (fun h => h) (zz_nwo qS20 (by decide) (zz_ro qS19 (fun h => absurd h.1 (by decide)) (zz_rc fS17 rfl rfl (fun h => h) (zz_nwo qS16 (by decide) (zz_ro qS15 (fun h => absurd h.1 (by decide)) (zz_ro qS14 (fun h => absurd h.1 (by decide)) (zz_nwo qS13 (by decide) (zz_ro qS12 (fun h => absurd h.1 (by decide)) (zz_nwo qS11 (by decide) (zz_ro qS10 (fun h => absurd h.1 (by decide)) (zz_rc fS8 rfl rfl (fun h => h) (zz_nwo qS7 (by decide) (zz_ro qS6 (fun h => absurd h.1 (by decide)) rfl))))))))))))))))))))))))))))))
  have g74 := trivial
  have e75 : S41 1003 5 = S3 1003 5 := (zz_ro qS41 (fun h => absurd h.1 (by decide)) (zz_rc fS40 rfl rfl (fun h => h) (zz_nwo qS39 (by decide) (zz_ro qS38 (fun h => absurd h.1 (by decide)) (zz_rc fS37 rfl rfl (fun h => h) (zz_nwo qS36 (by decide) (zz_ro qS35 (fun h => absurd h.1 (by decide)) (zz_rc fS34 rfl rfl (fun h => h) (zz_nwo qS32 (by decide) (zz_ro qS31 (fun h => absurd h.1 (by decide)) (zz_rc fS30 rfl rfl (fun h => h) (zz_nwo qS28 (by decide) (zz_ro qS27 (fun h => absurd h.1 (by decide)) (zz_rc fS25 rfl rfl (fun h => h) (zz_nwo qS24 (by decide) (zz_ro qS23 (fun h => absurd h.1 (by decide)) (zz_rc fS22 rfl rfl (fun h => h) (zz_nwo qS20 (by decide) (zz_ro qS19 (fun h => absurd h.1 (by decide)) (zz_rc fS17 rfl rfl (fun h => h) (zz_nwo qS16 (by decide) (zz_ro qS15 (fun h => absurd h.1 (by decide)) (zz_ro qS14 (fun h => absurd h.1 (by decide)) (zz_nwo qS13 (by decide) (zz_ro qS12 (fun h => absurd h.1 (by decide)) (zz_nwo qS11 (by decide) (zz_ro qS10 (fun h => absurd h.1 (by decide)) (zz_rc fS8 rfl rfl (fun h => h) (zz_nwo qS7 (by decide) (zz_ro qS6 (fun h => absurd h.1 (by decide)) rfl))))))))))))))))))))))))))))))
  have g76 := trivial
  have e77 : S41 1003 6 = S3 1003 6 := (zz_ro qS41 (fun h => absurd h.1 (by decide)) (zz_rc fS40 rfl rfl (fun h => h) (zz_nwo qS39 (by decide) (zz_ro qS38 (fun h => absurd h.1 (by decide)) (zz_rc fS37 rfl rfl (fun h => h) (zz_nwo qS36 (by decide) (zz_ro qS35 (fun h => absurd h.1 (by decide)) (zz_rc fS34 rfl rfl (fun h => h) (zz_nwo qS32 (by decide) (zz_ro qS31 (fun h => absurd h.1 (by decide)) (zz_rc fS30 rfl rfl (fun h => h) (zz_nwo qS28 (by decide) (zz_ro qS27 (fun h => absurd h.1 (by decide)) (zz_rc fS25 rfl rfl (fun h => h) (zz_nwo qS24 (by decide) (zz_ro qS23 (fun h => absurd h.1 (by decide)) (zz_rc fS22 rfl rfl (fun h => h) (zz_nwo qS20 (by decide) (zz_ro qS19 (fun h => absurd h.1 (by decide)) (zz_rc fS17 rfl rfl (fun h => h) (zz_nwo qS16 (by decide) (zz_ro qS15 (fun h => absurd h.1 (by decide)) (zz_ro qS14 (fun h => absurd h.1 (by decide)) (zz_nwo qS13 (by decide) (zz_ro qS12 (fun h => absurd h.1 (by decide)) (zz_nwo qS11 (by decide) (zz_ro qS10 (fun h => absurd h.1 (by decide)) (zz_rc fS8 rfl rfl (fun h => h) (zz_nwo qS7 (by decide) (zz_ro qS6 (fun h => absurd h.1 (by decide)) rfl))))))))))))))))))))))))))))))
  have g78 := trivial
  have e79 : S41 1003 7 = S3 1003 7 := (zz_ro qS41 (fun h => absurd h.1 (by decide)) (zz_rc fS40 rfl rfl (fun h => h) (zz_nwo qS39 (by decide) (zz_ro qS38 (fun h => absurd h.1 (by decide)) (zz_rc fS37 rfl rfl (fun h => h) (zz_nwo qS36 (by decide) (zz_ro qS35 (fun h => absurd h.1 (by decide)) (zz_rc fS34 rfl rfl (fun h => h) (zz_nwo qS32 (by decide) (zz_ro qS31 (fun h => absurd h.1 (by decide)) (zz_rc fS30 rfl rfl (fun h => h) (zz_nwo qS28 (by decide) (zz_ro qS27 (fun h => absurd h.1 (by decide)) (zz_rc fS25 rfl rfl (fun h => h) (zz_nwo qS24 (by decide) (zz_ro qS23 (fun h => absurd h.1 (by decide)) (zz_rc fS22 rfl rfl (fun h => h) (zz_nwo qS20 (by decide) (zz_ro qS19 (fun h => absurd h.1 (by decide)) (zz_rc fS17 rfl rfl (fun h => h) (zz_nwo qS16 (by decide) (zz_ro qS15 (fun h => absurd h.1 (by decide)) (zz_ro qS14 (fun h => absurd h.1 (by decide)) (zz_nwo qS13 (by decide) (zz_ro qS12 (fun h => absurd h.1 (by decide)) (zz_nwo qS11 (by decide) (zz_ro qS10 (fun h => absurd h.1 (by decide)) (zz_rc fS8 rfl rfl (fun h => h) (zz_nwo qS7 (by decide) (zz_ro qS6 (fun h => absurd h.1 (by decide)) rfl))))))))))))))))))))))))))))))
  have g80 := trivial
  have e81 : S41 1003 8 = S3 1003 8 := (zz_ro qS41 (fun h => absurd h.1 (by decide)) (zz_rc fS40 rfl rfl (fun h => h) (zz_nwo qS39 (by decide) (zz_ro qS38 (fun h => absurd h.1 (by decide)) (zz_rc fS37 rfl rfl (fun h => h) (zz_nwo qS36 (by decide) (zz_ro qS35 (fun h => absurd h.1 (by decide)) (zz_rc fS34 rfl rfl (fun h => h) (zz_nwo qS32 (by decide) (zz_ro qS31 (fun h => absurd h.1 (by decide)) (zz_rc fS30 rfl rfl (fun h => h) (zz_nwo qS28 (by decide) (zz_ro qS27 (fun h => absurd h.1 (by decide)) (zz_rc fS25 rfl rfl (fun h => h) (zz_nwo qS24 (by decide) (zz_ro qS23 (fun h => absurd h.1 (by decide)) (zz_rc fS22 rfl rfl (fun h => h) (zz_nwo qS20 (by decide) (zz_ro qS19 (fun h => absurd h.1 (by decide)) (zz_rc fS17 rfl rfl (fun h => h) (zz_nwo qS16 (by decide) (zz_ro qS15 (fun h => absurd h.1 (by decide)) (zz_ro qS14 (fun h => absurd h.1 (by decide)) (zz_nwo qS13 (by decide) (zz_ro qS12 (fun h => absurd h.1 (by decide)) (zz_nwo qS11 (by decide) (zz_ro qS10 (fun h => absurd h.1 (by decide)) (zz_rc fS8 rfl rfl (fun h => h) (zz_nwo qS7 (by decide) (zz_ro qS6 (fun h => absurd h.1 (by decide)) rfl))))))))))))))))))))))))))))))
  have g82 := trivial
  have e83 : S41 1003 9 = S3 1003 9 := (zz_ro qS41 (fun h => absurd h.1 (by decide)) (zz_rc fS40 rfl rfl (fun h => h) (zz_nwo qS39 (by decide) (zz_ro qS38 (fun h => absurd h.1 (by decide)) (zz_rc fS37 rfl rfl (fun h => h) (zz_nwo qS36 (by decide) (zz_ro qS35 (fun h => absurd h.1 (by decide)) (zz_rc fS34 rfl rfl (fun h => h) (zz_nwo qS32 (by decide) (zz_ro qS31 (fun h => absurd h.1 (by decide)) (zz_rc fS30 rfl rfl (fun h => h) (zz_nwo qS28 (by decide) (zz_ro qS27 (fun h => absurd h.1 (by decide)) (zz_rc fS25 rfl rfl (fun h => h) (zz_nwo qS24 (by decide) (zz_ro qS23 (fun h => absurd h.1 (by decide)) (zz_rc fS22 rfl rfl (fun h => h) (zz_nwo qS20 (by decide) (zz_ro qS19 (fun h => absurd h.1 (by decide)) (zz_rc fS17 rfl rfl (fun h => h) (zz_nwo qS16 (by decide) (zz_ro qS15 (fun h => absurd h.1 (by decide)) (zz_ro qS14 (fun h => absurd h.1 (by decide)) (zz_nwo qS13 (by decide) (zz_ro qS12 (fun h => absurd h.1 (by decide)) (zz_nwo qS11 (by decide) (zz_ro qS10 (fun h => absurd h.1 (by decide)) (zz_rc fS8 rfl rfl (fun h => h) (zz_nwo qS7 (by decide) (zz_ro qS6 (fun h => absurd h.1 (by decide)) rfl))))))))))))))))))))))))))))))
  have e84 : S41 1000 7 = 0 := (zz_ro qS41 (fun h => absurd h.2 (by decide)) (zz_rc fS40 rfl rfl (fun h => h) (zz_nwo qS39 (by decide) (zz_ro qS38 (fun h => absurd h.2 (by decide)) (zz_rc fS37 rfl rfl (fun h => h) (zz_nwo qS36 (by decide) (zz_ro qS35 (fun h => absurd h.2 (by decide)) (zz_rc fS34 rfl rfl (fun h => h) (zz_nwo qS32 (by decide) (zz_ro qS31 (fun h => absurd h.2 (by decide)) (zz_rc fS30 rfl rfl (fun h => h) (zz_nwo qS28 (by decide) (zz_ro qS27 (fun h => absurd h.2 (by decide)) (zz_rc fS25 rfl rfl (fun h => h) (zz_nwo qS24 (by decide) (zz_ro qS23 (fun h => absurd h.2 (by decide)) (zz_rc fS22 rfl rfl (fun h => h) (zz_nwo qS20 (by decide) (zz_ro qS19 (fun h => absurd h.2 (by decide)) (zz_rc fS17 rfl rfl (fun h => h) (zz_nwo qS16 (by decide) (zz_ro qS15 (fun h => absurd h.2 (by decide)) (zz_ro qS14 (fun h => absurd h.2 (by decide)) (zz_nwo qS13 (by decide) (zz_ro qS12 (fun h => absurd h.2 (by decide)) (zz_nwo qS11 (by decide) (zz_ro qS10 (fun h => absurd h.2 (by decide)) (zz_rc fS8 rfl rfl (fun h => h) (zz_nwo qS7 (by decide) (zz_rs qS6))))))))))))))))))))))))))))))
  have e85 : S41 1000 8 = 1 := (zz_ro qS41 (fun h => absurd h.2 (by decide)) (zz_rc fS40 rfl rfl (fun h => h) (zz_nwo qS39 (by decide) (zz_ro qS38 (fun h => absurd h.2 (by decide)) (zz_rc fS37 rfl rfl (fun h => h) (zz_nwo qS36 (by decide) (zz_ro qS35 (fun h => absurd h.2 (by decide)) (zz_rc fS34 rfl rfl (fun h => h) (zz_nwo qS32 (by decide) (zz_ro qS31 (fun h => absurd h.2 (by decide)) (zz_rc fS30 rfl rfl (fun h => h) (zz_nwo qS28 (by decide) (zz_ro qS27 (fun h => absurd h.2 (by decide)) (zz_rc fS25 rfl rfl (fun h => h) (zz_nwo qS24 (by decide) (zz_ro qS23 (fun h => absurd h.2 (by decide)) (zz_rc fS22 rfl rfl (fun h => h) (zz_nwo qS20 (by decide) (zz_ro qS19 (fun h => absurd h.2 (by decide)) (zz_rc fS17 rfl rfl (fun h => h) (zz_nwo qS16 (by decide) (zz_ro qS15 (fun h => absurd h.2 (by decide)) (zz_ro qS14 (fun h => absurd h.2 (by decide)) (zz_nwo qS13 (by decide) (zz_ro qS12 (fun h => absurd h.2 (by decide)) (zz_nwo qS11 (by decide) (zz_rs qS10)))))))))))))))))))))))))))
  exact zz_vret zd_1_1_146 rfl (Nat.le_of_ble_eq_true rfl) (Nat.le_of_ble_eq_true rfl) ⟨_, rfl, G_S41, F_S41, by omega, by omega, by omega, by omega, by omega, by omega⟩
abbrev zy_init_14_1 : mm_Y := (⟨"TensorForgeModel", "<init>", "()V"⟩, prog_14_method_1_code, 1, none)
theorem zyw_init_14_1 : mm_Yw zy_init_14_1 0 := ⟨mm_tb_1 1586 (by decide +kernel) rfl, mm_tb_1 12 (by decide +kernel) rfl, ⟨by decide, by decide⟩, by decide +kernel⟩
theorem zoi_Md_1 : Cond.methodLink "TensorForgeModel" 1 Lib.objectInit ∈ mm_tb := mm_tb_1 1587 (by decide +kernel) rfl
def zX_60 : List (Nat × Nat) := [(1079, 2), (1079, 3), (1079, 4), (1079, 5), (1079, 6), (1079, 8), (1079, 9), (1079, 11), (1079, 12), (1079, 13), (1079, 17), (1079, 18), (1079, 20), (1079, 21), (1079, 22), (1079, 23), (1079, 24), (1079, 25), (1079, 26), (1079, 27), (1079, 29), (1079, 35), (1079, 37), (1079, 38), (1079, 39), (1079, 40), (1079, 41), (1079, 42), (1079, 43), (1079, 44), (1079, 45), (1079, 46), (1079, 47), (1079, 48), (1079, 49), (1079, 58), (1079, 59), (1079, 62), (1079, 63), (1079, 67), (1079, 68)]
def zX_61 : List (Nat × Nat) := [(1079, 3), (1079, 4), (1079, 5), (1079, 6), (1079, 8), (1079, 9), (1079, 11), (1079, 12), (1079, 13), (1079, 17), (1079, 18), (1079, 20), (1079, 21), (1079, 22), (1079, 23), (1079, 24), (1079, 25), (1079, 26), (1079, 27), (1079, 29), (1079, 35), (1079, 37), (1079, 38), (1079, 39), (1079, 40), (1079, 41), (1079, 42), (1079, 43), (1079, 44), (1079, 45), (1079, 46), (1079, 47), (1079, 48), (1079, 49), (1079, 58), (1079, 59), (1079, 62), (1079, 63), (1079, 67), (1079, 68)]
def zX_62 : List (Nat × Nat) := [(1079, 4), (1079, 5), (1079, 6), (1079, 8), (1079, 9), (1079, 11), (1079, 12), (1079, 13), (1079, 17), (1079, 18), (1079, 20), (1079, 21), (1079, 22), (1079, 23), (1079, 24), (1079, 25), (1079, 26), (1079, 27), (1079, 29), (1079, 35), (1079, 37), (1079, 38), (1079, 39), (1079, 40), (1079, 41), (1079, 42), (1079, 43), (1079, 44), (1079, 45), (1079, 46), (1079, 47), (1079, 48), (1079, 49), (1079, 58), (1079, 59), (1079, 62), (1079, 63), (1079, 67), (1079, 68)]
def zX_63 : List (Nat × Nat) := [(1079, 5), (1079, 6), (1079, 8), (1079, 9), (1079, 11), (1079, 12), (1079, 13), (1079, 17), (1079, 18), (1079, 20), (1079, 21), (1079, 22), (1079, 23), (1079, 24), (1079, 25), (1079, 26), (1079, 27), (1079, 29), (1079, 35), (1079, 37), (1079, 38), (1079, 39), (1079, 40), (1079, 41), (1079, 42), (1079, 43), (1079, 44), (1079, 45), (1079, 46), (1079, 47), (1079, 48), (1079, 49), (1079, 58), (1079, 59), (1079, 62), (1079, 63), (1079, 67), (1079, 68)]
def zX_64 : List (Nat × Nat) := [(1079, 6), (1079, 8), (1079, 9), (1079, 11), (1079, 12), (1079, 13), (1079, 17), (1079, 18), (1079, 20), (1079, 21), (1079, 22), (1079, 23), (1079, 24), (1079, 25), (1079, 26), (1079, 27), (1079, 29), (1079, 35), (1079, 37), (1079, 38), (1079, 39), (1079, 40), (1079, 41), (1079, 42), (1079, 43), (1079, 44), (1079, 45), (1079, 46), (1079, 47), (1079, 48), (1079, 49), (1079, 58), (1079, 59), (1079, 62), (1079, 63), (1079, 67), (1079, 68)]
def zX_65 : List (Nat × Nat) := [(1079, 8), (1079, 9), (1079, 11), (1079, 12), (1079, 13), (1079, 17), (1079, 18), (1079, 20), (1079, 21), (1079, 22), (1079, 23), (1079, 24), (1079, 25), (1079, 26), (1079, 27), (1079, 29), (1079, 35), (1079, 37), (1079, 38), (1079, 39), (1079, 40), (1079, 41), (1079, 42), (1079, 43), (1079, 44), (1079, 45), (1079, 46), (1079, 47), (1079, 48), (1079, 49), (1079, 58), (1079, 59), (1079, 62), (1079, 63), (1079, 67), (1079, 68)]
def zX_66 : List (Nat × Nat) := [(1079, 9), (1079, 11), (1079, 12), (1079, 13), (1079, 17), (1079, 18), (1079, 20), (1079, 21), (1079, 22), (1079, 23), (1079, 24), (1079, 25), (1079, 26), (1079, 27), (1079, 29), (1079, 35), (1079, 37), (1079, 38), (1079, 39), (1079, 40), (1079, 41), (1079, 42), (1079, 43), (1079, 44), (1079, 45), (1079, 46), (1079, 47), (1079, 48), (1079, 49), (1079, 58), (1079, 59), (1079, 62), (1079, 63), (1079, 67), (1079, 68)]
def zX_67 : List (Nat × Nat) := [(1079, 11), (1079, 12), (1079, 13), (1079, 17), (1079, 18), (1079, 20), (1079, 21), (1079, 22), (1079, 23), (1079, 24), (1079, 25), (1079, 26), (1079, 27), (1079, 29), (1079, 35), (1079, 37), (1079, 38), (1079, 39), (1079, 40), (1079, 41), (1079, 42), (1079, 43), (1079, 44), (1079, 45), (1079, 46), (1079, 47), (1079, 48), (1079, 49), (1079, 58), (1079, 59), (1079, 62), (1079, 63), (1079, 67), (1079, 68)]
def zX_68 : List (Nat × Nat) := [(1079, 12), (1079, 13), (1079, 17), (1079, 18), (1079, 20), (1079, 21), (1079, 22), (1079, 23), (1079, 24), (1079, 25), (1079, 26), (1079, 27), (1079, 29), (1079, 35), (1079, 37), (1079, 38), (1079, 39), (1079, 40), (1079, 41), (1079, 42), (1079, 43), (1079, 44), (1079, 45), (1079, 46), (1079, 47), (1079, 48), (1079, 49), (1079, 58), (1079, 59), (1079, 62), (1079, 63), (1079, 67), (1079, 68)]
def zX_69 : List (Nat × Nat) := [(1079, 13), (1079, 17), (1079, 18), (1079, 20), (1079, 21), (1079, 22), (1079, 23), (1079, 24), (1079, 25), (1079, 26), (1079, 27), (1079, 29), (1079, 35), (1079, 37), (1079, 38), (1079, 39), (1079, 40), (1079, 41), (1079, 42), (1079, 43), (1079, 44), (1079, 45), (1079, 46), (1079, 47), (1079, 48), (1079, 49), (1079, 58), (1079, 59), (1079, 62), (1079, 63), (1079, 67), (1079, 68)]
def zX_70 : List (Nat × Nat) := [(1079, 17), (1079, 18), (1079, 20), (1079, 21), (1079, 22), (1079, 23), (1079, 24), (1079, 25), (1079, 26), (1079, 27), (1079, 29), (1079, 35), (1079, 37), (1079, 38), (1079, 39), (1079, 40), (1079, 41), (1079, 42), (1079, 43), (1079, 44), (1079, 45), (1079, 46), (1079, 47), (1079, 48), (1079, 49), (1079, 58), (1079, 59), (1079, 62), (1079, 63), (1079, 67), (1079, 68)]
def zX_71 : List (Nat × Nat) := [(1079, 18), (1079, 20), (1079, 21), (1079, 22), (1079, 23), (1079, 24), (1079, 25), (1079, 26), (1079, 27), (1079, 29), (1079, 35), (1079, 37), (1079, 38), (1079, 39), (1079, 40), (1079, 41), (1079, 42), (1079, 43), (1079, 44), (1079, 45), (1079, 46), (1079, 47), (1079, 48), (1079, 49), (1079, 58), (1079, 59), (1079, 62), (1079, 63), (1079, 67), (1079, 68)]
def zX_72 : List (Nat × Nat) := [(1079, 20), (1079, 21), (1079, 22), (1079, 23), (1079, 24), (1079, 25), (1079, 26), (1079, 27), (1079, 29), (1079, 35), (1079, 37), (1079, 38), (1079, 39), (1079, 40), (1079, 41), (1079, 42), (1079, 43), (1079, 44), (1079, 45), (1079, 46), (1079, 47), (1079, 48), (1079, 49), (1079, 58), (1079, 59), (1079, 62), (1079, 63), (1079, 67), (1079, 68)]
def zX_73 : List (Nat × Nat) := [(1079, 21), (1079, 22), (1079, 23), (1079, 24), (1079, 25), (1079, 26), (1079, 27), (1079, 29), (1079, 35), (1079, 37), (1079, 38), (1079, 39), (1079, 40), (1079, 41), (1079, 42), (1079, 43), (1079, 44), (1079, 45), (1079, 46), (1079, 47), (1079, 48), (1079, 49), (1079, 58), (1079, 59), (1079, 62), (1079, 63), (1079, 67), (1079, 68)]
def zX_74 : List (Nat × Nat) := [(1079, 22), (1079, 23), (1079, 24), (1079, 25), (1079, 26), (1079, 27), (1079, 29), (1079, 35), (1079, 37), (1079, 38), (1079, 39), (1079, 40), (1079, 41), (1079, 42), (1079, 43), (1079, 44), (1079, 45), (1079, 46), (1079, 47), (1079, 48), (1079, 49), (1079, 58), (1079, 59), (1079, 62), (1079, 63), (1079, 67), (1079, 68)]
def zX_75 : List (Nat × Nat) := [(1079, 23), (1079, 24), (1079, 25), (1079, 26), (1079, 27), (1079, 29), (1079, 35), (1079, 37), (1079, 38), (1079, 39), (1079, 40), (1079, 41), (1079, 42), (1079, 43), (1079, 44), (1079, 45), (1079, 46), (1079, 47), (1079, 48), (1079, 49), (1079, 58), (1079, 59), (1079, 62), (1079, 63), (1079, 67), (1079, 68)]
def zX_76 : List (Nat × Nat) := [(1079, 24), (1079, 25), (1079, 26), (1079, 27), (1079, 29), (1079, 35), (1079, 37), (1079, 38), (1079, 39), (1079, 40), (1079, 41), (1079, 42), (1079, 43), (1079, 44), (1079, 45), (1079, 46), (1079, 47), (1079, 48), (1079, 49), (1079, 58), (1079, 59), (1079, 62), (1079, 63), (1079, 67), (1079, 68)]
def zX_77 : List (Nat × Nat) := [(1079, 25), (1079, 26), (1079, 27), (1079, 29), (1079, 35), (1079, 37), (1079, 38), (1079, 39), (1079, 40), (1079, 41), (1079, 42), (1079, 43), (1079, 44), (1079, 45), (1079, 46), (1079, 47), (1079, 48), (1079, 49), (1079, 58), (1079, 59), (1079, 62), (1079, 63), (1079, 67), (1079, 68)]
def zX_78 : List (Nat × Nat) := [(1079, 26), (1079, 27), (1079, 29), (1079, 35), (1079, 37), (1079, 38), (1079, 39), (1079, 40), (1079, 41), (1079, 42), (1079, 43), (1079, 44), (1079, 45), (1079, 46), (1079, 47), (1079, 48), (1079, 49), (1079, 58), (1079, 59), (1079, 62), (1079, 63), (1079, 67), (1079, 68)]
def zX_79 : List (Nat × Nat) := [(1079, 27), (1079, 29), (1079, 35), (1079, 37), (1079, 38), (1079, 39), (1079, 40), (1079, 41), (1079, 42), (1079, 43), (1079, 44), (1079, 45), (1079, 46), (1079, 47), (1079, 48), (1079, 49), (1079, 58), (1079, 59), (1079, 62), (1079, 63), (1079, 67), (1079, 68)]
def zX_80 : List (Nat × Nat) := [(1079, 29), (1079, 35), (1079, 37), (1079, 38), (1079, 39), (1079, 40), (1079, 41), (1079, 42), (1079, 43), (1079, 44), (1079, 45), (1079, 46), (1079, 47), (1079, 48), (1079, 49), (1079, 58), (1079, 59), (1079, 62), (1079, 63), (1079, 67), (1079, 68)]
def zX_81 : List (Nat × Nat) := [(1079, 35), (1079, 37), (1079, 38), (1079, 39), (1079, 40), (1079, 41), (1079, 42), (1079, 43), (1079, 44), (1079, 45), (1079, 46), (1079, 47), (1079, 48), (1079, 49), (1079, 58), (1079, 59), (1079, 62), (1079, 63), (1079, 67), (1079, 68)]
def zX_82 : List (Nat × Nat) := [(1079, 37), (1079, 38), (1079, 39), (1079, 40), (1079, 41), (1079, 42), (1079, 43), (1079, 44), (1079, 45), (1079, 46), (1079, 47), (1079, 48), (1079, 49), (1079, 58), (1079, 59), (1079, 62), (1079, 63), (1079, 67), (1079, 68)]
def zX_83 : List (Nat × Nat) := [(1079, 38), (1079, 39), (1079, 40), (1079, 41), (1079, 42), (1079, 43), (1079, 44), (1079, 45), (1079, 46), (1079, 47), (1079, 48), (1079, 49), (1079, 58), (1079, 59), (1079, 62), (1079, 63), (1079, 67), (1079, 68)]
def zX_84 : List (Nat × Nat) := [(1079, 39), (1079, 40), (1079, 41), (1079, 42), (1079, 43), (1079, 44), (1079, 45), (1079, 46), (1079, 47), (1079, 48), (1079, 49), (1079, 58), (1079, 59), (1079, 62), (1079, 63), (1079, 67), (1079, 68)]
def zX_85 : List (Nat × Nat) := [(1079, 40), (1079, 41), (1079, 42), (1079, 43), (1079, 44), (1079, 45), (1079, 46), (1079, 47), (1079, 48), (1079, 49), (1079, 58), (1079, 59), (1079, 62), (1079, 63), (1079, 67), (1079, 68)]
def zX_86 : List (Nat × Nat) := [(1079, 41), (1079, 42), (1079, 43), (1079, 44), (1079, 45), (1079, 46), (1079, 47), (1079, 48), (1079, 49), (1079, 58), (1079, 59), (1079, 62), (1079, 63), (1079, 67), (1079, 68)]
def zX_87 : List (Nat × Nat) := [(1079, 42), (1079, 43), (1079, 44), (1079, 45), (1079, 46), (1079, 47), (1079, 48), (1079, 49), (1079, 58), (1079, 59), (1079, 62), (1079, 63), (1079, 67), (1079, 68)]
def zX_88 : List (Nat × Nat) := [(1079, 43), (1079, 44), (1079, 45), (1079, 46), (1079, 47), (1079, 48), (1079, 49), (1079, 58), (1079, 59), (1079, 62), (1079, 63), (1079, 67), (1079, 68)]
def zX_89 : List (Nat × Nat) := [(1079, 44), (1079, 45), (1079, 46), (1079, 47), (1079, 48), (1079, 49), (1079, 58), (1079, 59), (1079, 62), (1079, 63), (1079, 67), (1079, 68)]
def zX_90 : List (Nat × Nat) := [(1079, 45), (1079, 46), (1079, 47), (1079, 48), (1079, 49), (1079, 58), (1079, 59), (1079, 62), (1079, 63), (1079, 67), (1079, 68)]
def zX_91 : List (Nat × Nat) := [(1079, 46), (1079, 47), (1079, 48), (1079, 49), (1079, 58), (1079, 59), (1079, 62), (1079, 63), (1079, 67), (1079, 68)]
def zX_92 : List (Nat × Nat) := [(1079, 47), (1079, 48), (1079, 49), (1079, 58), (1079, 59), (1079, 62), (1079, 63), (1079, 67), (1079, 68)]
def zX_93 : List (Nat × Nat) := [(1079, 48), (1079, 49), (1079, 58), (1079, 59), (1079, 62), (1079, 63), (1079, 67), (1079, 68)]
def zX_94 : List (Nat × Nat) := [(1079, 49), (1079, 58), (1079, 59), (1079, 62), (1079, 63), (1079, 67), (1079, 68)]
def zX_95 : List (Nat × Nat) := [(1079, 58), (1079, 59), (1079, 62), (1079, 63), (1079, 67), (1079, 68)]
def zX_96 : List (Nat × Nat) := [(1079, 59), (1079, 62), (1079, 63), (1079, 67), (1079, 68)]
def zX_97 : List (Nat × Nat) := [(1079, 62), (1079, 63), (1079, 67), (1079, 68)]
def zX_98 : List (Nat × Nat) := [(1079, 63), (1079, 67), (1079, 68)]
theorem zz_ite0 {c : Prop} [Decidable c] {a b : Int} (ha : 0 ≤ a) (hb : 0 ≤ b) : 0 ≤ (if c then a else b) := by split <;> assumption
theorem zz_kh1119 (i : Nat) : (0 : Int) ≤ (if i < 12 then (63 : Int) else if i < 24 then 63 else if i < 36 then 63 else if i < 37 then 0 else if i < 48 then 10000000 else if i < 59 then 2 else if i < 70 then 10 else if i < 81 then 10 else if i < 92 then 3 else if i < 103 then 3 else if i < 114 then 3 else if i < 125 then 1 else if i < 136 then 31 else 4096) := (zz_ite0 (by decide) (zz_ite0 (by decide) (zz_ite0 (by decide) (zz_ite0 (by decide) (zz_ite0 (by decide) (zz_ite0 (by decide) (zz_ite0 (by decide) (zz_ite0 (by decide) (zz_ite0 (by decide) (zz_ite0 (by decide) (zz_ite0 (by decide) (zz_ite0 (by decide) (zz_ite0 (by decide) (by decide))))))))))))))
theorem zz_kq1119 (i : Nat) : (zz_rg 1119 i).2 = (if i < 12 then (63 : Int) else if i < 24 then 63 else if i < 36 then 63 else if i < 37 then 0 else if i < 48 then 10000000 else if i < 59 then 2 else if i < 70 then 10 else if i < 81 then 10 else if i < 92 then 3 else if i < 103 then 3 else if i < 114 then 3 else if i < 125 then 1 else if i < 136 then 31 else 4096) := rfl
theorem zz_kr1119 (i : Nat) : (0 : Int) ≤ (zz_rg 1119 i).2 := by rw [zz_kq1119]; exact zz_kh1119 i
theorem zq_Md_145 : Cond.constantLong "TensorForgeModel" 145 (20328611 : Int64) ∈ mm_tb := mm_tb_1 1588 (by decide +kernel) rfl
theorem zq_Md_147 : Cond.constantLong "TensorForgeModel" 147 (21080810679 : Int64) ∈ mm_tb := mm_tb_1 1589 (by decide +kernel) rfl
theorem zq_Md_149 : Cond.constantLong "TensorForgeModel" 149 (18912643 : Int64) ∈ mm_tb := mm_tb_1 1590 (by decide +kernel) rfl
theorem zq_Md_151 : Cond.constantLong "TensorForgeModel" 151 (636595 : Int64) ∈ mm_tb := mm_tb_1 1591 (by decide +kernel) rfl
theorem zq_Md_153 : Cond.constantLong "TensorForgeModel" 153 (872425337517 : Int64) ∈ mm_tb := mm_tb_1 1592 (by decide +kernel) rfl
theorem zq_Md_155 : Cond.constantLong "TensorForgeModel" 155 (5847987683 : Int64) ∈ mm_tb := mm_tb_1 1593 (by decide +kernel) rfl
theorem zq_Md_157 : Cond.constantLong "TensorForgeModel" 157 (788088878 : Int64) ∈ mm_tb := mm_tb_1 1594 (by decide +kernel) rfl
theorem zq_Md_159 : Cond.constantLong "TensorForgeModel" 159 (5848723 : Int64) ∈ mm_tb := mm_tb_1 1595 (by decide +kernel) rfl
theorem zq_Md_161 : Cond.constantLong "TensorForgeModel" 161 (664631 : Int64) ∈ mm_tb := mm_tb_1 1596 (by decide +kernel) rfl
theorem zq_Md_173 : Cond.constantLong "TensorForgeModel" 173 (14 : Int64) ∈ mm_tb := mm_tb_1 1602 (by decide +kernel) rfl
theorem zq_Md_175 : Cond.constantLong "TensorForgeModel" 175 (16880 : Int64) ∈ mm_tb := mm_tb_1 1603 (by decide +kernel) rfl
theorem zq_Md_177 : Cond.constantLong "TensorForgeModel" 177 (282288 : Int64) ∈ mm_tb := mm_tb_1 1604 (by decide +kernel) rfl
theorem zq_Md_179 : Cond.constantLong "TensorForgeModel" 179 (187144354 : Int64) ∈ mm_tb := mm_tb_1 1605 (by decide +kernel) rfl
theorem zq_Md_181 : Cond.constantLong "TensorForgeModel" 181 (149201058 : Int64) ∈ mm_tb := mm_tb_1 1606 (by decide +kernel) rfl
theorem zg_14_1_0 : zq_at zy_init_14_1.2.1 0 42 ∧ zq_at zy_init_14_1.2.1 1 183 ∧ zq_at zy_init_14_1.2.1 2 0 ∧ zq_at zy_init_14_1.2.1 3 1 ∧ zq_at zy_init_14_1.2.1 4 42 ∧ zq_at zy_init_14_1.2.1 5 5 ∧ zq_at zy_init_14_1.2.1 6 181 ∧ zq_at zy_init_14_1.2.1 7 0 ∧ zq_at zy_init_14_1.2.1 8 7 ∧ zq_at zy_init_14_1.2.1 9 42 ∧ zq_at zy_init_14_1.2.1 10 17 ∧ zq_at zy_init_14_1.2.1 11 16 ∧ zq_at zy_init_14_1.2.1 12 0 ∧ zq_at zy_init_14_1.2.1 13 188 ∧ zq_at zy_init_14_1.2.1 14 10 ∧ zq_at zy_init_14_1.2.1 15 181 ∧ zq_at zy_init_14_1.2.1 16 0 ∧ zq_at zy_init_14_1.2.1 17 13 ∧ zq_at zy_init_14_1.2.1 18 42 ∧ zq_at zy_init_14_1.2.1 19 17 ∧ zq_at zy_init_14_1.2.1 20 2 ∧ zq_at zy_init_14_1.2.1 21 0 ∧ zq_at zy_init_14_1.2.1 22 188 ∧ zq_at zy_init_14_1.2.1 23 10 := by decide +kernel
theorem zd_14_1_0 : zz_D zy_init_14_1 0 (.aload_n 0) 1 1 := ⟨zq_42 zg_14_1_0.1, rfl⟩
theorem zd_14_1_1 : zz_D zy_init_14_1 1 (.invokespecial 1) 3 4 := ⟨zq_183 zg_14_1_0.2.1 zg_14_1_0.2.2.1 zg_14_1_0.2.2.2.1 rfl, rfl⟩
theorem zd_14_1_4 : zz_D zy_init_14_1 4 (.aload_n 0) 1 5 := ⟨zq_42 zg_14_1_0.2.2.2.2.1, rfl⟩
theorem zd_14_1_5 : zz_D zy_init_14_1 5 (.iconst 2) 1 6 := ⟨zq_5 zg_14_1_0.2.2.2.2.2.1, rfl⟩
theorem zd_14_1_6 : zz_D zy_init_14_1 6 (.putfield 7) 3 9 := ⟨zq_181 zg_14_1_0.2.2.2.2.2.2.1 zg_14_1_0.2.2.2.2.2.2.2.1 zg_14_1_0.2.2.2.2.2.2.2.2.1 rfl, rfl⟩
theorem zd_14_1_9 : zz_D zy_init_14_1 9 (.aload_n 0) 1 10 := ⟨zq_42 zg_14_1_0.2.2.2.2.2.2.2.2.2.1, rfl⟩
theorem zd_14_1_10 : zz_D zy_init_14_1 10 (.sipush 4096) 3 13 := ⟨zq_17 zg_14_1_0.2.2.2.2.2.2.2.2.2.2.1 zg_14_1_0.2.2.2.2.2.2.2.2.2.2.2.1 zg_14_1_0.2.2.2.2.2.2.2.2.2.2.2.2.1 (by decide), rfl⟩
theorem zd_14_1_13 : zz_D zy_init_14_1 13 (.newarray .int) 2 15 := ⟨zq_188_10 zg_14_1_0.2.2.2.2.2.2.2.2.2.2.2.2.2.1 zg_14_1_0.2.2.2.2.2.2.2.2.2.2.2.2.2.2.1, rfl⟩
theorem zd_14_1_15 : zz_D zy_init_14_1 15 (.putfield 13) 3 18 := ⟨zq_181 zg_14_1_0.2.2.2.2.2.2.2.2.2.2.2.2.2.2.2.1 zg_14_1_0.2.2.2.2.2.2.2.2.2.2.2.2.2.2.2.2.1 zg_14_1_0.2.2.2.2.2.2.2.2.2.2.2.2.2.2.2.2.2.1 rfl, rfl⟩
theorem zd_14_1_18 : zz_D zy_init_14_1 18 (.aload_n 0) 1 19 := ⟨zq_42 zg_14_1_0.2.2.2.2.2.2.2.2.2.2.2.2.2.2.2.2.2.2.1, rfl⟩
theorem zd_14_1_19 : zz_D zy_init_14_1 19 (.sipush 512) 3 22 := ⟨zq_17 zg_14_1_0.2.2.2.2.2.2.2.2.2.2.2.2.2.2.2.2.2.2.2.1 zg_14_1_0.2.2.2.2.2.2.2.2.2.2.2.2.2.2.2.2.2.2.2.2.1 zg_14_1_0.2.2.2.2.2.2.2.2.2.2.2.2.2.2.2.2.2.2.2.2.2.1 (by decide), rfl⟩
theorem zd_14_1_22 : zz_D zy_init_14_1 22 (.newarray .int) 2 24 := ⟨zq_188_10 zg_14_1_0.2.2.2.2.2.2.2.2.2.2.2.2.2.2.2.2.2.2.2.2.2.2.1 zg_14_1_0.2.2.2.2.2.2.2.2.2.2.2.2.2.2.2.2.2.2.2.2.2.2.2, rfl⟩
theorem zg_14_1_24 : zq_at zy_init_14_1.2.1 24 181 ∧ zq_at zy_init_14_1.2.1 25 0 ∧ zq_at zy_init_14_1.2.1 26 17 ∧ zq_at zy_init_14_1.2.1 27 42 ∧ zq_at zy_init_14_1.2.1 28 17 ∧ zq_at zy_init_14_1.2.1 29 2 ∧ zq_at zy_init_14_1.2.1 30 0 ∧ zq_at zy_init_14_1.2.1 31 188 ∧ zq_at zy_init_14_1.2.1 32 10 ∧ zq_at zy_init_14_1.2.1 33 181 ∧ zq_at zy_init_14_1.2.1 34 0 ∧ zq_at zy_init_14_1.2.1 35 20 ∧ zq_at zy_init_14_1.2.1 36 42 ∧ zq_at zy_init_14_1.2.1 37 17 ∧ zq_at zy_init_14_1.2.1 38 1 ∧ zq_at zy_init_14_1.2.1 39 0 ∧ zq_at zy_init_14_1.2.1 40 188 ∧ zq_at zy_init_14_1.2.1 41 10 ∧ zq_at zy_init_14_1.2.1 42 181 ∧ zq_at zy_init_14_1.2.1 43 0 ∧ zq_at zy_init_14_1.2.1 44 23 ∧ zq_at zy_init_14_1.2.1 45 42 := by decide +kernel
theorem zd_14_1_24 : zz_D zy_init_14_1 24 (.putfield 17) 3 27 := ⟨zq_181 zg_14_1_24.1 zg_14_1_24.2.1 zg_14_1_24.2.2.1 rfl, rfl⟩
theorem zd_14_1_27 : zz_D zy_init_14_1 27 (.aload_n 0) 1 28 := ⟨zq_42 zg_14_1_24.2.2.2.1, rfl⟩
theorem zd_14_1_28 : zz_D zy_init_14_1 28 (.sipush 512) 3 31 := ⟨zq_17 zg_14_1_24.2.2.2.2.1 zg_14_1_24.2.2.2.2.2.1 zg_14_1_24.2.2.2.2.2.2.1 (by decide), rfl⟩
theorem zd_14_1_31 : zz_D zy_init_14_1 31 (.newarray .int) 2 33 := ⟨zq_188_10 zg_14_1_24.2.2.2.2.2.2.2.1 zg_14_1_24.2.2.2.2.2.2.2.2.1, rfl⟩
theorem zd_14_1_33 : zz_D zy_init_14_1 33 (.putfield 20) 3 36 := ⟨zq_181 zg_14_1_24.2.2.2.2.2.2.2.2.2.1 zg_14_1_24.2.2.2.2.2.2.2.2.2.2.1 zg_14_1_24.2.2.2.2.2.2.2.2.2.2.2.1 rfl, rfl⟩
theorem zd_14_1_36 : zz_D zy_init_14_1 36 (.aload_n 0) 1 37 := ⟨zq_42 zg_14_1_24.2.2.2.2.2.2.2.2.2.2.2.2.1, rfl⟩
theorem zd_14_1_37 : zz_D zy_init_14_1 37 (.sipush 256) 3 40 := ⟨zq_17 zg_14_1_24.2.2.2.2.2.2.2.2.2.2.2.2.2.1 zg_14_1_24.2.2.2.2.2.2.2.2.2.2.2.2.2.2.1 zg_14_1_24.2.2.2.2.2.2.2.2.2.2.2.2.2.2.2.1 (by decide), rfl⟩
theorem zd_14_1_40 : zz_D zy_init_14_1 40 (.newarray .int) 2 42 := ⟨zq_188_10 zg_14_1_24.2.2.2.2.2.2.2.2.2.2.2.2.2.2.2.2.1 zg_14_1_24.2.2.2.2.2.2.2.2.2.2.2.2.2.2.2.2.2.1, rfl⟩
theorem zd_14_1_42 : zz_D zy_init_14_1 42 (.putfield 23) 3 45 := ⟨zq_181 zg_14_1_24.2.2.2.2.2.2.2.2.2.2.2.2.2.2.2.2.2.2.1 zg_14_1_24.2.2.2.2.2.2.2.2.2.2.2.2.2.2.2.2.2.2.2.1 zg_14_1_24.2.2.2.2.2.2.2.2.2.2.2.2.2.2.2.2.2.2.2.2.1 rfl, rfl⟩
theorem zd_14_1_45 : zz_D zy_init_14_1 45 (.aload_n 0) 1 46 := ⟨zq_42 zg_14_1_24.2.2.2.2.2.2.2.2.2.2.2.2.2.2.2.2.2.2.2.2.2, rfl⟩
theorem zg_14_1_46 : zq_at zy_init_14_1.2.1 46 17 ∧ zq_at zy_init_14_1.2.1 47 1 ∧ zq_at zy_init_14_1.2.1 48 0 ∧ zq_at zy_init_14_1.2.1 49 188 ∧ zq_at zy_init_14_1.2.1 50 10 ∧ zq_at zy_init_14_1.2.1 51 181 ∧ zq_at zy_init_14_1.2.1 52 0 ∧ zq_at zy_init_14_1.2.1 53 26 ∧ zq_at zy_init_14_1.2.1 54 42 ∧ zq_at zy_init_14_1.2.1 55 17 ∧ zq_at zy_init_14_1.2.1 56 2 ∧ zq_at zy_init_14_1.2.1 57 89 ∧ zq_at zy_init_14_1.2.1 58 188 ∧ zq_at zy_init_14_1.2.1 59 11 ∧ zq_at zy_init_14_1.2.1 60 181 ∧ zq_at zy_init_14_1.2.1 61 0 ∧ zq_at zy_init_14_1.2.1 62 29 ∧ zq_at zy_init_14_1.2.1 63 42 ∧ zq_at zy_init_14_1.2.1 64 17 ∧ zq_at zy_init_14_1.2.1 65 2 ∧ zq_at zy_init_14_1.2.1 66 89 ∧ zq_at zy_init_14_1.2.1 67 188 ∧ zq_at zy_init_14_1.2.1 68 11 := by decide +kernel
theorem zd_14_1_46 : zz_D zy_init_14_1 46 (.sipush 256) 3 49 := ⟨zq_17 zg_14_1_46.1 zg_14_1_46.2.1 zg_14_1_46.2.2.1 (by decide), rfl⟩
theorem zd_14_1_49 : zz_D zy_init_14_1 49 (.newarray .int) 2 51 := ⟨zq_188_10 zg_14_1_46.2.2.2.1 zg_14_1_46.2.2.2.2.1, rfl⟩
theorem zd_14_1_51 : zz_D zy_init_14_1 51 (.putfield 26) 3 54 := ⟨zq_181 zg_14_1_46.2.2.2.2.2.1 zg_14_1_46.2.2.2.2.2.2.1 zg_14_1_46.2.2.2.2.2.2.2.1 rfl, rfl⟩
theorem zd_14_1_54 : zz_D zy_init_14_1 54 (.aload_n 0) 1 55 := ⟨zq_42 zg_14_1_46.2.2.2.2.2.2.2.2.1, rfl⟩
theorem zd_14_1_55 : zz_D zy_init_14_1 55 (.sipush 601) 3 58 := ⟨zq_17 zg_14_1_46.2.2.2.2.2.2.2.2.2.1 zg_14_1_46.2.2.2.2.2.2.2.2.2.2.1 zg_14_1_46.2.2.2.2.2.2.2.2.2.2.2.1 (by decide), rfl⟩
theorem zd_14_1_58 : zz_D zy_init_14_1 58 (.newarray .long) 2 60 := ⟨zq_188_11 zg_14_1_46.2.2.2.2.2.2.2.2.2.2.2.2.1 zg_14_1_46.2.2.2.2.2.2.2.2.2.2.2.2.2.1, rfl⟩
theorem zd_14_1_60 : zz_D zy_init_14_1 60 (.putfield 29) 3 63 := ⟨zq_181 zg_14_1_46.2.2.2.2.2.2.2.2.2.2.2.2.2.2.1 zg_14_1_46.2.2.2.2.2.2.2.2.2.2.2.2.2.2.2.1 zg_14_1_46.2.2.2.2.2.2.2.2.2.2.2.2.2.2.2.2.1 rfl, rfl⟩
theorem zd_14_1_63 : zz_D zy_init_14_1 63 (.aload_n 0) 1 64 := ⟨zq_42 zg_14_1_46.2.2.2.2.2.2.2.2.2.2.2.2.2.2.2.2.2.1, rfl⟩
theorem zd_14_1_64 : zz_D zy_init_14_1 64 (.sipush 601) 3 67 := ⟨zq_17 zg_14_1_46.2.2.2.2.2.2.2.2.2.2.2.2.2.2.2.2.2.2.1 zg_14_1_46.2.2.2.2.2.2.2.2.2.2.2.2.2.2.2.2.2.2.2.1 zg_14_1_46.2.2.2.2.2.2.2.2.2.2.2.2.2.2.2.2.2.2.2.2.1 (by decide), rfl⟩
theorem zd_14_1_67 : zz_D zy_init_14_1 67 (.newarray .long) 2 69 := ⟨zq_188_11 zg_14_1_46.2.2.2.2.2.2.2.2.2.2.2.2.2.2.2.2.2.2.2.2.2.1 zg_14_1_46.2.2.2.2.2.2.2.2.2.2.2.2.2.2.2.2.2.2.2.2.2.2, rfl⟩
theorem zg_14_1_69 : zq_at zy_init_14_1.2.1 69 181 ∧ zq_at zy_init_14_1.2.1 70 0 ∧ zq_at zy_init_14_1.2.1 71 33 ∧ zq_at zy_init_14_1.2.1 72 42 ∧ zq_at zy_init_14_1.2.1 73 16 ∧ zq_at zy_init_14_1.2.1 74 12 ∧ zq_at zy_init_14_1.2.1 75 188 ∧ zq_at zy_init_14_1.2.1 76 10 ∧ zq_at zy_init_14_1.2.1 77 181 ∧ zq_at zy_init_14_1.2.1 78 0 ∧ zq_at zy_init_14_1.2.1 79 36 ∧ zq_at zy_init_14_1.2.1 80 42 ∧ zq_at zy_init_14_1.2.1 81 16 ∧ zq_at zy_init_14_1.2.1 82 10 ∧ zq_at zy_init_14_1.2.1 83 188 ∧ zq_at zy_init_14_1.2.1 84 10 ∧ zq_at zy_init_14_1.2.1 85 181 ∧ zq_at zy_init_14_1.2.1 86 0 ∧ zq_at zy_init_14_1.2.1 87 39 ∧ zq_at zy_init_14_1.2.1 88 42 ∧ zq_at zy_init_14_1.2.1 89 16 ∧ zq_at zy_init_14_1.2.1 90 10 ∧ zq_at zy_init_14_1.2.1 91 188 ∧ zq_at zy_init_14_1.2.1 92 10 := by decide +kernel
theorem zd_14_1_69 : zz_D zy_init_14_1 69 (.putfield 33) 3 72 := ⟨zq_181 zg_14_1_69.1 zg_14_1_69.2.1 zg_14_1_69.2.2.1 rfl, rfl⟩
theorem zd_14_1_72 : zz_D zy_init_14_1 72 (.aload_n 0) 1 73 := ⟨zq_42 zg_14_1_69.2.2.2.1, rfl⟩
theorem zd_14_1_73 : zz_D zy_init_14_1 73 (.bipush 12) 2 75 := ⟨zq_16 zg_14_1_69.2.2.2.2.1 zg_14_1_69.2.2.2.2.2.1 (by decide), rfl⟩
theorem zd_14_1_75 : zz_D zy_init_14_1 75 (.newarray .int) 2 77 := ⟨zq_188_10 zg_14_1_69.2.2.2.2.2.2.1 zg_14_1_69.2.2.2.2.2.2.2.1, rfl⟩
theorem zd_14_1_77 : zz_D zy_init_14_1 77 (.putfield 36) 3 80 := ⟨zq_181 zg_14_1_69.2.2.2.2.2.2.2.2.1 zg_14_1_69.2.2.2.2.2.2.2.2.2.1 zg_14_1_69.2.2.2.2.2.2.2.2.2.2.1 rfl, rfl⟩
theorem zd_14_1_80 : zz_D zy_init_14_1 80 (.aload_n 0) 1 81 := ⟨zq_42 zg_14_1_69.2.2.2.2.2.2.2.2.2.2.2.1, rfl⟩
theorem zd_14_1_81 : zz_D zy_init_14_1 81 (.bipush 10) 2 83 := ⟨zq_16 zg_14_1_69.2.2.2.2.2.2.2.2.2.2.2.2.1 zg_14_1_69.2.2.2.2.2.2.2.2.2.2.2.2.2.1 (by decide), rfl⟩
theorem zd_14_1_83 : zz_D zy_init_14_1 83 (.newarray .int) 2 85 := ⟨zq_188_10 zg_14_1_69.2.2.2.2.2.2.2.2.2.2.2.2.2.2.1 zg_14_1_69.2.2.2.2.2.2.2.2.2.2.2.2.2.2.2.1, rfl⟩
theorem zd_14_1_85 : zz_D zy_init_14_1 85 (.putfield 39) 3 88 := ⟨zq_181 zg_14_1_69.2.2.2.2.2.2.2.2.2.2.2.2.2.2.2.2.1 zg_14_1_69.2.2.2.2.2.2.2.2.2.2.2.2.2.2.2.2.2.1 zg_14_1_69.2.2.2.2.2.2.2.2.2.2.2.2.2.2.2.2.2.2.1 rfl, rfl⟩
theorem zd_14_1_88 : zz_D zy_init_14_1 88 (.aload_n 0) 1 89 := ⟨zq_42 zg_14_1_69.2.2.2.2.2.2.2.2.2.2.2.2.2.2.2.2.2.2.2.1, rfl⟩
theorem zd_14_1_89 : zz_D zy_init_14_1 89 (.bipush 10) 2 91 := ⟨zq_16 zg_14_1_69.2.2.2.2.2.2.2.2.2.2.2.2.2.2.2.2.2.2.2.2.1 zg_14_1_69.2.2.2.2.2.2.2.2.2.2.2.2.2.2.2.2.2.2.2.2.2.1 (by decide), rfl⟩
theorem zd_14_1_91 : zz_D zy_init_14_1 91 (.newarray .int) 2 93 := ⟨zq_188_10 zg_14_1_69.2.2.2.2.2.2.2.2.2.2.2.2.2.2.2.2.2.2.2.2.2.2.1 zg_14_1_69.2.2.2.2.2.2.2.2.2.2.2.2.2.2.2.2.2.2.2.2.2.2.2, rfl⟩
theorem zg_14_1_93 : zq_at zy_init_14_1.2.1 93 181 ∧ zq_at zy_init_14_1.2.1 94 0 ∧ zq_at zy_init_14_1.2.1 95 42 ∧ zq_at zy_init_14_1.2.1 96 42 ∧ zq_at zy_init_14_1.2.1 97 2 ∧ zq_at zy_init_14_1.2.1 98 181 ∧ zq_at zy_init_14_1.2.1 99 0 ∧ zq_at zy_init_14_1.2.1 100 45 ∧ zq_at zy_init_14_1.2.1 101 42 ∧ zq_at zy_init_14_1.2.1 102 6 ∧ zq_at zy_init_14_1.2.1 103 188 ∧ zq_at zy_init_14_1.2.1 104 10 ∧ zq_at zy_init_14_1.2.1 105 181 ∧ zq_at zy_init_14_1.2.1 106 0 ∧ zq_at zy_init_14_1.2.1 107 48 ∧ zq_at zy_init_14_1.2.1 108 42 ∧ zq_at zy_init_14_1.2.1 109 7 ∧ zq_at zy_init_14_1.2.1 110 188 ∧ zq_at zy_init_14_1.2.1 111 10 ∧ zq_at zy_init_14_1.2.1 112 181 ∧ zq_at zy_init_14_1.2.1 113 0 ∧ zq_at zy_init_14_1.2.1 114 51 ∧ zq_at zy_init_14_1.2.1 115 42 := by decide +kernel
theorem zd_14_1_93 : zz_D zy_init_14_1 93 (.putfield 42) 3 96 := ⟨zq_181 zg_14_1_93.1 zg_14_1_93.2.1 zg_14_1_93.2.2.1 rfl, rfl⟩
theorem zd_14_1_96 : zz_D zy_init_14_1 96 (.aload_n 0) 1 97 := ⟨zq_42 zg_14_1_93.2.2.2.1, rfl⟩
theorem zd_14_1_97 : zz_D zy_init_14_1 97 (.iconst (-1)) 1 98 := ⟨zq_2 zg_14_1_93.2.2.2.2.1, rfl⟩
theorem zd_14_1_98 : zz_D zy_init_14_1 98 (.putfield 45) 3 101 := ⟨zq_181 zg_14_1_93.2.2.2.2.2.1 zg_14_1_93.2.2.2.2.2.2.1 zg_14_1_93.2.2.2.2.2.2.2.1 rfl, rfl⟩
theorem zd_14_1_101 : zz_D zy_init_14_1 101 (.aload_n 0) 1 102 := ⟨zq_42 zg_14_1_93.2.2.2.2.2.2.2.2.1, rfl⟩
theorem zd_14_1_102 : zz_D zy_init_14_1 102 (.iconst 3) 1 103 := ⟨zq_6 zg_14_1_93.2.2.2.2.2.2.2.2.2.1, rfl⟩
theorem zd_14_1_103 : zz_D zy_init_14_1 103 (.newarray .int) 2 105 := ⟨zq_188_10 zg_14_1_93.2.2.2.2.2.2.2.2.2.2.1 zg_14_1_93.2.2.2.2.2.2.2.2.2.2.2.1, rfl⟩
theorem zd_14_1_105 : zz_D zy_init_14_1 105 (.putfield 48) 3 108 := ⟨zq_181 zg_14_1_93.2.2.2.2.2.2.2.2.2.2.2.2.1 zg_14_1_93.2.2.2.2.2.2.2.2.2.2.2.2.2.1 zg_14_1_93.2.2.2.2.2.2.2.2.2.2.2.2.2.2.1 rfl, rfl⟩
theorem zd_14_1_108 : zz_D zy_init_14_1 108 (.aload_n 0) 1 109 := ⟨zq_42 zg_14_1_93.2.2.2.2.2.2.2.2.2.2.2.2.2.2.2.1, rfl⟩
theorem zd_14_1_109 : zz_D zy_init_14_1 109 (.iconst 4) 1 110 := ⟨zq_7 zg_14_1_93.2.2.2.2.2.2.2.2.2.2.2.2.2.2.2.2.1, rfl⟩
theorem zd_14_1_110 : zz_D zy_init_14_1 110 (.newarray .int) 2 112 := ⟨zq_188_10 zg_14_1_93.2.2.2.2.2.2.2.2.2.2.2.2.2.2.2.2.2.1 zg_14_1_93.2.2.2.2.2.2.2.2.2.2.2.2.2.2.2.2.2.2.1, rfl⟩
theorem zd_14_1_112 : zz_D zy_init_14_1 112 (.putfield 51) 3 115 := ⟨zq_181 zg_14_1_93.2.2.2.2.2.2.2.2.2.2.2.2.2.2.2.2.2.2.2.1 zg_14_1_93.2.2.2.2.2.2.2.2.2.2.2.2.2.2.2.2.2.2.2.2.1 zg_14_1_93.2.2.2.2.2.2.2.2.2.2.2.2.2.2.2.2.2.2.2.2.2.1 rfl, rfl⟩
theorem zd_14_1_115 : zz_D zy_init_14_1 115 (.aload_n 0) 1 116 := ⟨zq_42 zg_14_1_93.2.2.2.2.2.2.2.2.2.2.2.2.2.2.2.2.2.2.2.2.2.2, rfl⟩
theorem zg_14_1_116 : zq_at zy_init_14_1.2.1 116 17 ∧ zq_at zy_init_14_1.2.1 117 2 ∧ zq_at zy_init_14_1.2.1 118 89 ∧ zq_at zy_init_14_1.2.1 119 188 ∧ zq_at zy_init_14_1.2.1 120 10 ∧ zq_at zy_init_14_1.2.1 121 181 ∧ zq_at zy_init_14_1.2.1 122 0 ∧ zq_at zy_init_14_1.2.1 123 54 ∧ zq_at zy_init_14_1.2.1 124 42 ∧ zq_at zy_init_14_1.2.1 125 17 ∧ zq_at zy_init_14_1.2.1 126 2 ∧ zq_at zy_init_14_1.2.1 127 89 ∧ zq_at zy_init_14_1.2.1 128 188 ∧ zq_at zy_init_14_1.2.1 129 10 ∧ zq_at zy_init_14_1.2.1 130 181 ∧ zq_at zy_init_14_1.2.1 131 0 ∧ zq_at zy_init_14_1.2.1 132 57 ∧ zq_at zy_init_14_1.2.1 133 42 ∧ zq_at zy_init_14_1.2.1 134 17 ∧ zq_at zy_init_14_1.2.1 135 2 ∧ zq_at zy_init_14_1.2.1 136 89 ∧ zq_at zy_init_14_1.2.1 137 188 ∧ zq_at zy_init_14_1.2.1 138 10 := by decide +kernel
theorem zd_14_1_116 : zz_D zy_init_14_1 116 (.sipush 601) 3 119 := ⟨zq_17 zg_14_1_116.1 zg_14_1_116.2.1 zg_14_1_116.2.2.1 (by decide), rfl⟩
theorem zd_14_1_119 : zz_D zy_init_14_1 119 (.newarray .int) 2 121 := ⟨zq_188_10 zg_14_1_116.2.2.2.1 zg_14_1_116.2.2.2.2.1, rfl⟩
theorem zd_14_1_121 : zz_D zy_init_14_1 121 (.putfield 54) 3 124 := ⟨zq_181 zg_14_1_116.2.2.2.2.2.1 zg_14_1_116.2.2.2.2.2.2.1 zg_14_1_116.2.2.2.2.2.2.2.1 rfl, rfl⟩
theorem zd_14_1_124 : zz_D zy_init_14_1 124 (.aload_n 0) 1 125 := ⟨zq_42 zg_14_1_116.2.2.2.2.2.2.2.2.1, rfl⟩
theorem zd_14_1_125 : zz_D zy_init_14_1 125 (.sipush 601) 3 128 := ⟨zq_17 zg_14_1_116.2.2.2.2.2.2.2.2.2.1 zg_14_1_116.2.2.2.2.2.2.2.2.2.2.1 zg_14_1_116.2.2.2.2.2.2.2.2.2.2.2.1 (by decide), rfl⟩
theorem zd_14_1_128 : zz_D zy_init_14_1 128 (.newarray .int) 2 130 := ⟨zq_188_10 zg_14_1_116.2.2.2.2.2.2.2.2.2.2.2.2.1 zg_14_1_116.2.2.2.2.2.2.2.2.2.2.2.2.2.1, rfl⟩
theorem zd_14_1_130 : zz_D zy_init_14_1 130 (.putfield 57) 3 133 := ⟨zq_181 zg_14_1_116.2.2.2.2.2.2.2.2.2.2.2.2.2.2.1 zg_14_1_116.2.2.2.2.2.2.2.2.2.2.2.2.2.2.2.1 zg_14_1_116.2.2.2.2.2.2.2.2.2.2.2.2.2.2.2.2.1 rfl, rfl⟩
theorem zd_14_1_133 : zz_D zy_init_14_1 133 (.aload_n 0) 1 134 := ⟨zq_42 zg_14_1_116.2.2.2.2.2.2.2.2.2.2.2.2.2.2.2.2.2.1, rfl⟩
theorem zd_14_1_134 : zz_D zy_init_14_1 134 (.sipush 601) 3 137 := ⟨zq_17 zg_14_1_116.2.2.2.2.2.2.2.2.2.2.2.2.2.2.2.2.2.2.1 zg_14_1_116.2.2.2.2.2.2.2.2.2.2.2.2.2.2.2.2.2.2.2.1 zg_14_1_116.2.2.2.2.2.2.2.2.2.2.2.2.2.2.2.2.2.2.2.2.1 (by decide), rfl⟩
theorem zd_14_1_137 : zz_D zy_init_14_1 137 (.newarray .int) 2 139 := ⟨zq_188_10 zg_14_1_116.2.2.2.2.2.2.2.2.2.2.2.2.2.2.2.2.2.2.2.2.2.1 zg_14_1_116.2.2.2.2.2.2.2.2.2.2.2.2.2.2.2.2.2.2.2.2.2.2, rfl⟩
theorem zg_14_1_139 : zq_at zy_init_14_1.2.1 139 181 ∧ zq_at zy_init_14_1.2.1 140 0 ∧ zq_at zy_init_14_1.2.1 141 60 ∧ zq_at zy_init_14_1.2.1 142 42 ∧ zq_at zy_init_14_1.2.1 143 17 ∧ zq_at zy_init_14_1.2.1 144 2 ∧ zq_at zy_init_14_1.2.1 145 89 ∧ zq_at zy_init_14_1.2.1 146 188 ∧ zq_at zy_init_14_1.2.1 147 4 ∧ zq_at zy_init_14_1.2.1 148 181 ∧ zq_at zy_init_14_1.2.1 149 0 ∧ zq_at zy_init_14_1.2.1 150 63 ∧ zq_at zy_init_14_1.2.1 151 42 ∧ zq_at zy_init_14_1.2.1 152 17 ∧ zq_at zy_init_14_1.2.1 153 2 ∧ zq_at zy_init_14_1.2.1 154 89 ∧ zq_at zy_init_14_1.2.1 155 188 ∧ zq_at zy_init_14_1.2.1 156 10 ∧ zq_at zy_init_14_1.2.1 157 181 ∧ zq_at zy_init_14_1.2.1 158 0 ∧ zq_at zy_init_14_1.2.1 159 67 ∧ zq_at zy_init_14_1.2.1 160 42 ∧ zq_at zy_init_14_1.2.1 161 6 := by decide +kernel
theorem zd_14_1_139 : zz_D zy_init_14_1 139 (.putfield 60) 3 142 := ⟨zq_181 zg_14_1_139.1 zg_14_1_139.2.1 zg_14_1_139.2.2.1 rfl, rfl⟩
theorem zd_14_1_142 : zz_D zy_init_14_1 142 (.aload_n 0) 1 143 := ⟨zq_42 zg_14_1_139.2.2.2.1, rfl⟩
theorem zd_14_1_143 : zz_D zy_init_14_1 143 (.sipush 601) 3 146 := ⟨zq_17 zg_14_1_139.2.2.2.2.1 zg_14_1_139.2.2.2.2.2.1 zg_14_1_139.2.2.2.2.2.2.1 (by decide), rfl⟩
theorem zd_14_1_146 : zz_D zy_init_14_1 146 (.newarray .boolean) 2 148 := ⟨zq_188_4 zg_14_1_139.2.2.2.2.2.2.2.1 zg_14_1_139.2.2.2.2.2.2.2.2.1, rfl⟩
theorem zd_14_1_148 : zz_D zy_init_14_1 148 (.putfield 63) 3 151 := ⟨zq_181 zg_14_1_139.2.2.2.2.2.2.2.2.2.1 zg_14_1_139.2.2.2.2.2.2.2.2.2.2.1 zg_14_1_139.2.2.2.2.2.2.2.2.2.2.2.1 rfl, rfl⟩
theorem zd_14_1_151 : zz_D zy_init_14_1 151 (.aload_n 0) 1 152 := ⟨zq_42 zg_14_1_139.2.2.2.2.2.2.2.2.2.2.2.2.1, rfl⟩
theorem zd_14_1_152 : zz_D zy_init_14_1 152 (.sipush 601) 3 155 := ⟨zq_17 zg_14_1_139.2.2.2.2.2.2.2.2.2.2.2.2.2.1 zg_14_1_139.2.2.2.2.2.2.2.2.2.2.2.2.2.2.1 zg_14_1_139.2.2.2.2.2.2.2.2.2.2.2.2.2.2.2.1 (by decide), rfl⟩
theorem zd_14_1_155 : zz_D zy_init_14_1 155 (.newarray .int) 2 157 := ⟨zq_188_10 zg_14_1_139.2.2.2.2.2.2.2.2.2.2.2.2.2.2.2.2.1 zg_14_1_139.2.2.2.2.2.2.2.2.2.2.2.2.2.2.2.2.2.1, rfl⟩
theorem zd_14_1_157 : zz_D zy_init_14_1 157 (.putfield 67) 3 160 := ⟨zq_181 zg_14_1_139.2.2.2.2.2.2.2.2.2.2.2.2.2.2.2.2.2.2.1 zg_14_1_139.2.2.2.2.2.2.2.2.2.2.2.2.2.2.2.2.2.2.2.1 zg_14_1_139.2.2.2.2.2.2.2.2.2.2.2.2.2.2.2.2.2.2.2.2.1 rfl, rfl⟩
theorem zd_14_1_160 : zz_D zy_init_14_1 160 (.aload_n 0) 1 161 := ⟨zq_42 zg_14_1_139.2.2.2.2.2.2.2.2.2.2.2.2.2.2.2.2.2.2.2.2.2.1, rfl⟩
theorem zd_14_1_161 : zz_D zy_init_14_1 161 (.iconst 3) 1 162 := ⟨zq_6 zg_14_1_139.2.2.2.2.2.2.2.2.2.2.2.2.2.2.2.2.2.2.2.2.2.2, rfl⟩
theorem zg_14_1_162 : zq_at zy_init_14_1.2.1 162 188 ∧ zq_at zy_init_14_1.2.1 163 10 ∧ zq_at zy_init_14_1.2.1 164 181 ∧ zq_at zy_init_14_1.2.1 165 0 ∧ zq_at zy_init_14_1.2.1 166 70 ∧ zq_at zy_init_14_1.2.1 167 42 ∧ zq_at zy_init_14_1.2.1 168 6 ∧ zq_at zy_init_14_1.2.1 169 188 ∧ zq_at zy_init_14_1.2.1 170 10 ∧ zq_at zy_init_14_1.2.1 171 181 ∧ zq_at zy_init_14_1.2.1 172 0 ∧ zq_at zy_init_14_1.2.1 173 73 ∧ zq_at zy_init_14_1.2.1 174 42 ∧ zq_at zy_init_14_1.2.1 175 17 ∧ zq_at zy_init_14_1.2.1 176 5 ∧ zq_at zy_init_14_1.2.1 177 220 ∧ zq_at zy_init_14_1.2.1 178 188 ∧ zq_at zy_init_14_1.2.1 179 10 ∧ zq_at zy_init_14_1.2.1 180 181 ∧ zq_at zy_init_14_1.2.1 181 0 ∧ zq_at zy_init_14_1.2.1 182 76 ∧ zq_at zy_init_14_1.2.1 183 42 ∧ zq_at zy_init_14_1.2.1 184 16 ∧ zq_at zy_init_14_1.2.1 185 24 := by decide +kernel
theorem zd_14_1_162 : zz_D zy_init_14_1 162 (.newarray .int) 2 164 := ⟨zq_188_10 zg_14_1_162.1 zg_14_1_162.2.1, rfl⟩
theorem zd_14_1_164 : zz_D zy_init_14_1 164 (.putfield 70) 3 167 := ⟨zq_181 zg_14_1_162.2.2.1 zg_14_1_162.2.2.2.1 zg_14_1_162.2.2.2.2.1 rfl, rfl⟩
theorem zd_14_1_167 : zz_D zy_init_14_1 167 (.aload_n 0) 1 168 := ⟨zq_42 zg_14_1_162.2.2.2.2.2.1, rfl⟩
theorem zd_14_1_168 : zz_D zy_init_14_1 168 (.iconst 3) 1 169 := ⟨zq_6 zg_14_1_162.2.2.2.2.2.2.1, rfl⟩
theorem zd_14_1_169 : zz_D zy_init_14_1 169 (.newarray .int) 2 171 := ⟨zq_188_10 zg_14_1_162.2.2.2.2.2.2.2.1 zg_14_1_162.2.2.2.2.2.2.2.2.1, rfl⟩
theorem zd_14_1_171 : zz_D zy_init_14_1 171 (.putfield 73) 3 174 := ⟨zq_181 zg_14_1_162.2.2.2.2.2.2.2.2.2.1 zg_14_1_162.2.2.2.2.2.2.2.2.2.2.1 zg_14_1_162.2.2.2.2.2.2.2.2.2.2.2.1 rfl, rfl⟩
theorem zd_14_1_174 : zz_D zy_init_14_1 174 (.aload_n 0) 1 175 := ⟨zq_42 zg_14_1_162.2.2.2.2.2.2.2.2.2.2.2.2.1, rfl⟩
theorem zd_14_1_175 : zz_D zy_init_14_1 175 (.sipush 1500) 3 178 := ⟨zq_17 zg_14_1_162.2.2.2.2.2.2.2.2.2.2.2.2.2.1 zg_14_1_162.2.2.2.2.2.2.2.2.2.2.2.2.2.2.1 zg_14_1_162.2.2.2.2.2.2.2.2.2.2.2.2.2.2.2.1 (by decide), rfl⟩
theorem zd_14_1_178 : zz_D zy_init_14_1 178 (.newarray .int) 2 180 := ⟨zq_188_10 zg_14_1_162.2.2.2.2.2.2.2.2.2.2.2.2.2.2.2.2.1 zg_14_1_162.2.2.2.2.2.2.2.2.2.2.2.2.2.2.2.2.2.1, rfl⟩
theorem zd_14_1_180 : zz_D zy_init_14_1 180 (.putfield 76) 3 183 := ⟨zq_181 zg_14_1_162.2.2.2.2.2.2.2.2.2.2.2.2.2.2.2.2.2.2.1 zg_14_1_162.2.2.2.2.2.2.2.2.2.2.2.2.2.2.2.2.2.2.2.1 zg_14_1_162.2.2.2.2.2.2.2.2.2.2.2.2.2.2.2.2.2.2.2.2.1 rfl, rfl⟩
theorem zd_14_1_183 : zz_D zy_init_14_1 183 (.aload_n 0) 1 184 := ⟨zq_42 zg_14_1_162.2.2.2.2.2.2.2.2.2.2.2.2.2.2.2.2.2.2.2.2.2.1, rfl⟩
theorem zd_14_1_184 : zz_D zy_init_14_1 184 (.bipush 24) 2 186 := ⟨zq_16 zg_14_1_162.2.2.2.2.2.2.2.2.2.2.2.2.2.2.2.2.2.2.2.2.2.2.1 zg_14_1_162.2.2.2.2.2.2.2.2.2.2.2.2.2.2.2.2.2.2.2.2.2.2.2 (by decide), rfl⟩
theorem zg_14_1_186 : zq_at zy_init_14_1.2.1 186 188 ∧ zq_at zy_init_14_1.2.1 187 11 ∧ zq_at zy_init_14_1.2.1 188 181 ∧ zq_at zy_init_14_1.2.1 189 0 ∧ zq_at zy_init_14_1.2.1 190 79 ∧ zq_at zy_init_14_1.2.1 191 42 ∧ zq_at zy_init_14_1.2.1 192 17 ∧ zq_at zy_init_14_1.2.1 193 0 ∧ zq_at zy_init_14_1.2.1 194 200 ∧ zq_at zy_init_14_1.2.1 195 188 ∧ zq_at zy_init_14_1.2.1 196 10 ∧ zq_at zy_init_14_1.2.1 197 181 ∧ zq_at zy_init_14_1.2.1 198 0 ∧ zq_at zy_init_14_1.2.1 199 82 ∧ zq_at zy_init_14_1.2.1 200 42 ∧ zq_at zy_init_14_1.2.1 201 4 ∧ zq_at zy_init_14_1.2.1 202 181 ∧ zq_at zy_init_14_1.2.1 203 0 ∧ zq_at zy_init_14_1.2.1 204 85 ∧ zq_at zy_init_14_1.2.1 205 42 ∧ zq_at zy_init_14_1.2.1 206 16 ∧ zq_at zy_init_14_1.2.1 207 11 ∧ zq_at zy_init_14_1.2.1 208 188 ∧ zq_at zy_init_14_1.2.1 209 10 := by decide +kernel
theorem zd_14_1_186 : zz_D zy_init_14_1 186 (.newarray .long) 2 188 := ⟨zq_188_11 zg_14_1_186.1 zg_14_1_186.2.1, rfl⟩
theorem zd_14_1_188 : zz_D zy_init_14_1 188 (.putfield 79) 3 191 := ⟨zq_181 zg_14_1_186.2.2.1 zg_14_1_186.2.2.2.1 zg_14_1_186.2.2.2.2.1 rfl, rfl⟩
theorem zd_14_1_191 : zz_D zy_init_14_1 191 (.aload_n 0) 1 192 := ⟨zq_42 zg_14_1_186.2.2.2.2.2.1, rfl⟩
theorem zd_14_1_192 : zz_D zy_init_14_1 192 (.sipush 200) 3 195 := ⟨zq_17 zg_14_1_186.2.2.2.2.2.2.1 zg_14_1_186.2.2.2.2.2.2.2.1 zg_14_1_186.2.2.2.2.2.2.2.2.1 (by decide), rfl⟩
theorem zd_14_1_195 : zz_D zy_init_14_1 195 (.newarray .int) 2 197 := ⟨zq_188_10 zg_14_1_186.2.2.2.2.2.2.2.2.2.1 zg_14_1_186.2.2.2.2.2.2.2.2.2.2.1, rfl⟩
theorem zd_14_1_197 : zz_D zy_init_14_1 197 (.putfield 82) 3 200 := ⟨zq_181 zg_14_1_186.2.2.2.2.2.2.2.2.2.2.2.1 zg_14_1_186.2.2.2.2.2.2.2.2.2.2.2.2.1 zg_14_1_186.2.2.2.2.2.2.2.2.2.2.2.2.2.1 rfl, rfl⟩
theorem zd_14_1_200 : zz_D zy_init_14_1 200 (.aload_n 0) 1 201 := ⟨zq_42 zg_14_1_186.2.2.2.2.2.2.2.2.2.2.2.2.2.2.1, rfl⟩
theorem zd_14_1_201 : zz_D zy_init_14_1 201 (.iconst 1) 1 202 := ⟨zq_4 zg_14_1_186.2.2.2.2.2.2.2.2.2.2.2.2.2.2.2.1, rfl⟩
theorem zd_14_1_202 : zz_D zy_init_14_1 202 (.putfield 85) 3 205 := ⟨zq_181 zg_14_1_186.2.2.2.2.2.2.2.2.2.2.2.2.2.2.2.2.1 zg_14_1_186.2.2.2.2.2.2.2.2.2.2.2.2.2.2.2.2.2.1 zg_14_1_186.2.2.2.2.2.2.2.2.2.2.2.2.2.2.2.2.2.2.1 rfl, rfl⟩
theorem zd_14_1_205 : zz_D zy_init_14_1 205 (.aload_n 0) 1 206 := ⟨zq_42 zg_14_1_186.2.2.2.2.2.2.2.2.2.2.2.2.2.2.2.2.2.2.2.1, rfl⟩
theorem zd_14_1_206 : zz_D zy_init_14_1 206 (.bipush 11) 2 208 := ⟨zq_16 zg_14_1_186.2.2.2.2.2.2.2.2.2.2.2.2.2.2.2.2.2.2.2.2.1 zg_14_1_186.2.2.2.2.2.2.2.2.2.2.2.2.2.2.2.2.2.2.2.2.2.1 (by decide), rfl⟩
theorem zd_14_1_208 : zz_D zy_init_14_1 208 (.newarray .int) 2 210 := ⟨zq_188_10 zg_14_1_186.2.2.2.2.2.2.2.2.2.2.2.2.2.2.2.2.2.2.2.2.2.2.1 zg_14_1_186.2.2.2.2.2.2.2.2.2.2.2.2.2.2.2.2.2.2.2.2.2.2.2, rfl⟩
theorem zg_14_1_210 : zq_at zy_init_14_1.2.1 210 181 ∧ zq_at zy_init_14_1.2.1 211 0 ∧ zq_at zy_init_14_1.2.1 212 88 ∧ zq_at zy_init_14_1.2.1 213 42 ∧ zq_at zy_init_14_1.2.1 214 16 ∧ zq_at zy_init_14_1.2.1 215 11 ∧ zq_at zy_init_14_1.2.1 216 188 ∧ zq_at zy_init_14_1.2.1 217 10 ∧ zq_at zy_init_14_1.2.1 218 181 ∧ zq_at zy_init_14_1.2.1 219 0 ∧ zq_at zy_init_14_1.2.1 220 91 ∧ zq_at zy_init_14_1.2.1 221 42 ∧ zq_at zy_init_14_1.2.1 222 16 ∧ zq_at zy_init_14_1.2.1 223 11 ∧ zq_at zy_init_14_1.2.1 224 188 ∧ zq_at zy_init_14_1.2.1 225 10 ∧ zq_at zy_init_14_1.2.1 226 181 ∧ zq_at zy_init_14_1.2.1 227 0 ∧ zq_at zy_init_14_1.2.1 228 94 ∧ zq_at zy_init_14_1.2.1 229 42 ∧ zq_at zy_init_14_1.2.1 230 16 ∧ zq_at zy_init_14_1.2.1 231 12 ∧ zq_at zy_init_14_1.2.1 232 188 ∧ zq_at zy_init_14_1.2.1 233 10 := by decide +kernel
theorem zd_14_1_210 : zz_D zy_init_14_1 210 (.putfield 88) 3 213 := ⟨zq_181 zg_14_1_210.1 zg_14_1_210.2.1 zg_14_1_210.2.2.1 rfl, rfl⟩
theorem zd_14_1_213 : zz_D zy_init_14_1 213 (.aload_n 0) 1 214 := ⟨zq_42 zg_14_1_210.2.2.2.1, rfl⟩
theorem zd_14_1_214 : zz_D zy_init_14_1 214 (.bipush 11) 2 216 := ⟨zq_16 zg_14_1_210.2.2.2.2.1 zg_14_1_210.2.2.2.2.2.1 (by decide), rfl⟩
theorem zd_14_1_216 : zz_D zy_init_14_1 216 (.newarray .int) 2 218 := ⟨zq_188_10 zg_14_1_210.2.2.2.2.2.2.1 zg_14_1_210.2.2.2.2.2.2.2.1, rfl⟩
theorem zd_14_1_218 : zz_D zy_init_14_1 218 (.putfield 91) 3 221 := ⟨zq_181 zg_14_1_210.2.2.2.2.2.2.2.2.1 zg_14_1_210.2.2.2.2.2.2.2.2.2.1 zg_14_1_210.2.2.2.2.2.2.2.2.2.2.1 rfl, rfl⟩
theorem zd_14_1_221 : zz_D zy_init_14_1 221 (.aload_n 0) 1 222 := ⟨zq_42 zg_14_1_210.2.2.2.2.2.2.2.2.2.2.2.1, rfl⟩
theorem zd_14_1_222 : zz_D zy_init_14_1 222 (.bipush 11) 2 224 := ⟨zq_16 zg_14_1_210.2.2.2.2.2.2.2.2.2.2.2.2.1 zg_14_1_210.2.2.2.2.2.2.2.2.2.2.2.2.2.1 (by decide), rfl⟩
theorem zd_14_1_224 : zz_D zy_init_14_1 224 (.newarray .int) 2 226 := ⟨zq_188_10 zg_14_1_210.2.2.2.2.2.2.2.2.2.2.2.2.2.2.1 zg_14_1_210.2.2.2.2.2.2.2.2.2.2.2.2.2.2.2.1, rfl⟩
theorem zd_14_1_226 : zz_D zy_init_14_1 226 (.putfield 94) 3 229 := ⟨zq_181 zg_14_1_210.2.2.2.2.2.2.2.2.2.2.2.2.2.2.2.2.1 zg_14_1_210.2.2.2.2.2.2.2.2.2.2.2.2.2.2.2.2.2.1 zg_14_1_210.2.2.2.2.2.2.2.2.2.2.2.2.2.2.2.2.2.2.1 rfl, rfl⟩
theorem zd_14_1_229 : zz_D zy_init_14_1 229 (.aload_n 0) 1 230 := ⟨zq_42 zg_14_1_210.2.2.2.2.2.2.2.2.2.2.2.2.2.2.2.2.2.2.2.1, rfl⟩
theorem zd_14_1_230 : zz_D zy_init_14_1 230 (.bipush 12) 2 232 := ⟨zq_16 zg_14_1_210.2.2.2.2.2.2.2.2.2.2.2.2.2.2.2.2.2.2.2.2.1 zg_14_1_210.2.2.2.2.2.2.2.2.2.2.2.2.2.2.2.2.2.2.2.2.2.1 (by decide), rfl⟩
theorem zd_14_1_232 : zz_D zy_init_14_1 232 (.newarray .int) 2 234 := ⟨zq_188_10 zg_14_1_210.2.2.2.2.2.2.2.2.2.2.2.2.2.2.2.2.2.2.2.2.2.2.1 zg_14_1_210.2.2.2.2.2.2.2.2.2.2.2.2.2.2.2.2.2.2.2.2.2.2.2, rfl⟩
theorem zg_14_1_234 : zq_at zy_init_14_1.2.1 234 181 ∧ zq_at zy_init_14_1.2.1 235 0 ∧ zq_at zy_init_14_1.2.1 236 97 ∧ zq_at zy_init_14_1.2.1 237 42 ∧ zq_at zy_init_14_1.2.1 238 16 ∧ zq_at zy_init_14_1.2.1 239 10 ∧ zq_at zy_init_14_1.2.1 240 188 ∧ zq_at zy_init_14_1.2.1 241 10 ∧ zq_at zy_init_14_1.2.1 242 181 ∧ zq_at zy_init_14_1.2.1 243 0 ∧ zq_at zy_init_14_1.2.1 244 100 ∧ zq_at zy_init_14_1.2.1 245 42 ∧ zq_at zy_init_14_1.2.1 246 16 ∧ zq_at zy_init_14_1.2.1 247 10 ∧ zq_at zy_init_14_1.2.1 248 188 ∧ zq_at zy_init_14_1.2.1 249 10 ∧ zq_at zy_init_14_1.2.1 250 181 ∧ zq_at zy_init_14_1.2.1 251 0 ∧ zq_at zy_init_14_1.2.1 252 103 ∧ zq_at zy_init_14_1.2.1 253 42 ∧ zq_at zy_init_14_1.2.1 254 16 ∧ zq_at zy_init_14_1.2.1 255 10 ∧ zq_at zy_init_14_1.2.1 256 188 ∧ zq_at zy_init_14_1.2.1 257 10 := by decide +kernel
theorem zd_14_1_234 : zz_D zy_init_14_1 234 (.putfield 97) 3 237 := ⟨zq_181 zg_14_1_234.1 zg_14_1_234.2.1 zg_14_1_234.2.2.1 rfl, rfl⟩
theorem zd_14_1_237 : zz_D zy_init_14_1 237 (.aload_n 0) 1 238 := ⟨zq_42 zg_14_1_234.2.2.2.1, rfl⟩
theorem zd_14_1_238 : zz_D zy_init_14_1 238 (.bipush 10) 2 240 := ⟨zq_16 zg_14_1_234.2.2.2.2.1 zg_14_1_234.2.2.2.2.2.1 (by decide), rfl⟩
theorem zd_14_1_240 : zz_D zy_init_14_1 240 (.newarray .int) 2 242 := ⟨zq_188_10 zg_14_1_234.2.2.2.2.2.2.1 zg_14_1_234.2.2.2.2.2.2.2.1, rfl⟩
theorem zd_14_1_242 : zz_D zy_init_14_1 242 (.putfield 100) 3 245 := ⟨zq_181 zg_14_1_234.2.2.2.2.2.2.2.2.1 zg_14_1_234.2.2.2.2.2.2.2.2.2.1 zg_14_1_234.2.2.2.2.2.2.2.2.2.2.1 rfl, rfl⟩
theorem zd_14_1_245 : zz_D zy_init_14_1 245 (.aload_n 0) 1 246 := ⟨zq_42 zg_14_1_234.2.2.2.2.2.2.2.2.2.2.2.1, rfl⟩
theorem zd_14_1_246 : zz_D zy_init_14_1 246 (.bipush 10) 2 248 := ⟨zq_16 zg_14_1_234.2.2.2.2.2.2.2.2.2.2.2.2.1 zg_14_1_234.2.2.2.2.2.2.2.2.2.2.2.2.2.1 (by decide), rfl⟩
theorem zd_14_1_248 : zz_D zy_init_14_1 248 (.newarray .int) 2 250 := ⟨zq_188_10 zg_14_1_234.2.2.2.2.2.2.2.2.2.2.2.2.2.2.1 zg_14_1_234.2.2.2.2.2.2.2.2.2.2.2.2.2.2.2.1, rfl⟩
theorem zd_14_1_250 : zz_D zy_init_14_1 250 (.putfield 103) 3 253 := ⟨zq_181 zg_14_1_234.2.2.2.2.2.2.2.2.2.2.2.2.2.2.2.2.1 zg_14_1_234.2.2.2.2.2.2.2.2.2.2.2.2.2.2.2.2.2.1 zg_14_1_234.2.2.2.2.2.2.2.2.2.2.2.2.2.2.2.2.2.2.1 rfl, rfl⟩
theorem zd_14_1_253 : zz_D zy_init_14_1 253 (.aload_n 0) 1 254 := ⟨zq_42 zg_14_1_234.2.2.2.2.2.2.2.2.2.2.2.2.2.2.2.2.2.2.2.1, rfl⟩
theorem zd_14_1_254 : zz_D zy_init_14_1 254 (.bipush 10) 2 256 := ⟨zq_16 zg_14_1_234.2.2.2.2.2.2.2.2.2.2.2.2.2.2.2.2.2.2.2.2.1 zg_14_1_234.2.2.2.2.2.2.2.2.2.2.2.2.2.2.2.2.2.2.2.2.2.1 (by decide), rfl⟩
theorem zd_14_1_256 : zz_D zy_init_14_1 256 (.newarray .int) 2 258 := ⟨zq_188_10 zg_14_1_234.2.2.2.2.2.2.2.2.2.2.2.2.2.2.2.2.2.2.2.2.2.2.1 zg_14_1_234.2.2.2.2.2.2.2.2.2.2.2.2.2.2.2.2.2.2.2.2.2.2.2, rfl⟩
theorem zg_14_1_258 : zq_at zy_init_14_1.2.1 258 181 ∧ zq_at zy_init_14_1.2.1 259 0 ∧ zq_at zy_init_14_1.2.1 260 106 ∧ zq_at zy_init_14_1.2.1 261 42 ∧ zq_at zy_init_14_1.2.1 262 16 ∧ zq_at zy_init_14_1.2.1 263 10 ∧ zq_at zy_init_14_1.2.1 264 188 ∧ zq_at zy_init_14_1.2.1 265 10 ∧ zq_at zy_init_14_1.2.1 266 181 ∧ zq_at zy_init_14_1.2.1 267 0 ∧ zq_at zy_init_14_1.2.1 268 109 ∧ zq_at zy_init_14_1.2.1 269 42 ∧ zq_at zy_init_14_1.2.1 270 16 ∧ zq_at zy_init_14_1.2.1 271 10 ∧ zq_at zy_init_14_1.2.1 272 188 ∧ zq_at zy_init_14_1.2.1 273 10 ∧ zq_at zy_init_14_1.2.1 274 181 ∧ zq_at zy_init_14_1.2.1 275 0 ∧ zq_at zy_init_14_1.2.1 276 112 ∧ zq_at zy_init_14_1.2.1 277 42 ∧ zq_at zy_init_14_1.2.1 278 16 ∧ zq_at zy_init_14_1.2.1 279 10 ∧ zq_at zy_init_14_1.2.1 280 188 ∧ zq_at zy_init_14_1.2.1 281 10 := by decide +kernel
theorem zd_14_1_258 : zz_D zy_init_14_1 258 (.putfield 106) 3 261 := ⟨zq_181 zg_14_1_258.1 zg_14_1_258.2.1 zg_14_1_258.2.2.1 rfl, rfl⟩
theorem zd_14_1_261 : zz_D zy_init_14_1 261 (.aload_n 0) 1 262 := ⟨zq_42 zg_14_1_258.2.2.2.1, rfl⟩
theorem zd_14_1_262 : zz_D zy_init_14_1 262 (.bipush 10) 2 264 := ⟨zq_16 zg_14_1_258.2.2.2.2.1 zg_14_1_258.2.2.2.2.2.1 (by decide), rfl⟩
theorem zd_14_1_264 : zz_D zy_init_14_1 264 (.newarray .int) 2 266 := ⟨zq_188_10 zg_14_1_258.2.2.2.2.2.2.1 zg_14_1_258.2.2.2.2.2.2.2.1, rfl⟩
theorem zd_14_1_266 : zz_D zy_init_14_1 266 (.putfield 109) 3 269 := ⟨zq_181 zg_14_1_258.2.2.2.2.2.2.2.2.1 zg_14_1_258.2.2.2.2.2.2.2.2.2.1 zg_14_1_258.2.2.2.2.2.2.2.2.2.2.1 rfl, rfl⟩
theorem zd_14_1_269 : zz_D zy_init_14_1 269 (.aload_n 0) 1 270 := ⟨zq_42 zg_14_1_258.2.2.2.2.2.2.2.2.2.2.2.1, rfl⟩
theorem zd_14_1_270 : zz_D zy_init_14_1 270 (.bipush 10) 2 272 := ⟨zq_16 zg_14_1_258.2.2.2.2.2.2.2.2.2.2.2.2.1 zg_14_1_258.2.2.2.2.2.2.2.2.2.2.2.2.2.1 (by decide), rfl⟩
theorem zd_14_1_272 : zz_D zy_init_14_1 272 (.newarray .int) 2 274 := ⟨zq_188_10 zg_14_1_258.2.2.2.2.2.2.2.2.2.2.2.2.2.2.1 zg_14_1_258.2.2.2.2.2.2.2.2.2.2.2.2.2.2.2.1, rfl⟩
theorem zd_14_1_274 : zz_D zy_init_14_1 274 (.putfield 112) 3 277 := ⟨zq_181 zg_14_1_258.2.2.2.2.2.2.2.2.2.2.2.2.2.2.2.2.1 zg_14_1_258.2.2.2.2.2.2.2.2.2.2.2.2.2.2.2.2.2.1 zg_14_1_258.2.2.2.2.2.2.2.2.2.2.2.2.2.2.2.2.2.2.1 rfl, rfl⟩
theorem zd_14_1_277 : zz_D zy_init_14_1 277 (.aload_n 0) 1 278 := ⟨zq_42 zg_14_1_258.2.2.2.2.2.2.2.2.2.2.2.2.2.2.2.2.2.2.2.1, rfl⟩
theorem zd_14_1_278 : zz_D zy_init_14_1 278 (.bipush 10) 2 280 := ⟨zq_16 zg_14_1_258.2.2.2.2.2.2.2.2.2.2.2.2.2.2.2.2.2.2.2.2.1 zg_14_1_258.2.2.2.2.2.2.2.2.2.2.2.2.2.2.2.2.2.2.2.2.2.1 (by decide), rfl⟩
theorem zd_14_1_280 : zz_D zy_init_14_1 280 (.newarray .int) 2 282 := ⟨zq_188_10 zg_14_1_258.2.2.2.2.2.2.2.2.2.2.2.2.2.2.2.2.2.2.2.2.2.2.1 zg_14_1_258.2.2.2.2.2.2.2.2.2.2.2.2.2.2.2.2.2.2.2.2.2.2.2, rfl⟩
theorem zg_14_1_282 : zq_at zy_init_14_1.2.1 282 181 ∧ zq_at zy_init_14_1.2.1 283 0 ∧ zq_at zy_init_14_1.2.1 284 115 ∧ zq_at zy_init_14_1.2.1 285 42 ∧ zq_at zy_init_14_1.2.1 286 16 ∧ zq_at zy_init_14_1.2.1 287 10 ∧ zq_at zy_init_14_1.2.1 288 188 ∧ zq_at zy_init_14_1.2.1 289 10 ∧ zq_at zy_init_14_1.2.1 290 181 ∧ zq_at zy_init_14_1.2.1 291 0 ∧ zq_at zy_init_14_1.2.1 292 118 ∧ zq_at zy_init_14_1.2.1 293 42 ∧ zq_at zy_init_14_1.2.1 294 16 ∧ zq_at zy_init_14_1.2.1 295 10 ∧ zq_at zy_init_14_1.2.1 296 188 ∧ zq_at zy_init_14_1.2.1 297 10 ∧ zq_at zy_init_14_1.2.1 298 181 ∧ zq_at zy_init_14_1.2.1 299 0 ∧ zq_at zy_init_14_1.2.1 300 121 ∧ zq_at zy_init_14_1.2.1 301 42 ∧ zq_at zy_init_14_1.2.1 302 16 ∧ zq_at zy_init_14_1.2.1 303 10 ∧ zq_at zy_init_14_1.2.1 304 188 ∧ zq_at zy_init_14_1.2.1 305 10 := by decide +kernel
theorem zd_14_1_282 : zz_D zy_init_14_1 282 (.putfield 115) 3 285 := ⟨zq_181 zg_14_1_282.1 zg_14_1_282.2.1 zg_14_1_282.2.2.1 rfl, rfl⟩
theorem zd_14_1_285 : zz_D zy_init_14_1 285 (.aload_n 0) 1 286 := ⟨zq_42 zg_14_1_282.2.2.2.1, rfl⟩
theorem zd_14_1_286 : zz_D zy_init_14_1 286 (.bipush 10) 2 288 := ⟨zq_16 zg_14_1_282.2.2.2.2.1 zg_14_1_282.2.2.2.2.2.1 (by decide), rfl⟩
theorem zd_14_1_288 : zz_D zy_init_14_1 288 (.newarray .int) 2 290 := ⟨zq_188_10 zg_14_1_282.2.2.2.2.2.2.1 zg_14_1_282.2.2.2.2.2.2.2.1, rfl⟩
theorem zd_14_1_290 : zz_D zy_init_14_1 290 (.putfield 118) 3 293 := ⟨zq_181 zg_14_1_282.2.2.2.2.2.2.2.2.1 zg_14_1_282.2.2.2.2.2.2.2.2.2.1 zg_14_1_282.2.2.2.2.2.2.2.2.2.2.1 rfl, rfl⟩
theorem zd_14_1_293 : zz_D zy_init_14_1 293 (.aload_n 0) 1 294 := ⟨zq_42 zg_14_1_282.2.2.2.2.2.2.2.2.2.2.2.1, rfl⟩
theorem zd_14_1_294 : zz_D zy_init_14_1 294 (.bipush 10) 2 296 := ⟨zq_16 zg_14_1_282.2.2.2.2.2.2.2.2.2.2.2.2.1 zg_14_1_282.2.2.2.2.2.2.2.2.2.2.2.2.2.1 (by decide), rfl⟩
theorem zd_14_1_296 : zz_D zy_init_14_1 296 (.newarray .int) 2 298 := ⟨zq_188_10 zg_14_1_282.2.2.2.2.2.2.2.2.2.2.2.2.2.2.1 zg_14_1_282.2.2.2.2.2.2.2.2.2.2.2.2.2.2.2.1, rfl⟩
theorem zd_14_1_298 : zz_D zy_init_14_1 298 (.putfield 121) 3 301 := ⟨zq_181 zg_14_1_282.2.2.2.2.2.2.2.2.2.2.2.2.2.2.2.2.1 zg_14_1_282.2.2.2.2.2.2.2.2.2.2.2.2.2.2.2.2.2.1 zg_14_1_282.2.2.2.2.2.2.2.2.2.2.2.2.2.2.2.2.2.2.1 rfl, rfl⟩
theorem zd_14_1_301 : zz_D zy_init_14_1 301 (.aload_n 0) 1 302 := ⟨zq_42 zg_14_1_282.2.2.2.2.2.2.2.2.2.2.2.2.2.2.2.2.2.2.2.1, rfl⟩
theorem zd_14_1_302 : zz_D zy_init_14_1 302 (.bipush 10) 2 304 := ⟨zq_16 zg_14_1_282.2.2.2.2.2.2.2.2.2.2.2.2.2.2.2.2.2.2.2.2.1 zg_14_1_282.2.2.2.2.2.2.2.2.2.2.2.2.2.2.2.2.2.2.2.2.2.1 (by decide), rfl⟩
theorem zd_14_1_304 : zz_D zy_init_14_1 304 (.newarray .int) 2 306 := ⟨zq_188_10 zg_14_1_282.2.2.2.2.2.2.2.2.2.2.2.2.2.2.2.2.2.2.2.2.2.2.1 zg_14_1_282.2.2.2.2.2.2.2.2.2.2.2.2.2.2.2.2.2.2.2.2.2.2.2, rfl⟩
theorem zg_14_1_306 : zq_at zy_init_14_1.2.1 306 181 ∧ zq_at zy_init_14_1.2.1 307 0 ∧ zq_at zy_init_14_1.2.1 308 124 ∧ zq_at zy_init_14_1.2.1 309 42 ∧ zq_at zy_init_14_1.2.1 310 16 ∧ zq_at zy_init_14_1.2.1 311 10 ∧ zq_at zy_init_14_1.2.1 312 188 ∧ zq_at zy_init_14_1.2.1 313 10 ∧ zq_at zy_init_14_1.2.1 314 181 ∧ zq_at zy_init_14_1.2.1 315 0 ∧ zq_at zy_init_14_1.2.1 316 127 ∧ zq_at zy_init_14_1.2.1 317 42 ∧ zq_at zy_init_14_1.2.1 318 16 ∧ zq_at zy_init_14_1.2.1 319 10 ∧ zq_at zy_init_14_1.2.1 320 188 ∧ zq_at zy_init_14_1.2.1 321 10 ∧ zq_at zy_init_14_1.2.1 322 181 ∧ zq_at zy_init_14_1.2.1 323 0 ∧ zq_at zy_init_14_1.2.1 324 130 ∧ zq_at zy_init_14_1.2.1 325 42 ∧ zq_at zy_init_14_1.2.1 326 16 ∧ zq_at zy_init_14_1.2.1 327 11 ∧ zq_at zy_init_14_1.2.1 328 188 ∧ zq_at zy_init_14_1.2.1 329 11 := by decide +kernel
theorem zd_14_1_306 : zz_D zy_init_14_1 306 (.putfield 124) 3 309 := ⟨zq_181 zg_14_1_306.1 zg_14_1_306.2.1 zg_14_1_306.2.2.1 rfl, rfl⟩
theorem zd_14_1_309 : zz_D zy_init_14_1 309 (.aload_n 0) 1 310 := ⟨zq_42 zg_14_1_306.2.2.2.1, rfl⟩
theorem zd_14_1_310 : zz_D zy_init_14_1 310 (.bipush 10) 2 312 := ⟨zq_16 zg_14_1_306.2.2.2.2.1 zg_14_1_306.2.2.2.2.2.1 (by decide), rfl⟩
theorem zd_14_1_312 : zz_D zy_init_14_1 312 (.newarray .int) 2 314 := ⟨zq_188_10 zg_14_1_306.2.2.2.2.2.2.1 zg_14_1_306.2.2.2.2.2.2.2.1, rfl⟩
theorem zd_14_1_314 : zz_D zy_init_14_1 314 (.putfield 127) 3 317 := ⟨zq_181 zg_14_1_306.2.2.2.2.2.2.2.2.1 zg_14_1_306.2.2.2.2.2.2.2.2.2.1 zg_14_1_306.2.2.2.2.2.2.2.2.2.2.1 rfl, rfl⟩
theorem zd_14_1_317 : zz_D zy_init_14_1 317 (.aload_n 0) 1 318 := ⟨zq_42 zg_14_1_306.2.2.2.2.2.2.2.2.2.2.2.1, rfl⟩
theorem zd_14_1_318 : zz_D zy_init_14_1 318 (.bipush 10) 2 320 := ⟨zq_16 zg_14_1_306.2.2.2.2.2.2.2.2.2.2.2.2.1 zg_14_1_306.2.2.2.2.2.2.2.2.2.2.2.2.2.1 (by decide), rfl⟩
theorem zd_14_1_320 : zz_D zy_init_14_1 320 (.newarray .int) 2 322 := ⟨zq_188_10 zg_14_1_306.2.2.2.2.2.2.2.2.2.2.2.2.2.2.1 zg_14_1_306.2.2.2.2.2.2.2.2.2.2.2.2.2.2.2.1, rfl⟩
theorem zd_14_1_322 : zz_D zy_init_14_1 322 (.putfield 130) 3 325 := ⟨zq_181 zg_14_1_306.2.2.2.2.2.2.2.2.2.2.2.2.2.2.2.2.1 zg_14_1_306.2.2.2.2.2.2.2.2.2.2.2.2.2.2.2.2.2.1 zg_14_1_306.2.2.2.2.2.2.2.2.2.2.2.2.2.2.2.2.2.2.1 rfl, rfl⟩
theorem zd_14_1_325 : zz_D zy_init_14_1 325 (.aload_n 0) 1 326 := ⟨zq_42 zg_14_1_306.2.2.2.2.2.2.2.2.2.2.2.2.2.2.2.2.2.2.2.1, rfl⟩
theorem zd_14_1_326 : zz_D zy_init_14_1 326 (.bipush 11) 2 328 := ⟨zq_16 zg_14_1_306.2.2.2.2.2.2.2.2.2.2.2.2.2.2.2.2.2.2.2.2.1 zg_14_1_306.2.2.2.2.2.2.2.2.2.2.2.2.2.2.2.2.2.2.2.2.2.1 (by decide), rfl⟩
theorem zd_14_1_328 : zz_D zy_init_14_1 328 (.newarray .long) 2 330 := ⟨zq_188_11 zg_14_1_306.2.2.2.2.2.2.2.2.2.2.2.2.2.2.2.2.2.2.2.2.2.2.1 zg_14_1_306.2.2.2.2.2.2.2.2.2.2.2.2.2.2.2.2.2.2.2.2.2.2.2, rfl⟩
theorem zg_14_1_330 : zq_at zy_init_14_1.2.1 330 181 ∧ zq_at zy_init_14_1.2.1 331 0 ∧ zq_at zy_init_14_1.2.1 332 133 ∧ zq_at zy_init_14_1.2.1 333 42 ∧ zq_at zy_init_14_1.2.1 334 16 ∧ zq_at zy_init_14_1.2.1 335 8 ∧ zq_at zy_init_14_1.2.1 336 188 ∧ zq_at zy_init_14_1.2.1 337 10 ∧ zq_at zy_init_14_1.2.1 338 181 ∧ zq_at zy_init_14_1.2.1 339 0 ∧ zq_at zy_init_14_1.2.1 340 136 ∧ zq_at zy_init_14_1.2.1 341 42 ∧ zq_at zy_init_14_1.2.1 342 17 ∧ zq_at zy_init_14_1.2.1 343 0 ∧ zq_at zy_init_14_1.2.1 344 147 ∧ zq_at zy_init_14_1.2.1 345 188 ∧ zq_at zy_init_14_1.2.1 346 10 ∧ zq_at zy_init_14_1.2.1 347 181 ∧ zq_at zy_init_14_1.2.1 348 0 ∧ zq_at zy_init_14_1.2.1 349 139 ∧ zq_at zy_init_14_1.2.1 350 42 ∧ zq_at zy_init_14_1.2.1 351 16 ∧ zq_at zy_init_14_1.2.1 352 12 := by decide +kernel
theorem zd_14_1_330 : zz_D zy_init_14_1 330 (.putfield 133) 3 333 := ⟨zq_181 zg_14_1_330.1 zg_14_1_330.2.1 zg_14_1_330.2.2.1 rfl, rfl⟩
theorem zd_14_1_333 : zz_D zy_init_14_1 333 (.aload_n 0) 1 334 := ⟨zq_42 zg_14_1_330.2.2.2.1, rfl⟩
theorem zd_14_1_334 : zz_D zy_init_14_1 334 (.bipush 8) 2 336 := ⟨zq_16 zg_14_1_330.2.2.2.2.1 zg_14_1_330.2.2.2.2.2.1 (by decide), rfl⟩
theorem zd_14_1_336 : zz_D zy_init_14_1 336 (.newarray .int) 2 338 := ⟨zq_188_10 zg_14_1_330.2.2.2.2.2.2.1 zg_14_1_330.2.2.2.2.2.2.2.1, rfl⟩
theorem zd_14_1_338 : zz_D zy_init_14_1 338 (.putfield 136) 3 341 := ⟨zq_181 zg_14_1_330.2.2.2.2.2.2.2.2.1 zg_14_1_330.2.2.2.2.2.2.2.2.2.1 zg_14_1_330.2.2.2.2.2.2.2.2.2.2.1 rfl, rfl⟩
theorem zd_14_1_341 : zz_D zy_init_14_1 341 (.aload_n 0) 1 342 := ⟨zq_42 zg_14_1_330.2.2.2.2.2.2.2.2.2.2.2.1, rfl⟩
theorem zd_14_1_342 : zz_D zy_init_14_1 342 (.sipush 147) 3 345 := ⟨zq_17 zg_14_1_330.2.2.2.2.2.2.2.2.2.2.2.2.1 zg_14_1_330.2.2.2.2.2.2.2.2.2.2.2.2.2.1 zg_14_1_330.2.2.2.2.2.2.2.2.2.2.2.2.2.2.1 (by decide), rfl⟩
theorem zd_14_1_345 : zz_D zy_init_14_1 345 (.newarray .int) 2 347 := ⟨zq_188_10 zg_14_1_330.2.2.2.2.2.2.2.2.2.2.2.2.2.2.2.1 zg_14_1_330.2.2.2.2.2.2.2.2.2.2.2.2.2.2.2.2.1, rfl⟩
theorem zd_14_1_347 : zz_D zy_init_14_1 347 (.putfield 139) 3 350 := ⟨zq_181 zg_14_1_330.2.2.2.2.2.2.2.2.2.2.2.2.2.2.2.2.2.1 zg_14_1_330.2.2.2.2.2.2.2.2.2.2.2.2.2.2.2.2.2.2.1 zg_14_1_330.2.2.2.2.2.2.2.2.2.2.2.2.2.2.2.2.2.2.2.1 rfl, rfl⟩
theorem zd_14_1_350 : zz_D zy_init_14_1 350 (.aload_n 0) 1 351 := ⟨zq_42 zg_14_1_330.2.2.2.2.2.2.2.2.2.2.2.2.2.2.2.2.2.2.2.2.1, rfl⟩
theorem zd_14_1_351 : zz_D zy_init_14_1 351 (.bipush 12) 2 353 := ⟨zq_16 zg_14_1_330.2.2.2.2.2.2.2.2.2.2.2.2.2.2.2.2.2.2.2.2.2.1 zg_14_1_330.2.2.2.2.2.2.2.2.2.2.2.2.2.2.2.2.2.2.2.2.2.2 (by decide), rfl⟩
theorem zg_14_1_353 : zq_at zy_init_14_1.2.1 353 188 ∧ zq_at zy_init_14_1.2.1 354 10 ∧ zq_at zy_init_14_1.2.1 355 181 ∧ zq_at zy_init_14_1.2.1 356 0 ∧ zq_at zy_init_14_1.2.1 357 142 ∧ zq_at zy_init_14_1.2.1 358 42 ∧ zq_at zy_init_14_1.2.1 359 180 ∧ zq_at zy_init_14_1.2.1 360 0 ∧ zq_at zy_init_14_1.2.1 361 79 ∧ zq_at zy_init_14_1.2.1 362 4 ∧ zq_at zy_init_14_1.2.1 363 20 ∧ zq_at zy_init_14_1.2.1 364 0 ∧ zq_at zy_init_14_1.2.1 365 145 ∧ zq_at zy_init_14_1.2.1 366 80 ∧ zq_at zy_init_14_1.2.1 367 42 ∧ zq_at zy_init_14_1.2.1 368 180 ∧ zq_at zy_init_14_1.2.1 369 0 ∧ zq_at zy_init_14_1.2.1 370 79 ∧ zq_at zy_init_14_1.2.1 371 5 ∧ zq_at zy_init_14_1.2.1 372 20 ∧ zq_at zy_init_14_1.2.1 373 0 ∧ zq_at zy_init_14_1.2.1 374 147 ∧ zq_at zy_init_14_1.2.1 375 80 ∧ zq_at zy_init_14_1.2.1 376 42 := by decide +kernel
theorem zd_14_1_353 : zz_D zy_init_14_1 353 (.newarray .int) 2 355 := ⟨zq_188_10 zg_14_1_353.1 zg_14_1_353.2.1, rfl⟩
theorem zd_14_1_355 : zz_D zy_init_14_1 355 (.putfield 142) 3 358 := ⟨zq_181 zg_14_1_353.2.2.1 zg_14_1_353.2.2.2.1 zg_14_1_353.2.2.2.2.1 rfl, rfl⟩
theorem zd_14_1_358 : zz_D zy_init_14_1 358 (.aload_n 0) 1 359 := ⟨zq_42 zg_14_1_353.2.2.2.2.2.1, rfl⟩
theorem zd_14_1_359 : zz_D zy_init_14_1 359 (.getfield 79) 3 362 := ⟨zq_180 zg_14_1_353.2.2.2.2.2.2.1 zg_14_1_353.2.2.2.2.2.2.2.1 zg_14_1_353.2.2.2.2.2.2.2.2.1 rfl, rfl⟩
theorem zd_14_1_362 : zz_D zy_init_14_1 362 (.iconst 1) 1 363 := ⟨zq_4 zg_14_1_353.2.2.2.2.2.2.2.2.2.1, rfl⟩
theorem zd_14_1_363 : zz_D zy_init_14_1 363 (.ldc2_w 145) 3 366 := ⟨zq_20 zg_14_1_353.2.2.2.2.2.2.2.2.2.2.1 zg_14_1_353.2.2.2.2.2.2.2.2.2.2.2.1 zg_14_1_353.2.2.2.2.2.2.2.2.2.2.2.2.1 rfl, rfl⟩
theorem zd_14_1_366 : zz_D zy_init_14_1 366 (.lastore) 1 367 := ⟨zq_80 zg_14_1_353.2.2.2.2.2.2.2.2.2.2.2.2.2.1, rfl⟩
theorem zd_14_1_367 : zz_D zy_init_14_1 367 (.aload_n 0) 1 368 := ⟨zq_42 zg_14_1_353.2.2.2.2.2.2.2.2.2.2.2.2.2.2.1, rfl⟩
theorem zd_14_1_368 : zz_D zy_init_14_1 368 (.getfield 79) 3 371 := ⟨zq_180 zg_14_1_353.2.2.2.2.2.2.2.2.2.2.2.2.2.2.2.1 zg_14_1_353.2.2.2.2.2.2.2.2.2.2.2.2.2.2.2.2.1 zg_14_1_353.2.2.2.2.2.2.2.2.2.2.2.2.2.2.2.2.2.1 rfl, rfl⟩
theorem zd_14_1_371 : zz_D zy_init_14_1 371 (.iconst 2) 1 372 := ⟨zq_5 zg_14_1_353.2.2.2.2.2.2.2.2.2.2.2.2.2.2.2.2.2.2.1, rfl⟩
theorem zd_14_1_372 : zz_D zy_init_14_1 372 (.ldc2_w 147) 3 375 := ⟨zq_20 zg_14_1_353.2.2.2.2.2.2.2.2.2.2.2.2.2.2.2.2.2.2.2.1 zg_14_1_353.2.2.2.2.2.2.2.2.2.2.2.2.2.2.2.2.2.2.2.2.1 zg_14_1_353.2.2.2.2.2.2.2.2.2.2.2.2.2.2.2.2.2.2.2.2.2.1 rfl, rfl⟩
theorem zd_14_1_375 : zz_D zy_init_14_1 375 (.lastore) 1 376 := ⟨zq_80 zg_14_1_353.2.2.2.2.2.2.2.2.2.2.2.2.2.2.2.2.2.2.2.2.2.2.1, rfl⟩
theorem zd_14_1_376 : zz_D zy_init_14_1 376 (.aload_n 0) 1 377 := ⟨zq_42 zg_14_1_353.2.2.2.2.2.2.2.2.2.2.2.2.2.2.2.2.2.2.2.2.2.2.2, rfl⟩
theorem zg_14_1_377 : zq_at zy_init_14_1.2.1 377 180 ∧ zq_at zy_init_14_1.2.1 378 0 ∧ zq_at zy_init_14_1.2.1 379 79 ∧ zq_at zy_init_14_1.2.1 380 6 ∧ zq_at zy_init_14_1.2.1 381 20 ∧ zq_at zy_init_14_1.2.1 382 0 ∧ zq_at zy_init_14_1.2.1 383 149 ∧ zq_at zy_init_14_1.2.1 384 80 ∧ zq_at zy_init_14_1.2.1 385 42 ∧ zq_at zy_init_14_1.2.1 386 180 ∧ zq_at zy_init_14_1.2.1 387 0 ∧ zq_at zy_init_14_1.2.1 388 79 ∧ zq_at zy_init_14_1.2.1 389 7 ∧ zq_at zy_init_14_1.2.1 390 20 ∧ zq_at zy_init_14_1.2.1 391 0 ∧ zq_at zy_init_14_1.2.1 392 151 ∧ zq_at zy_init_14_1.2.1 393 80 ∧ zq_at zy_init_14_1.2.1 394 42 ∧ zq_at zy_init_14_1.2.1 395 180 ∧ zq_at zy_init_14_1.2.1 396 0 ∧ zq_at zy_init_14_1.2.1 397 79 ∧ zq_at zy_init_14_1.2.1 398 8 := by decide +kernel
theorem zd_14_1_377 : zz_D zy_init_14_1 377 (.getfield 79) 3 380 := ⟨zq_180 zg_14_1_377.1 zg_14_1_377.2.1 zg_14_1_377.2.2.1 rfl, rfl⟩
theorem zd_14_1_380 : zz_D zy_init_14_1 380 (.iconst 3) 1 381 := ⟨zq_6 zg_14_1_377.2.2.2.1, rfl⟩
theorem zd_14_1_381 : zz_D zy_init_14_1 381 (.ldc2_w 149) 3 384 := ⟨zq_20 zg_14_1_377.2.2.2.2.1 zg_14_1_377.2.2.2.2.2.1 zg_14_1_377.2.2.2.2.2.2.1 rfl, rfl⟩
theorem zd_14_1_384 : zz_D zy_init_14_1 384 (.lastore) 1 385 := ⟨zq_80 zg_14_1_377.2.2.2.2.2.2.2.1, rfl⟩
theorem zd_14_1_385 : zz_D zy_init_14_1 385 (.aload_n 0) 1 386 := ⟨zq_42 zg_14_1_377.2.2.2.2.2.2.2.2.1, rfl⟩
theorem zd_14_1_386 : zz_D zy_init_14_1 386 (.getfield 79) 3 389 := ⟨zq_180 zg_14_1_377.2.2.2.2.2.2.2.2.2.1 zg_14_1_377.2.2.2.2.2.2.2.2.2.2.1 zg_14_1_377.2.2.2.2.2.2.2.2.2.2.2.1 rfl, rfl⟩
theorem zd_14_1_389 : zz_D zy_init_14_1 389 (.iconst 4) 1 390 := ⟨zq_7 zg_14_1_377.2.2.2.2.2.2.2.2.2.2.2.2.1, rfl⟩
theorem zd_14_1_390 : zz_D zy_init_14_1 390 (.ldc2_w 151) 3 393 := ⟨zq_20 zg_14_1_377.2.2.2.2.2.2.2.2.2.2.2.2.2.1 zg_14_1_377.2.2.2.2.2.2.2.2.2.2.2.2.2.2.1 zg_14_1_377.2.2.2.2.2.2.2.2.2.2.2.2.2.2.2.1 rfl, rfl⟩
theorem zd_14_1_393 : zz_D zy_init_14_1 393 (.lastore) 1 394 := ⟨zq_80 zg_14_1_377.2.2.2.2.2.2.2.2.2.2.2.2.2.2.2.2.1, rfl⟩
theorem zd_14_1_394 : zz_D zy_init_14_1 394 (.aload_n 0) 1 395 := ⟨zq_42 zg_14_1_377.2.2.2.2.2.2.2.2.2.2.2.2.2.2.2.2.2.1, rfl⟩
theorem zd_14_1_395 : zz_D zy_init_14_1 395 (.getfield 79) 3 398 := ⟨zq_180 zg_14_1_377.2.2.2.2.2.2.2.2.2.2.2.2.2.2.2.2.2.2.1 zg_14_1_377.2.2.2.2.2.2.2.2.2.2.2.2.2.2.2.2.2.2.2.1 zg_14_1_377.2.2.2.2.2.2.2.2.2.2.2.2.2.2.2.2.2.2.2.2.1 rfl, rfl⟩
theorem zd_14_1_398 : zz_D zy_init_14_1 398 (.iconst 5) 1 399 := ⟨zq_8 zg_14_1_377.2.2.2.2.2.2.2.2.2.2.2.2.2.2.2.2.2.2.2.2.2, rfl⟩
theorem zg_14_1_399 : zq_at zy_init_14_1.2.1 399 20 ∧ zq_at zy_init_14_1.2.1 400 0 ∧ zq_at zy_init_14_1.2.1 401 153 ∧ zq_at zy_init_14_1.2.1 402 80 ∧ zq_at zy_init_14_1.2.1 403 42 ∧ zq_at zy_init_14_1.2.1 404 180 ∧ zq_at zy_init_14_1.2.1 405 0 ∧ zq_at zy_init_14_1.2.1 406 79 ∧ zq_at zy_init_14_1.2.1 407 16 ∧ zq_at zy_init_14_1.2.1 408 6 ∧ zq_at zy_init_14_1.2.1 409 20 ∧ zq_at zy_init_14_1.2.1 410 0 ∧ zq_at zy_init_14_1.2.1 411 155 ∧ zq_at zy_init_14_1.2.1 412 80 ∧ zq_at zy_init_14_1.2.1 413 42 ∧ zq_at zy_init_14_1.2.1 414 180 ∧ zq_at zy_init_14_1.2.1 415 0 ∧ zq_at zy_init_14_1.2.1 416 79 ∧ zq_at zy_init_14_1.2.1 417 16 ∧ zq_at zy_init_14_1.2.1 418 7 ∧ zq_at zy_init_14_1.2.1 419 20 ∧ zq_at zy_init_14_1.2.1 420 0 ∧ zq_at zy_init_14_1.2.1 421 157 ∧ zq_at zy_init_14_1.2.1 422 80 := by decide +kernel
theorem zd_14_1_399 : zz_D zy_init_14_1 399 (.ldc2_w 153) 3 402 := ⟨zq_20 zg_14_1_399.1 zg_14_1_399.2.1 zg_14_1_399.2.2.1 rfl, rfl⟩
theorem zd_14_1_402 : zz_D zy_init_14_1 402 (.lastore) 1 403 := ⟨zq_80 zg_14_1_399.2.2.2.1, rfl⟩
theorem zd_14_1_403 : zz_D zy_init_14_1 403 (.aload_n 0) 1 404 := ⟨zq_42 zg_14_1_399.2.2.2.2.1, rfl⟩
theorem zd_14_1_404 : zz_D zy_init_14_1 404 (.getfield 79) 3 407 := ⟨zq_180 zg_14_1_399.2.2.2.2.2.1 zg_14_1_399.2.2.2.2.2.2.1 zg_14_1_399.2.2.2.2.2.2.2.1 rfl, rfl⟩
theorem zd_14_1_407 : zz_D zy_init_14_1 407 (.bipush 6) 2 409 := ⟨zq_16 zg_14_1_399.2.2.2.2.2.2.2.2.1 zg_14_1_399.2.2.2.2.2.2.2.2.2.1 (by decide), rfl⟩
theorem zd_14_1_409 : zz_D zy_init_14_1 409 (.ldc2_w 155) 3 412 := ⟨zq_20 zg_14_1_399.2.2.2.2.2.2.2.2.2.2.1 zg_14_1_399.2.2.2.2.2.2.2.2.2.2.2.1 zg_14_1_399.2.2.2.2.2.2.2.2.2.2.2.2.1 rfl, rfl⟩
theorem zd_14_1_412 : zz_D zy_init_14_1 412 (.lastore) 1 413 := ⟨zq_80 zg_14_1_399.2.2.2.2.2.2.2.2.2.2.2.2.2.1, rfl⟩
theorem zd_14_1_413 : zz_D zy_init_14_1 413 (.aload_n 0) 1 414 := ⟨zq_42 zg_14_1_399.2.2.2.2.2.2.2.2.2.2.2.2.2.2.1, rfl⟩
theorem zd_14_1_414 : zz_D zy_init_14_1 414 (.getfield 79) 3 417 := ⟨zq_180 zg_14_1_399.2.2.2.2.2.2.2.2.2.2.2.2.2.2.2.1 zg_14_1_399.2.2.2.2.2.2.2.2.2.2.2.2.2.2.2.2.1 zg_14_1_399.2.2.2.2.2.2.2.2.2.2.2.2.2.2.2.2.2.1 rfl, rfl⟩
theorem zd_14_1_417 : zz_D zy_init_14_1 417 (.bipush 7) 2 419 := ⟨zq_16 zg_14_1_399.2.2.2.2.2.2.2.2.2.2.2.2.2.2.2.2.2.2.1 zg_14_1_399.2.2.2.2.2.2.2.2.2.2.2.2.2.2.2.2.2.2.2.1 (by decide), rfl⟩
theorem zd_14_1_419 : zz_D zy_init_14_1 419 (.ldc2_w 157) 3 422 := ⟨zq_20 zg_14_1_399.2.2.2.2.2.2.2.2.2.2.2.2.2.2.2.2.2.2.2.2.1 zg_14_1_399.2.2.2.2.2.2.2.2.2.2.2.2.2.2.2.2.2.2.2.2.2.1 zg_14_1_399.2.2.2.2.2.2.2.2.2.2.2.2.2.2.2.2.2.2.2.2.2.2.1 rfl, rfl⟩
theorem zd_14_1_422 : zz_D zy_init_14_1 422 (.lastore) 1 423 := ⟨zq_80 zg_14_1_399.2.2.2.2.2.2.2.2.2.2.2.2.2.2.2.2.2.2.2.2.2.2.2, rfl⟩
theorem zg_14_1_423 : zq_at zy_init_14_1.2.1 423 42 ∧ zq_at zy_init_14_1.2.1 424 180 ∧ zq_at zy_init_14_1.2.1 425 0 ∧ zq_at zy_init_14_1.2.1 426 79 ∧ zq_at zy_init_14_1.2.1 427 16 ∧ zq_at zy_init_14_1.2.1 428 8 ∧ zq_at zy_init_14_1.2.1 429 20 ∧ zq_at zy_init_14_1.2.1 430 0 ∧ zq_at zy_init_14_1.2.1 431 159 ∧ zq_at zy_init_14_1.2.1 432 80 ∧ zq_at zy_init_14_1.2.1 433 42 ∧ zq_at zy_init_14_1.2.1 434 180 ∧ zq_at zy_init_14_1.2.1 435 0 ∧ zq_at zy_init_14_1.2.1 436 79 ∧ zq_at zy_init_14_1.2.1 437 16 ∧ zq_at zy_init_14_1.2.1 438 9 ∧ zq_at zy_init_14_1.2.1 439 20 ∧ zq_at zy_init_14_1.2.1 440 0 ∧ zq_at zy_init_14_1.2.1 441 161 ∧ zq_at zy_init_14_1.2.1 442 80 ∧ zq_at zy_init_14_1.2.1 443 42 ∧ zq_at zy_init_14_1.2.1 444 180 ∧ zq_at zy_init_14_1.2.1 445 0 ∧ zq_at zy_init_14_1.2.1 446 79 := by decide +kernel
theorem zd_14_1_423 : zz_D zy_init_14_1 423 (.aload_n 0) 1 424 := ⟨zq_42 zg_14_1_423.1, rfl⟩
theorem zd_14_1_424 : zz_D zy_init_14_1 424 (.getfield 79) 3 427 := ⟨zq_180 zg_14_1_423.2.1 zg_14_1_423.2.2.1 zg_14_1_423.2.2.2.1 rfl, rfl⟩
theorem zd_14_1_427 : zz_D zy_init_14_1 427 (.bipush 8) 2 429 := ⟨zq_16 zg_14_1_423.2.2.2.2.1 zg_14_1_423.2.2.2.2.2.1 (by decide), rfl⟩
theorem zd_14_1_429 : zz_D zy_init_14_1 429 (.ldc2_w 159) 3 432 := ⟨zq_20 zg_14_1_423.2.2.2.2.2.2.1 zg_14_1_423.2.2.2.2.2.2.2.1 zg_14_1_423.2.2.2.2.2.2.2.2.1 rfl, rfl⟩
theorem zd_14_1_432 : zz_D zy_init_14_1 432 (.lastore) 1 433 := ⟨zq_80 zg_14_1_423.2.2.2.2.2.2.2.2.2.1, rfl⟩
theorem zd_14_1_433 : zz_D zy_init_14_1 433 (.aload_n 0) 1 434 := ⟨zq_42 zg_14_1_423.2.2.2.2.2.2.2.2.2.2.1, rfl⟩
theorem zd_14_1_434 : zz_D zy_init_14_1 434 (.getfield 79) 3 437 := ⟨zq_180 zg_14_1_423.2.2.2.2.2.2.2.2.2.2.2.1 zg_14_1_423.2.2.2.2.2.2.2.2.2.2.2.2.1 zg_14_1_423.2.2.2.2.2.2.2.2.2.2.2.2.2.1 rfl, rfl⟩
theorem zd_14_1_437 : zz_D zy_init_14_1 437 (.bipush 9) 2 439 := ⟨zq_16 zg_14_1_423.2.2.2.2.2.2.2.2.2.2.2.2.2.2.1 zg_14_1_423.2.2.2.2.2.2.2.2.2.2.2.2.2.2.2.1 (by decide), rfl⟩
theorem zd_14_1_439 : zz_D zy_init_14_1 439 (.ldc2_w 161) 3 442 := ⟨zq_20 zg_14_1_423.2.2.2.2.2.2.2.2.2.2.2.2.2.2.2.2.1 zg_14_1_423.2.2.2.2.2.2.2.2.2.2.2.2.2.2.2.2.2.1 zg_14_1_423.2.2.2.2.2.2.2.2.2.2.2.2.2.2.2.2.2.2.1 rfl, rfl⟩
theorem zd_14_1_442 : zz_D zy_init_14_1 442 (.lastore) 1 443 := ⟨zq_80 zg_14_1_423.2.2.2.2.2.2.2.2.2.2.2.2.2.2.2.2.2.2.2.1, rfl⟩
theorem zd_14_1_443 : zz_D zy_init_14_1 443 (.aload_n 0) 1 444 := ⟨zq_42 zg_14_1_423.2.2.2.2.2.2.2.2.2.2.2.2.2.2.2.2.2.2.2.2.1, rfl⟩
theorem zd_14_1_444 : zz_D zy_init_14_1 444 (.getfield 79) 3 447 := ⟨zq_180 zg_14_1_423.2.2.2.2.2.2.2.2.2.2.2.2.2.2.2.2.2.2.2.2.2.1 zg_14_1_423.2.2.2.2.2.2.2.2.2.2.2.2.2.2.2.2.2.2.2.2.2.2.1 zg_14_1_423.2.2.2.2.2.2.2.2.2.2.2.2.2.2.2.2.2.2.2.2.2.2.2 rfl, rfl⟩
theorem zg_14_1_447 : zq_at zy_init_14_1.2.1 447 16 ∧ zq_at zy_init_14_1.2.1 448 10 ∧ zq_at zy_init_14_1.2.1 449 20 ∧ zq_at zy_init_14_1.2.1 450 0 ∧ zq_at zy_init_14_1.2.1 451 163 ∧ zq_at zy_init_14_1.2.1 452 80 ∧ zq_at zy_init_14_1.2.1 453 42 ∧ zq_at zy_init_14_1.2.1 454 180 ∧ zq_at zy_init_14_1.2.1 455 0 ∧ zq_at zy_init_14_1.2.1 456 79 ∧ zq_at zy_init_14_1.2.1 457 16 ∧ zq_at zy_init_14_1.2.1 458 11 ∧ zq_at zy_init_14_1.2.1 459 20 ∧ zq_at zy_init_14_1.2.1 460 0 ∧ zq_at zy_init_14_1.2.1 461 165 ∧ zq_at zy_init_14_1.2.1 462 80 ∧ zq_at zy_init_14_1.2.1 463 42 ∧ zq_at zy_init_14_1.2.1 464 180 ∧ zq_at zy_init_14_1.2.1 465 0 ∧ zq_at zy_init_14_1.2.1 466 79 ∧ zq_at zy_init_14_1.2.1 467 16 ∧ zq_at zy_init_14_1.2.1 468 12 := by decide +kernel
theorem zd_14_1_447 : zz_D zy_init_14_1 447 (.bipush 10) 2 449 := ⟨zq_16 zg_14_1_447.1 zg_14_1_447.2.1 (by decide), rfl⟩
theorem zd_14_1_449 : zz_D zy_init_14_1 449 (.ldc2_w 163) 3 452 := ⟨zq_20 zg_14_1_447.2.2.1 zg_14_1_447.2.2.2.1 zg_14_1_447.2.2.2.2.1 rfl, rfl⟩
theorem zd_14_1_452 : zz_D zy_init_14_1 452 (.lastore) 1 453 := ⟨zq_80 zg_14_1_447.2.2.2.2.2.1, rfl⟩
theorem zd_14_1_453 : zz_D zy_init_14_1 453 (.aload_n 0) 1 454 := ⟨zq_42 zg_14_1_447.2.2.2.2.2.2.1, rfl⟩
theorem zd_14_1_454 : zz_D zy_init_14_1 454 (.getfield 79) 3 457 := ⟨zq_180 zg_14_1_447.2.2.2.2.2.2.2.1 zg_14_1_447.2.2.2.2.2.2.2.2.1 zg_14_1_447.2.2.2.2.2.2.2.2.2.1 rfl, rfl⟩
theorem zd_14_1_457 : zz_D zy_init_14_1 457 (.bipush 11) 2 459 := ⟨zq_16 zg_14_1_447.2.2.2.2.2.2.2.2.2.2.1 zg_14_1_447.2.2.2.2.2.2.2.2.2.2.2.1 (by decide), rfl⟩
theorem zd_14_1_459 : zz_D zy_init_14_1 459 (.ldc2_w 165) 3 462 := ⟨zq_20 zg_14_1_447.2.2.2.2.2.2.2.2.2.2.2.2.1 zg_14_1_447.2.2.2.2.2.2.2.2.2.2.2.2.2.1 zg_14_1_447.2.2.2.2.2.2.2.2.2.2.2.2.2.2.1 rfl, rfl⟩
theorem zd_14_1_462 : zz_D zy_init_14_1 462 (.lastore) 1 463 := ⟨zq_80 zg_14_1_447.2.2.2.2.2.2.2.2.2.2.2.2.2.2.2.1, rfl⟩
theorem zd_14_1_463 : zz_D zy_init_14_1 463 (.aload_n 0) 1 464 := ⟨zq_42 zg_14_1_447.2.2.2.2.2.2.2.2.2.2.2.2.2.2.2.2.1, rfl⟩
theorem zd_14_1_464 : zz_D zy_init_14_1 464 (.getfield 79) 3 467 := ⟨zq_180 zg_14_1_447.2.2.2.2.2.2.2.2.2.2.2.2.2.2.2.2.2.1 zg_14_1_447.2.2.2.2.2.2.2.2.2.2.2.2.2.2.2.2.2.2.1 zg_14_1_447.2.2.2.2.2.2.2.2.2.2.2.2.2.2.2.2.2.2.2.1 rfl, rfl⟩
theorem zd_14_1_467 : zz_D zy_init_14_1 467 (.bipush 12) 2 469 := ⟨zq_16 zg_14_1_447.2.2.2.2.2.2.2.2.2.2.2.2.2.2.2.2.2.2.2.2.1 zg_14_1_447.2.2.2.2.2.2.2.2.2.2.2.2.2.2.2.2.2.2.2.2.2 (by decide), rfl⟩
theorem zg_14_1_469 : zq_at zy_init_14_1.2.1 469 20 ∧ zq_at zy_init_14_1.2.1 470 0 ∧ zq_at zy_init_14_1.2.1 471 167 ∧ zq_at zy_init_14_1.2.1 472 80 ∧ zq_at zy_init_14_1.2.1 473 42 ∧ zq_at zy_init_14_1.2.1 474 180 ∧ zq_at zy_init_14_1.2.1 475 0 ∧ zq_at zy_init_14_1.2.1 476 79 ∧ zq_at zy_init_14_1.2.1 477 16 ∧ zq_at zy_init_14_1.2.1 478 13 ∧ zq_at zy_init_14_1.2.1 479 10 ∧ zq_at zy_init_14_1.2.1 480 80 ∧ zq_at zy_init_14_1.2.1 481 42 ∧ zq_at zy_init_14_1.2.1 482 180 ∧ zq_at zy_init_14_1.2.1 483 0 ∧ zq_at zy_init_14_1.2.1 484 79 ∧ zq_at zy_init_14_1.2.1 485 16 ∧ zq_at zy_init_14_1.2.1 486 14 ∧ zq_at zy_init_14_1.2.1 487 20 ∧ zq_at zy_init_14_1.2.1 488 0 ∧ zq_at zy_init_14_1.2.1 489 169 ∧ zq_at zy_init_14_1.2.1 490 80 ∧ zq_at zy_init_14_1.2.1 491 42 := by decide +kernel
theorem zd_14_1_469 : zz_D zy_init_14_1 469 (.ldc2_w 167) 3 472 := ⟨zq_20 zg_14_1_469.1 zg_14_1_469.2.1 zg_14_1_469.2.2.1 rfl, rfl⟩
theorem zd_14_1_472 : zz_D zy_init_14_1 472 (.lastore) 1 473 := ⟨zq_80 zg_14_1_469.2.2.2.1, rfl⟩
theorem zd_14_1_473 : zz_D zy_init_14_1 473 (.aload_n 0) 1 474 := ⟨zq_42 zg_14_1_469.2.2.2.2.1, rfl⟩
theorem zd_14_1_474 : zz_D zy_init_14_1 474 (.getfield 79) 3 477 := ⟨zq_180 zg_14_1_469.2.2.2.2.2.1 zg_14_1_469.2.2.2.2.2.2.1 zg_14_1_469.2.2.2.2.2.2.2.1 rfl, rfl⟩
theorem zd_14_1_477 : zz_D zy_init_14_1 477 (.bipush 13) 2 479 := ⟨zq_16 zg_14_1_469.2.2.2.2.2.2.2.2.1 zg_14_1_469.2.2.2.2.2.2.2.2.2.1 (by decide), rfl⟩
theorem zd_14_1_479 : zz_D zy_init_14_1 479 (.lconst 1) 1 480 := ⟨zq_10 zg_14_1_469.2.2.2.2.2.2.2.2.2.2.1, rfl⟩
theorem zd_14_1_480 : zz_D zy_init_14_1 480 (.lastore) 1 481 := ⟨zq_80 zg_14_1_469.2.2.2.2.2.2.2.2.2.2.2.1, rfl⟩
theorem zd_14_1_481 : zz_D zy_init_14_1 481 (.aload_n 0) 1 482 := ⟨zq_42 zg_14_1_469.2.2.2.2.2.2.2.2.2.2.2.2.1, rfl⟩
theorem zd_14_1_482 : zz_D zy_init_14_1 482 (.getfield 79) 3 485 := ⟨zq_180 zg_14_1_469.2.2.2.2.2.2.2.2.2.2.2.2.2.1 zg_14_1_469.2.2.2.2.2.2.2.2.2.2.2.2.2.2.1 zg_14_1_469.2.2.2.2.2.2.2.2.2.2.2.2.2.2.2.1 rfl, rfl⟩
theorem zd_14_1_485 : zz_D zy_init_14_1 485 (.bipush 14) 2 487 := ⟨zq_16 zg_14_1_469.2.2.2.2.2.2.2.2.2.2.2.2.2.2.2.2.1 zg_14_1_469.2.2.2.2.2.2.2.2.2.2.2.2.2.2.2.2.2.1 (by decide), rfl⟩
theorem zd_14_1_487 : zz_D zy_init_14_1 487 (.ldc2_w 169) 3 490 := ⟨zq_20 zg_14_1_469.2.2.2.2.2.2.2.2.2.2.2.2.2.2.2.2.2.2.1 zg_14_1_469.2.2.2.2.2.2.2.2.2.2.2.2.2.2.2.2.2.2.2.1 zg_14_1_469.2.2.2.2.2.2.2.2.2.2.2.2.2.2.2.2.2.2.2.2.1 rfl, rfl⟩
theorem zd_14_1_490 : zz_D zy_init_14_1 490 (.lastore) 1 491 := ⟨zq_80 zg_14_1_469.2.2.2.2.2.2.2.2.2.2.2.2.2.2.2.2.2.2.2.2.2.1, rfl⟩
theorem zd_14_1_491 : zz_D zy_init_14_1 491 (.aload_n 0) 1 492 := ⟨zq_42 zg_14_1_469.2.2.2.2.2.2.2.2.2.2.2.2.2.2.2.2.2.2.2.2.2.2, rfl⟩
theorem zg_14_1_492 : zq_at zy_init_14_1.2.1 492 180 ∧ zq_at zy_init_14_1.2.1 493 0 ∧ zq_at zy_init_14_1.2.1 494 79 ∧ zq_at zy_init_14_1.2.1 495 16 ∧ zq_at zy_init_14_1.2.1 496 15 ∧ zq_at zy_init_14_1.2.1 497 20 ∧ zq_at zy_init_14_1.2.1 498 0 ∧ zq_at zy_init_14_1.2.1 499 171 ∧ zq_at zy_init_14_1.2.1 500 80 ∧ zq_at zy_init_14_1.2.1 501 42 ∧ zq_at zy_init_14_1.2.1 502 180 ∧ zq_at zy_init_14_1.2.1 503 0 ∧ zq_at zy_init_14_1.2.1 504 79 ∧ zq_at zy_init_14_1.2.1 505 16 ∧ zq_at zy_init_14_1.2.1 506 16 ∧ zq_at zy_init_14_1.2.1 507 20 ∧ zq_at zy_init_14_1.2.1 508 0 ∧ zq_at zy_init_14_1.2.1 509 173 ∧ zq_at zy_init_14_1.2.1 510 80 ∧ zq_at zy_init_14_1.2.1 511 42 ∧ zq_at zy_init_14_1.2.1 512 180 ∧ zq_at zy_init_14_1.2.1 513 0 ∧ zq_at zy_init_14_1.2.1 514 79 := by decide +kernel
theorem zd_14_1_492 : zz_D zy_init_14_1 492 (.getfield 79) 3 495 := ⟨zq_180 zg_14_1_492.1 zg_14_1_492.2.1 zg_14_1_492.2.2.1 rfl, rfl⟩
theorem zd_14_1_495 : zz_D zy_init_14_1 495 (.bipush 15) 2 497 := ⟨zq_16 zg_14_1_492.2.2.2.1 zg_14_1_492.2.2.2.2.1 (by decide), rfl⟩
theorem zd_14_1_497 : zz_D zy_init_14_1 497 (.ldc2_w 171) 3 500 := ⟨zq_20 zg_14_1_492.2.2.2.2.2.1 zg_14_1_492.2.2.2.2.2.2.1 zg_14_1_492.2.2.2.2.2.2.2.1 rfl, rfl⟩
theorem zd_14_1_500 : zz_D zy_init_14_1 500 (.lastore) 1 501 := ⟨zq_80 zg_14_1_492.2.2.2.2.2.2.2.2.1, rfl⟩
theorem zd_14_1_501 : zz_D zy_init_14_1 501 (.aload_n 0) 1 502 := ⟨zq_42 zg_14_1_492.2.2.2.2.2.2.2.2.2.1, rfl⟩
theorem zd_14_1_502 : zz_D zy_init_14_1 502 (.getfield 79) 3 505 := ⟨zq_180 zg_14_1_492.2.2.2.2.2.2.2.2.2.2.1 zg_14_1_492.2.2.2.2.2.2.2.2.2.2.2.1 zg_14_1_492.2.2.2.2.2.2.2.2.2.2.2.2.1 rfl, rfl⟩
theorem zd_14_1_505 : zz_D zy_init_14_1 505 (.bipush 16) 2 507 := ⟨zq_16 zg_14_1_492.2.2.2.2.2.2.2.2.2.2.2.2.2.1 zg_14_1_492.2.2.2.2.2.2.2.2.2.2.2.2.2.2.1 (by decide), rfl⟩
theorem zd_14_1_507 : zz_D zy_init_14_1 507 (.ldc2_w 173) 3 510 := ⟨zq_20 zg_14_1_492.2.2.2.2.2.2.2.2.2.2.2.2.2.2.2.1 zg_14_1_492.2.2.2.2.2.2.2.2.2.2.2.2.2.2.2.2.1 zg_14_1_492.2.2.2.2.2.2.2.2.2.2.2.2.2.2.2.2.2.1 rfl, rfl⟩
theorem zd_14_1_510 : zz_D zy_init_14_1 510 (.lastore) 1 511 := ⟨zq_80 zg_14_1_492.2.2.2.2.2.2.2.2.2.2.2.2.2.2.2.2.2.2.1, rfl⟩
theorem zd_14_1_511 : zz_D zy_init_14_1 511 (.aload_n 0) 1 512 := ⟨zq_42 zg_14_1_492.2.2.2.2.2.2.2.2.2.2.2.2.2.2.2.2.2.2.2.1, rfl⟩
theorem zd_14_1_512 : zz_D zy_init_14_1 512 (.getfield 79) 3 515 := ⟨zq_180 zg_14_1_492.2.2.2.2.2.2.2.2.2.2.2.2.2.2.2.2.2.2.2.2.1 zg_14_1_492.2.2.2.2.2.2.2.2.2.2.2.2.2.2.2.2.2.2.2.2.2.1 zg_14_1_492.2.2.2.2.2.2.2.2.2.2.2.2.2.2.2.2.2.2.2.2.2.2 rfl, rfl⟩
theorem zg_14_1_515 : zq_at zy_init_14_1.2.1 515 16 ∧ zq_at zy_init_14_1.2.1 516 17 ∧ zq_at zy_init_14_1.2.1 517 20 ∧ zq_at zy_init_14_1.2.1 518 0 ∧ zq_at zy_init_14_1.2.1 519 175 ∧ zq_at zy_init_14_1.2.1 520 80 ∧ zq_at zy_init_14_1.2.1 521 42 ∧ zq_at zy_init_14_1.2.1 522 180 ∧ zq_at zy_init_14_1.2.1 523 0 ∧ zq_at zy_init_14_1.2.1 524 79 ∧ zq_at zy_init_14_1.2.1 525 16 ∧ zq_at zy_init_14_1.2.1 526 18 ∧ zq_at zy_init_14_1.2.1 527 20 ∧ zq_at zy_init_14_1.2.1 528 0 ∧ zq_at zy_init_14_1.2.1 529 177 ∧ zq_at zy_init_14_1.2.1 530 80 ∧ zq_at zy_init_14_1.2.1 531 42 ∧ zq_at zy_init_14_1.2.1 532 180 ∧ zq_at zy_init_14_1.2.1 533 0 ∧ zq_at zy_init_14_1.2.1 534 79 ∧ zq_at zy_init_14_1.2.1 535 16 ∧ zq_at zy_init_14_1.2.1 536 19 := by decide +kernel
theorem zd_14_1_515 : zz_D zy_init_14_1 515 (.bipush 17) 2 517 := ⟨zq_16 zg_14_1_515.1 zg_14_1_515.2.1 (by decide), rfl⟩
theorem zd_14_1_517 : zz_D zy_init_14_1 517 (.ldc2_w 175) 3 520 := ⟨zq_20 zg_14_1_515.2.2.1 zg_14_1_515.2.2.2.1 zg_14_1_515.2.2.2.2.1 rfl, rfl⟩
theorem zd_14_1_520 : zz_D zy_init_14_1 520 (.lastore) 1 521 := ⟨zq_80 zg_14_1_515.2.2.2.2.2.1, rfl⟩
theorem zd_14_1_521 : zz_D zy_init_14_1 521 (.aload_n 0) 1 522 := ⟨zq_42 zg_14_1_515.2.2.2.2.2.2.1, rfl⟩
theorem zd_14_1_522 : zz_D zy_init_14_1 522 (.getfield 79) 3 525 := ⟨zq_180 zg_14_1_515.2.2.2.2.2.2.2.1 zg_14_1_515.2.2.2.2.2.2.2.2.1 zg_14_1_515.2.2.2.2.2.2.2.2.2.1 rfl, rfl⟩
theorem zd_14_1_525 : zz_D zy_init_14_1 525 (.bipush 18) 2 527 := ⟨zq_16 zg_14_1_515.2.2.2.2.2.2.2.2.2.2.1 zg_14_1_515.2.2.2.2.2.2.2.2.2.2.2.1 (by decide), rfl⟩
theorem zd_14_1_527 : zz_D zy_init_14_1 527 (.ldc2_w 177) 3 530 := ⟨zq_20 zg_14_1_515.2.2.2.2.2.2.2.2.2.2.2.2.1 zg_14_1_515.2.2.2.2.2.2.2.2.2.2.2.2.2.1 zg_14_1_515.2.2.2.2.2.2.2.2.2.2.2.2.2.2.1 rfl, rfl⟩
theorem zd_14_1_530 : zz_D zy_init_14_1 530 (.lastore) 1 531 := ⟨zq_80 zg_14_1_515.2.2.2.2.2.2.2.2.2.2.2.2.2.2.2.1, rfl⟩
theorem zd_14_1_531 : zz_D zy_init_14_1 531 (.aload_n 0) 1 532 := ⟨zq_42 zg_14_1_515.2.2.2.2.2.2.2.2.2.2.2.2.2.2.2.2.1, rfl⟩
theorem zd_14_1_532 : zz_D zy_init_14_1 532 (.getfield 79) 3 535 := ⟨zq_180 zg_14_1_515.2.2.2.2.2.2.2.2.2.2.2.2.2.2.2.2.2.1 zg_14_1_515.2.2.2.2.2.2.2.2.2.2.2.2.2.2.2.2.2.2.1 zg_14_1_515.2.2.2.2.2.2.2.2.2.2.2.2.2.2.2.2.2.2.2.1 rfl, rfl⟩
theorem zd_14_1_535 : zz_D zy_init_14_1 535 (.bipush 19) 2 537 := ⟨zq_16 zg_14_1_515.2.2.2.2.2.2.2.2.2.2.2.2.2.2.2.2.2.2.2.2.1 zg_14_1_515.2.2.2.2.2.2.2.2.2.2.2.2.2.2.2.2.2.2.2.2.2 (by decide), rfl⟩
theorem zg_14_1_537 : zq_at zy_init_14_1.2.1 537 20 ∧ zq_at zy_init_14_1.2.1 538 0 ∧ zq_at zy_init_14_1.2.1 539 179 ∧ zq_at zy_init_14_1.2.1 540 80 ∧ zq_at zy_init_14_1.2.1 541 42 ∧ zq_at zy_init_14_1.2.1 542 180 ∧ zq_at zy_init_14_1.2.1 543 0 ∧ zq_at zy_init_14_1.2.1 544 79 ∧ zq_at zy_init_14_1.2.1 545 16 ∧ zq_at zy_init_14_1.2.1 546 20 ∧ zq_at zy_init_14_1.2.1 547 20 ∧ zq_at zy_init_14_1.2.1 548 0 ∧ zq_at zy_init_14_1.2.1 549 181 ∧ zq_at zy_init_14_1.2.1 550 80 ∧ zq_at zy_init_14_1.2.1 551 42 ∧ zq_at zy_init_14_1.2.1 552 4 ∧ zq_at zy_init_14_1.2.1 553 4 ∧ zq_at zy_init_14_1.2.1 554 4 ∧ zq_at zy_init_14_1.2.1 555 182 ∧ zq_at zy_init_14_1.2.1 556 0 ∧ zq_at zy_init_14_1.2.1 557 183 := by decide +kernel
theorem zd_14_1_537 : zz_D zy_init_14_1 537 (.ldc2_w 179) 3 540 := ⟨zq_20 zg_14_1_537.1 zg_14_1_537.2.1 zg_14_1_537.2.2.1 rfl, rfl⟩
theorem zd_14_1_540 : zz_D zy_init_14_1 540 (.lastore) 1 541 := ⟨zq_80 zg_14_1_537.2.2.2.1, rfl⟩
theorem zd_14_1_541 : zz_D zy_init_14_1 541 (.aload_n 0) 1 542 := ⟨zq_42 zg_14_1_537.2.2.2.2.1, rfl⟩
theorem zd_14_1_542 : zz_D zy_init_14_1 542 (.getfield 79) 3 545 := ⟨zq_180 zg_14_1_537.2.2.2.2.2.1 zg_14_1_537.2.2.2.2.2.2.1 zg_14_1_537.2.2.2.2.2.2.2.1 rfl, rfl⟩
theorem zd_14_1_545 : zz_D zy_init_14_1 545 (.bipush 20) 2 547 := ⟨zq_16 zg_14_1_537.2.2.2.2.2.2.2.2.1 zg_14_1_537.2.2.2.2.2.2.2.2.2.1 (by decide), rfl⟩
theorem zd_14_1_547 : zz_D zy_init_14_1 547 (.ldc2_w 181) 3 550 := ⟨zq_20 zg_14_1_537.2.2.2.2.2.2.2.2.2.2.1 zg_14_1_537.2.2.2.2.2.2.2.2.2.2.2.1 zg_14_1_537.2.2.2.2.2.2.2.2.2.2.2.2.1 rfl, rfl⟩
theorem zd_14_1_550 : zz_D zy_init_14_1 550 (.lastore) 1 551 := ⟨zq_80 zg_14_1_537.2.2.2.2.2.2.2.2.2.2.2.2.2.1, rfl⟩
theorem zd_14_1_551 : zz_D zy_init_14_1 551 (.aload_n 0) 1 552 := ⟨zq_42 zg_14_1_537.2.2.2.2.2.2.2.2.2.2.2.2.2.2.1, rfl⟩
theorem zd_14_1_552 : zz_D zy_init_14_1 552 (.iconst 1) 1 553 := ⟨zq_4 zg_14_1_537.2.2.2.2.2.2.2.2.2.2.2.2.2.2.2.1, rfl⟩
theorem zd_14_1_553 : zz_D zy_init_14_1 553 (.iconst 1) 1 554 := ⟨zq_4 zg_14_1_537.2.2.2.2.2.2.2.2.2.2.2.2.2.2.2.2.1, rfl⟩
theorem zd_14_1_554 : zz_D zy_init_14_1 554 (.iconst 1) 1 555 := ⟨zq_4 zg_14_1_537.2.2.2.2.2.2.2.2.2.2.2.2.2.2.2.2.2.1, rfl⟩
theorem zd_14_1_555 : zz_D zy_init_14_1 555 (.invokevirtual 183) 3 558 := ⟨zq_182 zg_14_1_537.2.2.2.2.2.2.2.2.2.2.2.2.2.2.2.2.2.2.1 zg_14_1_537.2.2.2.2.2.2.2.2.2.2.2.2.2.2.2.2.2.2.2.1 zg_14_1_537.2.2.2.2.2.2.2.2.2.2.2.2.2.2.2.2.2.2.2.2 rfl, rfl⟩
-- TensorForgeModel form (III)V at 1079, 1121
abbrev zr_form_14_5_c1079_1121 : Room := { frames := 0, cells := 0, slots := 0, locals := 0 }
def zp_form_14_5_c1079_1121 (S0 : zz_S) : zz_S → Prop := fun S => zz_Gm [1079, 1102, 1103, 1104, 1105] [] S ∧ zz_fr [(1079, 36), (1102, 0), (1103, 0), (1104, 0), (1105, 0), (1105, 1)] [] (fun _ _ => False) S0 S ∧ (S 1079 36 = 1 ∧ S 1102 0 = 1 ∧ S 1103 0 = 1 ∧ S 1104 0 = 1 ∧ S 1105 0 = 0) ∧ (S 1105 1 = 1)
theorem zc_form_14_5_c1079_1121 {g : mm_G} {l : Launch} (S0 : zz_S) (G_S0 : zz_Gm [1079, 1102, 1103, 1104, 1105] [] S0) : mm_Met g l zy_form_14_5 zr_form_14_5_c1079_1121 [.ref 1079, zi 1, zi 1, zi 1] (zz_M S0 1121) 1121 (zz_QV 1121 (zp_form_14_5_c1079_1121 S0)) := by
  refine zz_enter (by decide) (Nat.le_of_ble_eq_true rfl) (zz_less (ls1 := [some (.ref 1079), some (zi 1), some (zi 1), some (zi 1)]) ⟨rfl, ⟨rfl, ⟨rfl, ⟨rfl, trivial⟩⟩⟩⟩ ?_)
  have F_S0 : zz_fr [(1079, 36), (1102, 0), (1103, 0), (1104, 0), (1105, 0), (1105, 1)] [] (fun _ _ => False) S0 S0 := zz_fr.refl
  refine zz_aload_n (x := 1079) rfl zd_14_5_0 ?_
  have g1 := G_S0 1079 37 (by decide +kernel) (by decide +kernel)
  refine zz_getr (kd := 0) (z := 1102) zd_14_5_1 zf_Md_88 zT_1079 rfl (by decide) (Int.le_antisymm g1.2 g1.1) (by decide) 1102 rfl ?_
  refine zz_iconst zd_14_5_4 ?_
  refine zz_iload_n (x := 1) rfl zd_14_5_5 ?_
  refine zz_iast zd_14_5_6 zT_1102 rfl (by decide) (by decide) (by decide) (fun S2 qS2 => ?_)
  have G_S2 := zz_Gm.put [] G_S0 qS2 0 63 rfl (by decide) (by decide +kernel)
  have F_S2 := zz_fr.puts F_S0 qS2 (by decide +kernel)
  refine zz_aload_n (x := 1079) rfl zd_14_5_7 ?_
  have g3 := G_S2 1079 38 (by decide +kernel) (by decide +kernel)
  refine zz_getr (kd := 0) (z := 1103) zd_14_5_8 zf_Md_91 zT_1079 rfl (by decide) (Int.le_antisymm g3.2 g3.1) (by decide) 1103 rfl ?_
  refine zz_iconst zd_14_5_11 ?_
  refine zz_iload_n (x := 1) rfl zd_14_5_12 ?_
  refine zz_iast zd_14_5_13 zT_1103 rfl (by decide) (by decide) (by decide) (fun S4 qS4 => ?_)
  have G_S4 := zz_Gm.put [] G_S2 qS4 0 63 rfl (by decide) (by decide +kernel)
  have F_S4 := zz_fr.puts F_S2 qS4 (by decide +kernel)
  refine zz_aload_n (x := 1079) rfl zd_14_5_14 ?_
  have g5 := G_S4 1079 39 (by decide +kernel) (by decide +kernel)
  refine zz_getr (kd := 0) (z := 1104) zd_14_5_15 zf_Md_94 zT_1079 rfl (by decide) (Int.le_antisymm g5.2 g5.1) (by decide) 1104 rfl ?_
  refine zz_iconst zd_14_5_18 ?_
  refine zz_iload_n (x := 1) rfl zd_14_5_19 ?_
  refine zz_iast zd_14_5_20 zT_1104 rfl (by decide) (by decide) (by decide) (fun S6 qS6 => ?_)
  have G_S6 := zz_Gm.put [] G_S4 qS6 0 63 rfl (by decide) (by decide +kernel)
  have F_S6 := zz_fr.puts F_S4 qS6 (by decide +kernel)
  refine zz_aload_n (x := 1079) rfl zd_14_5_21 ?_
  have g7 := G_S6 1079 40 (by decide +kernel) (by decide +kernel)
  refine zz_getr (kd := 0) (z := 1105) zd_14_5_22 zf_Md_97 zT_1079 rfl (by decide) (Int.le_antisymm g7.2 g7.1) (by decide) 1105 rfl ?_
  refine zz_iconst zd_14_5_25 ?_
  refine zz_iconst zd_14_5_26 ?_
  refine zz_iast zd_14_5_27 zT_1105 rfl (by decide) (by decide) (by decide) (fun S8 qS8 => ?_)
  have G_S8 := zz_Gm.put [] G_S6 qS8 0 0 rfl (by decide) (by decide +kernel)
  have F_S8 := zz_fr.puts F_S6 qS8 (by decide +kernel)
  refine zz_aload_n (x := 1079) rfl zd_14_5_28 ?_
  have g9 := G_S8 1079 40 (by decide +kernel) (by decide +kernel)
  refine zz_getr (kd := 0) (z := 1105) zd_14_5_29 zf_Md_97 zT_1079 rfl (by decide) (Int.le_antisymm g9.2 g9.1) (by decide) 1105 rfl ?_
  refine zz_iconst zd_14_5_32 ?_
  refine zz_iload_n (x := 1) rfl zd_14_5_33 ?_
  refine zz_iload_n (x := 1) rfl zd_14_5_34 ?_
  refine zz_imul zd_14_5_35 ?_
  refine zz_eqv (v := 1) (by decide) ?_
  refine zz_iload_n (x := 1) rfl zd_14_5_36 ?_
  refine zz_imul zd_14_5_37 ?_
  refine zz_eqv (v := 1) (by decide) ?_
  refine zz_iast zd_14_5_38 zT_1105 rfl (by decide) (by decide) (by decide) (fun S10 qS10 => ?_)
  have G_S10 := zz_Gm.put [] G_S8 qS10 0 10000000 rfl (by decide) (by decide +kernel)
  have F_S10 := zz_fr.puts F_S8 qS10 (by decide +kernel)
  refine zz_aload_n (x := 1079) rfl zd_14_5_39 ?_
  refine zz_iconst zd_14_5_40 ?_
  refine zz_puti zd_14_5_41 zf_Md_85 zT_1079 rfl (by decide) (fun S11 qS11 => ?_)
  have G_S11 := zz_Gm.put [] G_S10 qS11 0 11 rfl (by decide) (by decide +kernel)
  have F_S11 := zz_fr.puts F_S10 qS11 (by decide +kernel)
  have e12 : S11 1079 36 = 1 := (zz_rs qS11)
  have e13 : S11 1102 0 = 1 := (zz_ro qS11 (fun h => absurd h.1 (by decide)) (zz_ro qS10 (fun h => absurd h.1 (by decide)) (zz_ro qS8 (fun h => absurd h.1 (by decide)) (zz_ro qS6 (fun h => absurd h.1 (by decide)) (zz_ro qS4 (fun h => absurd h.1 (by decide)) (zz_rs qS2))))))
  have e14 : S11 1103 0 = 1 := (zz_ro qS11 (fun h => absurd h.1 (by decide)) (zz_ro qS10 (fun h => absurd h.1 (by decide)) (zz_ro qS8 (fun h => absurd h.1 (by decide)) (zz_ro qS6 (fun h => absurd h.1 (by decide)) (zz_rs qS4)))))
  have e15 : S11 1104 0 = 1 := (zz_ro qS11 (fun h => absurd h.1 (by decide)) (zz_ro qS10 (fun h => absurd h.1 (by decide)) (zz_ro qS8 (fun h => absurd h.1 (by decide)) (zz_rs qS6))))
  have e16 : S11 1105 0 = 0 := (zz_ro qS11 (fun h => absurd h.1 (by decide)) (zz_ro qS10 (fun h => absurd h.2 (by decide)) (zz_rs qS8)))
  have e17 : S11 1105 1 = 1 := (zz_ro qS11 (fun h => absurd h.1 (by decide)) (zz_rs qS10))
  exact zz_vret zd_14_5_44 rfl (Nat.le_of_ble_eq_true rfl) (Nat.le_of_ble_eq_true rfl) ⟨_, rfl, G_S11, F_S11, by omega, by omega⟩
theorem zg_14_1_558 : zq_at zy_init_14_1.2.1 558 177 := by decide +kernel
theorem zd_14_1_558 : zz_D zy_init_14_1 558 (.return_) 1 559 := ⟨zq_177 zg_14_1_558, rfl⟩
-- TensorForgeModel <init> ()V at 1079, 1080
abbrev zr_init_14_1_c1079_1080 : Room := { frames := 1, cells := 41, slots := 11941, locals := 15 }
def zp_init_14_1_c1079_1080 (S0 : zz_S) : zz_S → Prop := fun S => zz_Gm [1079, 1102, 1103, 1104, 1105, 1120, 1119, 1118, 1117, 1116, 1115, 1114, 1113, 1112, 1111, 1110, 1109, 1108, 1107, 1106, 1105, 1104, 1103, 1102, 1101, 1100, 1099, 1098, 1097, 1096, 1095, 1094, 1093, 1092, 1091, 1090, 1089, 1088, 1087, 1086, 1085, 1084, 1083, 1082, 1081, 1080, 1079] [] S ∧ zz_fr [(1079, 36), (1102, 0), (1103, 0), (1104, 0), (1105, 0), (1105, 1)] [1079, 1080, 1081, 1082, 1083, 1084, 1085, 1086, 1087, 1088, 1089, 1090, 1091, 1092, 1093, 1094, 1095, 1096, 1097, 1098, 1099, 1100, 1101, 1102, 1103, 1104, 1105, 1106, 1107, 1108, 1109, 1110, 1111, 1112, 1113, 1114, 1115, 1116, 1117, 1118, 1119, 1120] (fun _ _ => False) S0 S ∧ (S 1079 36 = 1 ∧ S 1102 0 = 1 ∧ S 1103 0 = 1 ∧ S 1104 0 = 1 ∧ S 1105 0 = 0) ∧ (S 1079 1 = 2) ∧ (S 1079 28 = S0 1079 28) ∧ (S 1100 1 = 20328611) ∧ (S 1100 2 = 21080810679) ∧ (S 1100 3 = 18912643) ∧ (S 1100 4 = 636595) ∧ (S 1100 5 = 872425337517) ∧ (S 1100 6 = 5847987683) ∧ (S 1100 7 = 788088878) ∧ (S 1100 8 = 5848723) ∧ (S 1100 9 = 664631) ∧ (S 1100 10 = 641) ∧ (S 1100 11 = 802) ∧ (S 1100 12 = 24) ∧ (S 1100 13 = 1) ∧ (S 1100 14 = 2) ∧ (S 1100 15 = 530067) ∧ (S 1100 16 = 14) ∧ (S 1100 17 = 16880) ∧ (S 1100 18 = 282288) ∧ (S 1100 19 = 187144354) ∧ (S 1100 20 = 149201058) ∧ (S 1105 1 = 1)

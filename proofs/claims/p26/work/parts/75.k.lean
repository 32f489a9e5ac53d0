theorem zz_nws {S S1 : zz_S} {n : Nat} {f : Nat → Int} (e : S1 = zz_nw S n f) (i : Nat) : S1 n i = f i := by
  rw [e]
  simp [zz_nw]
abbrev zy_init_1_1 : mm_Y := (⟨"TensorForge", "<init>", "()V"⟩, prog_1_method_1_code, 1, none)
theorem zyw_init_1_1 : mm_Yw zy_init_1_1 0 := ⟨mm_tb_1 32 (by decide +kernel) rfl, mm_tb_1 1 (by decide +kernel) rfl, ⟨by decide, by decide⟩, by decide +kernel⟩
theorem zoi_TF_1 : Cond.methodLink "TensorForge" 1 Lib.objectInit ∈ mm_tb := mm_tb_1 33 (by decide +kernel) rfl
theorem zoi : Cond.instanceMethod Lib.objectInit ∈ mm_tb ∧ Cond.code Lib.objectInit ⟨#[0xb1]⟩ 1 none ∈ mm_tb := ⟨mm_tb_1 34 (by decide +kernel) rfl, mm_tb_1 35 (by decide +kernel) rfl⟩
theorem zn_TF_7 : mm_Nl "TensorForge" 7 1 2 [.null, .int 0] := ⟨R_Network, F_Network, t_Network, rfl, i_Network, t_Network_ok, mm_tb_1 36 (by decide +kernel) rfl, mm_tb_1 37 (by decide +kernel) rfl, mm_tb_1 2 (by decide +kernel) rfl, fun q hq => by rcases (by omega : q = 0 ∨ q = 1) with rfl | rfl <;> rfl, fun _ => rfl⟩
abbrev zy_init_7_1 : mm_Y := (⟨"TensorForge$Network", "<init>", "()V"⟩, prog_7_method_1_code, 2, none)
theorem zyw_init_7_1 : mm_Yw zy_init_7_1 0 := ⟨mm_tb_1 40 (by decide +kernel) rfl, mm_tb_1 2 (by decide +kernel) rfl, ⟨by decide, by decide⟩, by decide +kernel⟩
theorem zk_TF_9 : mm_Il "TensorForge" 9 0 zy_init_7_1 := ⟨zyw_init_7_1, mm_tb_1 38 (by decide +kernel) rfl, mm_tb_1 39 (by decide +kernel) rfl, rfl, rfl⟩
theorem zoi_Network_1 : Cond.methodLink "TensorForge$Network" 1 Lib.objectInit ∈ mm_tb := mm_tb_1 41 (by decide +kernel) rfl
def zX_0 : List (Nat × Nat) := [(1002, 0), (1002, 1), (1002, 2), (1002, 3), (1002, 4), (1002, 5), (1002, 6), (1002, 7), (1002, 8), (1002, 9), (1002, 10), (1002, 11), (1001, 0), (1001, 1)]
theorem zf_Network_11 : mm_Fl "TensorForge$Network" 11 1 0 (.array (.object "TensorForge$Layer")) true := ⟨R_Network, F_Network, 2, t_Network, rfl, i_Network, by decide, mm_tb_1 143 (by decide +kernel) rfl, rfl, t_Network_ok, n_Network, rfl, by decide +kernel⟩
def zX_1 : List (Nat × Nat) := [(1002, 0), (1002, 1), (1002, 2), (1002, 3), (1002, 4), (1002, 5), (1002, 6), (1002, 7), (1002, 8), (1002, 9), (1002, 10), (1002, 11), (1001, 1)]
theorem zn_Network_9 : mm_Nl "TensorForge$Network" 9 2 15 [.int 0, .int 0, .int 0, .int 0, .int 0, .int 0, .int 0, .int 0, .int 0, .int 0, .int 0, .int 0, .int 0, .int 0, .int 0] := ⟨R_Layer, F_Layer, t_Layer, rfl, i_Layer, t_Layer_ok, mm_tb_1 42 (by decide +kernel) rfl, mm_tb_1 44 (by decide +kernel) rfl, mm_tb_1 3 (by decide +kernel) rfl, fun q hq => by rcases (by omega : q = 0 ∨ q = 1 ∨ q = 2 ∨ q = 3 ∨ q = 4 ∨ q = 5 ∨ q = 6 ∨ q = 7 ∨ q = 8 ∨ q = 9 ∨ q = 10 ∨ q = 11 ∨ q = 12 ∨ q = 13 ∨ q = 14) with rfl | rfl | rfl | rfl | rfl | rfl | rfl | rfl | rfl | rfl | rfl | rfl | rfl | rfl | rfl <;> rfl, fun _ => rfl⟩
abbrev zy_init_4_1 : mm_Y := (⟨"TensorForge$Layer", "<init>", "()V"⟩, prog_4_method_1_code, 1, none)
theorem zyw_init_4_1 : mm_Yw zy_init_4_1 0 := ⟨mm_tb_1 47 (by decide +kernel) rfl, mm_tb_1 3 (by decide +kernel) rfl, ⟨by decide, by decide⟩, by decide +kernel⟩
theorem zk_Network_15 : mm_Il "TensorForge$Network" 15 0 zy_init_4_1 := ⟨zyw_init_4_1, mm_tb_1 45 (by decide +kernel) rfl, mm_tb_1 46 (by decide +kernel) rfl, rfl, rfl⟩
theorem zoi_Layer_1 : Cond.methodLink "TensorForge$Layer" 1 Lib.objectInit ∈ mm_tb := mm_tb_1 48 (by decide +kernel) rfl
abbrev zy_reset_4_2 : mm_Y := (⟨"TensorForge$Layer", "reset", "(III)V"⟩, prog_4_method_2_code, 4, none)
theorem zyw_reset_4_2 : mm_Yw zy_reset_4_2 3 := ⟨mm_tb_1 52 (by decide +kernel) rfl, mm_tb_1 3 (by decide +kernel) rfl, ⟨by decide, by decide⟩, by decide +kernel⟩
theorem zk_Layer_9 : mm_Vl "TensorForge$Layer" 9 2 3 zy_reset_4_2 := ⟨zyw_reset_4_2, (R_Layer, F_Layer, 15), rfl, mm_tb_1 49 (by decide +kernel) rfl, mm_tb_1 50 (by decide +kernel) rfl, mm_tb_1 51 (by decide +kernel) rfl⟩
theorem zf_Layer_13 : mm_Fl "TensorForge$Layer" 13 2 0 .int false := ⟨R_Layer, F_Layer, 15, t_Layer, rfl, i_Layer, by decide, mm_tb_1 57 (by decide +kernel) rfl, rfl, t_Layer_ok, n_Layer, rfl, by decide +kernel⟩
theorem zf_Layer_17 : mm_Fl "TensorForge$Layer" 17 2 1 .int false := ⟨R_Layer, F_Layer, 15, t_Layer, rfl, i_Layer, by decide, mm_tb_1 60 (by decide +kernel) rfl, rfl, t_Layer_ok, n_Layer, rfl, by decide +kernel⟩
theorem zf_Layer_20 : mm_Fl "TensorForge$Layer" 20 2 2 .int false := ⟨R_Layer, F_Layer, 15, t_Layer, rfl, i_Layer, by decide, mm_tb_1 64 (by decide +kernel) rfl, rfl, t_Layer_ok, n_Layer, rfl, by decide +kernel⟩
theorem zf_Layer_23 : mm_Fl "TensorForge$Layer" 23 2 3 .int false := ⟨R_Layer, F_Layer, 15, t_Layer, rfl, i_Layer, by decide, mm_tb_1 68 (by decide +kernel) rfl, rfl, t_Layer_ok, n_Layer, rfl, by decide +kernel⟩
theorem zf_Layer_26 : mm_Fl "TensorForge$Layer" 26 2 4 .int false := ⟨R_Layer, F_Layer, 15, t_Layer, rfl, i_Layer, by decide, mm_tb_1 71 (by decide +kernel) rfl, rfl, t_Layer_ok, n_Layer, rfl, by decide +kernel⟩
theorem zf_Layer_29 : mm_Fl "TensorForge$Layer" 29 2 5 .int false := ⟨R_Layer, F_Layer, 15, t_Layer, rfl, i_Layer, by decide, mm_tb_1 74 (by decide +kernel) rfl, rfl, t_Layer_ok, n_Layer, rfl, by decide +kernel⟩
theorem zf_Layer_32 : mm_Fl "TensorForge$Layer" 32 2 6 .int false := ⟨R_Layer, F_Layer, 15, t_Layer, rfl, i_Layer, by decide, mm_tb_1 79 (by decide +kernel) rfl, rfl, t_Layer_ok, n_Layer, rfl, by decide +kernel⟩
theorem zf_Layer_35 : mm_Fl "TensorForge$Layer" 35 2 7 .int false := ⟨R_Layer, F_Layer, 15, t_Layer, rfl, i_Layer, by decide, mm_tb_1 84 (by decide +kernel) rfl, rfl, t_Layer_ok, n_Layer, rfl, by decide +kernel⟩
theorem zf_Layer_38 : mm_Fl "TensorForge$Layer" 38 2 8 .boolean false := ⟨R_Layer, F_Layer, 15, t_Layer, rfl, i_Layer, by decide, mm_tb_1 87 (by decide +kernel) rfl, rfl, t_Layer_ok, n_Layer, rfl, by decide +kernel⟩
theorem zf_Layer_42 : mm_Fl "TensorForge$Layer" 42 2 9 .int false := ⟨R_Layer, F_Layer, 15, t_Layer, rfl, i_Layer, by decide, mm_tb_1 90 (by decide +kernel) rfl, rfl, t_Layer_ok, n_Layer, rfl, by decide +kernel⟩
abbrev zy_takeForm_4_3 : mm_Y := (⟨"TensorForge$Layer", "takeForm", "(III)V"⟩, prog_4_method_3_code, 4, none)
theorem zyw_takeForm_4_3 : mm_Yw zy_takeForm_4_3 3 := ⟨mm_tb_1 56 (by decide +kernel) rfl, mm_tb_1 3 (by decide +kernel) rfl, ⟨by decide, by decide⟩, by decide +kernel⟩
theorem zk_Layer_45 : mm_Vl "TensorForge$Layer" 45 2 3 zy_takeForm_4_3 := ⟨zyw_takeForm_4_3, (R_Layer, F_Layer, 15), rfl, mm_tb_1 53 (by decide +kernel) rfl, mm_tb_1 54 (by decide +kernel) rfl, mm_tb_1 55 (by decide +kernel) rfl⟩
theorem zf_Layer_54 : mm_Fl "TensorForge$Layer" 54 2 10 .int false := ⟨R_Layer, F_Layer, 15, t_Layer, rfl, i_Layer, by decide, mm_tb_1 94 (by decide +kernel) rfl, rfl, t_Layer_ok, n_Layer, rfl, by decide +kernel⟩
theorem zf_Layer_57 : mm_Fl "TensorForge$Layer" 57 2 11 .int false := ⟨R_Layer, F_Layer, 15, t_Layer, rfl, i_Layer, by decide, mm_tb_1 98 (by decide +kernel) rfl, rfl, t_Layer_ok, n_Layer, rfl, by decide +kernel⟩
theorem zf_Layer_60 : mm_Fl "TensorForge$Layer" 60 2 12 .int false := ⟨R_Layer, F_Layer, 15, t_Layer, rfl, i_Layer, by decide, mm_tb_1 102 (by decide +kernel) rfl, rfl, t_Layer_ok, n_Layer, rfl, by decide +kernel⟩
theorem zg_1_1_0 : zq_at zy_init_1_1.2.1 0 42 ∧ zq_at zy_init_1_1.2.1 1 183 ∧ zq_at zy_init_1_1.2.1 2 0 ∧ zq_at zy_init_1_1.2.1 3 1 ∧ zq_at zy_init_1_1.2.1 4 42 ∧ zq_at zy_init_1_1.2.1 5 187 ∧ zq_at zy_init_1_1.2.1 6 0 ∧ zq_at zy_init_1_1.2.1 7 7 ∧ zq_at zy_init_1_1.2.1 8 89 ∧ zq_at zy_init_1_1.2.1 9 183 ∧ zq_at zy_init_1_1.2.1 10 0 ∧ zq_at zy_init_1_1.2.1 11 9 := by decide +kernel
theorem zd_1_1_0 : zz_D zy_init_1_1 0 (.aload_n 0) 1 1 := ⟨zq_42 zg_1_1_0.1, rfl⟩
theorem zd_1_1_1 : zz_D zy_init_1_1 1 (.invokespecial 1) 3 4 := ⟨zq_183 zg_1_1_0.2.1 zg_1_1_0.2.2.1 zg_1_1_0.2.2.2.1 rfl, rfl⟩
theorem zd_1_1_4 : zz_D zy_init_1_1 4 (.aload_n 0) 1 5 := ⟨zq_42 zg_1_1_0.2.2.2.2.1, rfl⟩
theorem zd_1_1_5 : zz_D zy_init_1_1 5 (.new 7) 3 8 := ⟨zq_187 zg_1_1_0.2.2.2.2.2.1 zg_1_1_0.2.2.2.2.2.2.1 zg_1_1_0.2.2.2.2.2.2.2.1 rfl, rfl⟩
theorem zd_1_1_8 : zz_D zy_init_1_1 8 (.dup) 1 9 := ⟨zq_89 zg_1_1_0.2.2.2.2.2.2.2.2.1, rfl⟩
theorem zd_1_1_9 : zz_D zy_init_1_1 9 (.invokespecial 9) 3 12 := ⟨zq_183 zg_1_1_0.2.2.2.2.2.2.2.2.2.1 zg_1_1_0.2.2.2.2.2.2.2.2.2.2.1 zg_1_1_0.2.2.2.2.2.2.2.2.2.2.2 rfl, rfl⟩
theorem zg_7_1_0 : zq_at zy_init_7_1.2.1 0 42 ∧ zq_at zy_init_7_1.2.1 1 183 ∧ zq_at zy_init_7_1.2.1 2 0 ∧ zq_at zy_init_7_1.2.1 3 1 ∧ zq_at zy_init_7_1.2.1 4 42 ∧ zq_at zy_init_7_1.2.1 5 16 ∧ zq_at zy_init_7_1.2.1 6 12 ∧ zq_at zy_init_7_1.2.1 7 189 ∧ zq_at zy_init_7_1.2.1 8 0 ∧ zq_at zy_init_7_1.2.1 9 9 ∧ zq_at zy_init_7_1.2.1 10 181 ∧ zq_at zy_init_7_1.2.1 11 0 ∧ zq_at zy_init_7_1.2.1 12 11 ∧ zq_at zy_init_7_1.2.1 13 3 ∧ zq_at zy_init_7_1.2.1 14 60 ∧ zq_at zy_init_7_1.2.1 15 27 ∧ zq_at zy_init_7_1.2.1 16 16 ∧ zq_at zy_init_7_1.2.1 17 11 ∧ zq_at zy_init_7_1.2.1 18 163 ∧ zq_at zy_init_7_1.2.1 19 0 ∧ zq_at zy_init_7_1.2.1 20 22 ∧ zq_at zy_init_7_1.2.1 21 42 := by decide +kernel
theorem zd_7_1_0 : zz_D zy_init_7_1 0 (.aload_n 0) 1 1 := ⟨zq_42 zg_7_1_0.1, rfl⟩
theorem zd_7_1_1 : zz_D zy_init_7_1 1 (.invokespecial 1) 3 4 := ⟨zq_183 zg_7_1_0.2.1 zg_7_1_0.2.2.1 zg_7_1_0.2.2.2.1 rfl, rfl⟩
theorem zd_7_1_4 : zz_D zy_init_7_1 4 (.aload_n 0) 1 5 := ⟨zq_42 zg_7_1_0.2.2.2.2.1, rfl⟩
theorem zd_7_1_5 : zz_D zy_init_7_1 5 (.bipush 12) 2 7 := ⟨zq_16 zg_7_1_0.2.2.2.2.2.1 zg_7_1_0.2.2.2.2.2.2.1 (by decide), rfl⟩
theorem zd_7_1_7 : zz_D zy_init_7_1 7 (.anewarray 9) 3 10 := ⟨zq_189 zg_7_1_0.2.2.2.2.2.2.2.1 zg_7_1_0.2.2.2.2.2.2.2.2.1 zg_7_1_0.2.2.2.2.2.2.2.2.2.1 rfl, rfl⟩
theorem zd_7_1_10 : zz_D zy_init_7_1 10 (.putfield 11) 3 13 := ⟨zq_181 zg_7_1_0.2.2.2.2.2.2.2.2.2.2.1 zg_7_1_0.2.2.2.2.2.2.2.2.2.2.2.1 zg_7_1_0.2.2.2.2.2.2.2.2.2.2.2.2.1 rfl, rfl⟩
theorem zd_7_1_13 : zz_D zy_init_7_1 13 (.iconst 0) 1 14 := ⟨zq_3 zg_7_1_0.2.2.2.2.2.2.2.2.2.2.2.2.2.1, rfl⟩
theorem zd_7_1_14 : zz_D zy_init_7_1 14 (.istore_n 1) 1 15 := ⟨zq_60 zg_7_1_0.2.2.2.2.2.2.2.2.2.2.2.2.2.2.1, rfl⟩
theorem zd_7_1_15 : zz_D zy_init_7_1 15 (.iload_n 1) 1 16 := ⟨zq_27 zg_7_1_0.2.2.2.2.2.2.2.2.2.2.2.2.2.2.2.1, rfl⟩
theorem zd_7_1_16 : zz_D zy_init_7_1 16 (.bipush 11) 2 18 := ⟨zq_16 zg_7_1_0.2.2.2.2.2.2.2.2.2.2.2.2.2.2.2.2.1 zg_7_1_0.2.2.2.2.2.2.2.2.2.2.2.2.2.2.2.2.2.1 (by decide), rfl⟩
theorem zd_7_1_18 : zz_B zy_init_7_1 18 (Instr.if_icmp .gt) 40 21 := ⟨22, zq_163 zg_7_1_0.2.2.2.2.2.2.2.2.2.2.2.2.2.2.2.2.2.2.1 zg_7_1_0.2.2.2.2.2.2.2.2.2.2.2.2.2.2.2.2.2.2.2.1 zg_7_1_0.2.2.2.2.2.2.2.2.2.2.2.2.2.2.2.2.2.2.2.2.1 (by decide), rfl, rfl⟩
theorem zd_7_1_21 : zz_D zy_init_7_1 21 (.aload_n 0) 1 22 := ⟨zq_42 zg_7_1_0.2.2.2.2.2.2.2.2.2.2.2.2.2.2.2.2.2.2.2.2.2, rfl⟩
theorem zg_7_1_22 : zq_at zy_init_7_1.2.1 22 180 ∧ zq_at zy_init_7_1.2.1 23 0 ∧ zq_at zy_init_7_1.2.1 24 11 ∧ zq_at zy_init_7_1.2.1 25 27 ∧ zq_at zy_init_7_1.2.1 26 187 ∧ zq_at zy_init_7_1.2.1 27 0 ∧ zq_at zy_init_7_1.2.1 28 9 ∧ zq_at zy_init_7_1.2.1 29 89 ∧ zq_at zy_init_7_1.2.1 30 183 ∧ zq_at zy_init_7_1.2.1 31 0 ∧ zq_at zy_init_7_1.2.1 32 15 := by decide +kernel
theorem zd_7_1_22 : zz_D zy_init_7_1 22 (.getfield 11) 3 25 := ⟨zq_180 zg_7_1_22.1 zg_7_1_22.2.1 zg_7_1_22.2.2.1 rfl, rfl⟩
theorem zd_7_1_25 : zz_D zy_init_7_1 25 (.iload_n 1) 1 26 := ⟨zq_27 zg_7_1_22.2.2.2.1, rfl⟩
theorem zd_7_1_26 : zz_D zy_init_7_1 26 (.new 9) 3 29 := ⟨zq_187 zg_7_1_22.2.2.2.2.1 zg_7_1_22.2.2.2.2.2.1 zg_7_1_22.2.2.2.2.2.2.1 rfl, rfl⟩
theorem zd_7_1_29 : zz_D zy_init_7_1 29 (.dup) 1 30 := ⟨zq_89 zg_7_1_22.2.2.2.2.2.2.2.1, rfl⟩
theorem zd_7_1_30 : zz_D zy_init_7_1 30 (.invokespecial 15) 3 33 := ⟨zq_183 zg_7_1_22.2.2.2.2.2.2.2.2.1 zg_7_1_22.2.2.2.2.2.2.2.2.2.1 zg_7_1_22.2.2.2.2.2.2.2.2.2.2 rfl, rfl⟩
theorem zg_4_1_0 : zq_at zy_init_4_1.2.1 0 42 ∧ zq_at zy_init_4_1.2.1 1 183 ∧ zq_at zy_init_4_1.2.1 2 0 ∧ zq_at zy_init_4_1.2.1 3 1 ∧ zq_at zy_init_4_1.2.1 4 42 ∧ zq_at zy_init_4_1.2.1 5 3 ∧ zq_at zy_init_4_1.2.1 6 3 ∧ zq_at zy_init_4_1.2.1 7 3 ∧ zq_at zy_init_4_1.2.1 8 182 ∧ zq_at zy_init_4_1.2.1 9 0 ∧ zq_at zy_init_4_1.2.1 10 9 := by decide +kernel
theorem zd_4_1_0 : zz_D zy_init_4_1 0 (.aload_n 0) 1 1 := ⟨zq_42 zg_4_1_0.1, rfl⟩
theorem zd_4_1_1 : zz_D zy_init_4_1 1 (.invokespecial 1) 3 4 := ⟨zq_183 zg_4_1_0.2.1 zg_4_1_0.2.2.1 zg_4_1_0.2.2.2.1 rfl, rfl⟩
theorem zd_4_1_4 : zz_D zy_init_4_1 4 (.aload_n 0) 1 5 := ⟨zq_42 zg_4_1_0.2.2.2.2.1, rfl⟩
theorem zd_4_1_5 : zz_D zy_init_4_1 5 (.iconst 0) 1 6 := ⟨zq_3 zg_4_1_0.2.2.2.2.2.1, rfl⟩
theorem zd_4_1_6 : zz_D zy_init_4_1 6 (.iconst 0) 1 7 := ⟨zq_3 zg_4_1_0.2.2.2.2.2.2.1, rfl⟩
theorem zd_4_1_7 : zz_D zy_init_4_1 7 (.iconst 0) 1 8 := ⟨zq_3 zg_4_1_0.2.2.2.2.2.2.2.1, rfl⟩
theorem zd_4_1_8 : zz_D zy_init_4_1 8 (.invokevirtual 9) 3 11 := ⟨zq_182 zg_4_1_0.2.2.2.2.2.2.2.2.1 zg_4_1_0.2.2.2.2.2.2.2.2.2.1 zg_4_1_0.2.2.2.2.2.2.2.2.2.2 rfl, rfl⟩
theorem zg_4_2_0 : zq_at zy_reset_4_2.2.1 0 42 ∧ zq_at zy_reset_4_2.2.1 1 27 ∧ zq_at zy_reset_4_2.2.1 2 181 ∧ zq_at zy_reset_4_2.2.1 3 0 ∧ zq_at zy_reset_4_2.2.1 4 13 ∧ zq_at zy_reset_4_2.2.1 5 42 ∧ zq_at zy_reset_4_2.2.1 6 28 ∧ zq_at zy_reset_4_2.2.1 7 181 ∧ zq_at zy_reset_4_2.2.1 8 0 ∧ zq_at zy_reset_4_2.2.1 9 17 ∧ zq_at zy_reset_4_2.2.1 10 42 ∧ zq_at zy_reset_4_2.2.1 11 29 ∧ zq_at zy_reset_4_2.2.1 12 181 ∧ zq_at zy_reset_4_2.2.1 13 0 ∧ zq_at zy_reset_4_2.2.1 14 20 ∧ zq_at zy_reset_4_2.2.1 15 42 ∧ zq_at zy_reset_4_2.2.1 16 4 ∧ zq_at zy_reset_4_2.2.1 17 181 ∧ zq_at zy_reset_4_2.2.1 18 0 ∧ zq_at zy_reset_4_2.2.1 19 23 ∧ zq_at zy_reset_4_2.2.1 20 42 ∧ zq_at zy_reset_4_2.2.1 21 4 := by decide +kernel
theorem zd_4_2_0 : zz_D zy_reset_4_2 0 (.aload_n 0) 1 1 := ⟨zq_42 zg_4_2_0.1, rfl⟩
theorem zd_4_2_1 : zz_D zy_reset_4_2 1 (.iload_n 1) 1 2 := ⟨zq_27 zg_4_2_0.2.1, rfl⟩
theorem zd_4_2_2 : zz_D zy_reset_4_2 2 (.putfield 13) 3 5 := ⟨zq_181 zg_4_2_0.2.2.1 zg_4_2_0.2.2.2.1 zg_4_2_0.2.2.2.2.1 rfl, rfl⟩
theorem zd_4_2_5 : zz_D zy_reset_4_2 5 (.aload_n 0) 1 6 := ⟨zq_42 zg_4_2_0.2.2.2.2.2.1, rfl⟩
theorem zd_4_2_6 : zz_D zy_reset_4_2 6 (.iload_n 2) 1 7 := ⟨zq_28 zg_4_2_0.2.2.2.2.2.2.1, rfl⟩
theorem zd_4_2_7 : zz_D zy_reset_4_2 7 (.putfield 17) 3 10 := ⟨zq_181 zg_4_2_0.2.2.2.2.2.2.2.1 zg_4_2_0.2.2.2.2.2.2.2.2.1 zg_4_2_0.2.2.2.2.2.2.2.2.2.1 rfl, rfl⟩
theorem zd_4_2_10 : zz_D zy_reset_4_2 10 (.aload_n 0) 1 11 := ⟨zq_42 zg_4_2_0.2.2.2.2.2.2.2.2.2.2.1, rfl⟩
theorem zd_4_2_11 : zz_D zy_reset_4_2 11 (.iload_n 3) 1 12 := ⟨zq_29 zg_4_2_0.2.2.2.2.2.2.2.2.2.2.2.1, rfl⟩
theorem zd_4_2_12 : zz_D zy_reset_4_2 12 (.putfield 20) 3 15 := ⟨zq_181 zg_4_2_0.2.2.2.2.2.2.2.2.2.2.2.2.1 zg_4_2_0.2.2.2.2.2.2.2.2.2.2.2.2.2.1 zg_4_2_0.2.2.2.2.2.2.2.2.2.2.2.2.2.2.1 rfl, rfl⟩
theorem zd_4_2_15 : zz_D zy_reset_4_2 15 (.aload_n 0) 1 16 := ⟨zq_42 zg_4_2_0.2.2.2.2.2.2.2.2.2.2.2.2.2.2.2.1, rfl⟩
theorem zd_4_2_16 : zz_D zy_reset_4_2 16 (.iconst 1) 1 17 := ⟨zq_4 zg_4_2_0.2.2.2.2.2.2.2.2.2.2.2.2.2.2.2.2.1, rfl⟩
theorem zd_4_2_17 : zz_D zy_reset_4_2 17 (.putfield 23) 3 20 := ⟨zq_181 zg_4_2_0.2.2.2.2.2.2.2.2.2.2.2.2.2.2.2.2.2.1 zg_4_2_0.2.2.2.2.2.2.2.2.2.2.2.2.2.2.2.2.2.2.1 zg_4_2_0.2.2.2.2.2.2.2.2.2.2.2.2.2.2.2.2.2.2.2.1 rfl, rfl⟩
theorem zd_4_2_20 : zz_D zy_reset_4_2 20 (.aload_n 0) 1 21 := ⟨zq_42 zg_4_2_0.2.2.2.2.2.2.2.2.2.2.2.2.2.2.2.2.2.2.2.2.1, rfl⟩
theorem zd_4_2_21 : zz_D zy_reset_4_2 21 (.iconst 1) 1 22 := ⟨zq_4 zg_4_2_0.2.2.2.2.2.2.2.2.2.2.2.2.2.2.2.2.2.2.2.2.2, rfl⟩
theorem zg_4_2_22 : zq_at zy_reset_4_2.2.1 22 181 ∧ zq_at zy_reset_4_2.2.1 23 0 ∧ zq_at zy_reset_4_2.2.1 24 26 ∧ zq_at zy_reset_4_2.2.1 25 42 ∧ zq_at zy_reset_4_2.2.1 26 4 ∧ zq_at zy_reset_4_2.2.1 27 181 ∧ zq_at zy_reset_4_2.2.1 28 0 ∧ zq_at zy_reset_4_2.2.1 29 29 ∧ zq_at zy_reset_4_2.2.1 30 42 ∧ zq_at zy_reset_4_2.2.1 31 3 ∧ zq_at zy_reset_4_2.2.1 32 181 ∧ zq_at zy_reset_4_2.2.1 33 0 ∧ zq_at zy_reset_4_2.2.1 34 32 ∧ zq_at zy_reset_4_2.2.1 35 42 ∧ zq_at zy_reset_4_2.2.1 36 3 ∧ zq_at zy_reset_4_2.2.1 37 181 ∧ zq_at zy_reset_4_2.2.1 38 0 ∧ zq_at zy_reset_4_2.2.1 39 35 ∧ zq_at zy_reset_4_2.2.1 40 42 ∧ zq_at zy_reset_4_2.2.1 41 3 ∧ zq_at zy_reset_4_2.2.1 42 181 ∧ zq_at zy_reset_4_2.2.1 43 0 ∧ zq_at zy_reset_4_2.2.1 44 38 ∧ zq_at zy_reset_4_2.2.1 45 42 := by decide +kernel
theorem zd_4_2_22 : zz_D zy_reset_4_2 22 (.putfield 26) 3 25 := ⟨zq_181 zg_4_2_22.1 zg_4_2_22.2.1 zg_4_2_22.2.2.1 rfl, rfl⟩
theorem zd_4_2_25 : zz_D zy_reset_4_2 25 (.aload_n 0) 1 26 := ⟨zq_42 zg_4_2_22.2.2.2.1, rfl⟩
theorem zd_4_2_26 : zz_D zy_reset_4_2 26 (.iconst 1) 1 27 := ⟨zq_4 zg_4_2_22.2.2.2.2.1, rfl⟩
theorem zd_4_2_27 : zz_D zy_reset_4_2 27 (.putfield 29) 3 30 := ⟨zq_181 zg_4_2_22.2.2.2.2.2.1 zg_4_2_22.2.2.2.2.2.2.1 zg_4_2_22.2.2.2.2.2.2.2.1 rfl, rfl⟩
theorem zd_4_2_30 : zz_D zy_reset_4_2 30 (.aload_n 0) 1 31 := ⟨zq_42 zg_4_2_22.2.2.2.2.2.2.2.2.1, rfl⟩
theorem zd_4_2_31 : zz_D zy_reset_4_2 31 (.iconst 0) 1 32 := ⟨zq_3 zg_4_2_22.2.2.2.2.2.2.2.2.2.1, rfl⟩
theorem zd_4_2_32 : zz_D zy_reset_4_2 32 (.putfield 32) 3 35 := ⟨zq_181 zg_4_2_22.2.2.2.2.2.2.2.2.2.2.1 zg_4_2_22.2.2.2.2.2.2.2.2.2.2.2.1 zg_4_2_22.2.2.2.2.2.2.2.2.2.2.2.2.1 rfl, rfl⟩
theorem zd_4_2_35 : zz_D zy_reset_4_2 35 (.aload_n 0) 1 36 := ⟨zq_42 zg_4_2_22.2.2.2.2.2.2.2.2.2.2.2.2.2.1, rfl⟩
theorem zd_4_2_36 : zz_D zy_reset_4_2 36 (.iconst 0) 1 37 := ⟨zq_3 zg_4_2_22.2.2.2.2.2.2.2.2.2.2.2.2.2.2.1, rfl⟩
theorem zd_4_2_37 : zz_D zy_reset_4_2 37 (.putfield 35) 3 40 := ⟨zq_181 zg_4_2_22.2.2.2.2.2.2.2.2.2.2.2.2.2.2.2.1 zg_4_2_22.2.2.2.2.2.2.2.2.2.2.2.2.2.2.2.2.1 zg_4_2_22.2.2.2.2.2.2.2.2.2.2.2.2.2.2.2.2.2.1 rfl, rfl⟩
theorem zd_4_2_40 : zz_D zy_reset_4_2 40 (.aload_n 0) 1 41 := ⟨zq_42 zg_4_2_22.2.2.2.2.2.2.2.2.2.2.2.2.2.2.2.2.2.2.1, rfl⟩
theorem zd_4_2_41 : zz_D zy_reset_4_2 41 (.iconst 0) 1 42 := ⟨zq_3 zg_4_2_22.2.2.2.2.2.2.2.2.2.2.2.2.2.2.2.2.2.2.2.1, rfl⟩
theorem zd_4_2_42 : zz_D zy_reset_4_2 42 (.putfield 38) 3 45 := ⟨zq_181 zg_4_2_22.2.2.2.2.2.2.2.2.2.2.2.2.2.2.2.2.2.2.2.2.1 zg_4_2_22.2.2.2.2.2.2.2.2.2.2.2.2.2.2.2.2.2.2.2.2.2.1 zg_4_2_22.2.2.2.2.2.2.2.2.2.2.2.2.2.2.2.2.2.2.2.2.2.2.1 rfl, rfl⟩
theorem zd_4_2_45 : zz_D zy_reset_4_2 45 (.aload_n 0) 1 46 := ⟨zq_42 zg_4_2_22.2.2.2.2.2.2.2.2.2.2.2.2.2.2.2.2.2.2.2.2.2.2.2, rfl⟩
theorem zg_4_2_46 : zq_at zy_reset_4_2.2.1 46 3 ∧ zq_at zy_reset_4_2.2.1 47 181 ∧ zq_at zy_reset_4_2.2.1 48 0 ∧ zq_at zy_reset_4_2.2.1 49 42 ∧ zq_at zy_reset_4_2.2.1 50 42 ∧ zq_at zy_reset_4_2.2.1 51 4 ∧ zq_at zy_reset_4_2.2.1 52 4 ∧ zq_at zy_reset_4_2.2.1 53 4 ∧ zq_at zy_reset_4_2.2.1 54 182 ∧ zq_at zy_reset_4_2.2.1 55 0 ∧ zq_at zy_reset_4_2.2.1 56 45 := by decide +kernel
theorem zd_4_2_46 : zz_D zy_reset_4_2 46 (.iconst 0) 1 47 := ⟨zq_3 zg_4_2_46.1, rfl⟩
theorem zd_4_2_47 : zz_D zy_reset_4_2 47 (.putfield 42) 3 50 := ⟨zq_181 zg_4_2_46.2.1 zg_4_2_46.2.2.1 zg_4_2_46.2.2.2.1 rfl, rfl⟩
theorem zd_4_2_50 : zz_D zy_reset_4_2 50 (.aload_n 0) 1 51 := ⟨zq_42 zg_4_2_46.2.2.2.2.1, rfl⟩
theorem zd_4_2_51 : zz_D zy_reset_4_2 51 (.iconst 1) 1 52 := ⟨zq_4 zg_4_2_46.2.2.2.2.2.1, rfl⟩
theorem zd_4_2_52 : zz_D zy_reset_4_2 52 (.iconst 1) 1 53 := ⟨zq_4 zg_4_2_46.2.2.2.2.2.2.1, rfl⟩
theorem zd_4_2_53 : zz_D zy_reset_4_2 53 (.iconst 1) 1 54 := ⟨zq_4 zg_4_2_46.2.2.2.2.2.2.2.1, rfl⟩
theorem zd_4_2_54 : zz_D zy_reset_4_2 54 (.invokevirtual 45) 3 57 := ⟨zq_182 zg_4_2_46.2.2.2.2.2.2.2.2.1 zg_4_2_46.2.2.2.2.2.2.2.2.2.1 zg_4_2_46.2.2.2.2.2.2.2.2.2.2 rfl, rfl⟩
theorem zg_4_3_0 : zq_at zy_takeForm_4_3.2.1 0 42 ∧ zq_at zy_takeForm_4_3.2.1 1 27 ∧ zq_at zy_takeForm_4_3.2.1 2 181 ∧ zq_at zy_takeForm_4_3.2.1 3 0 ∧ zq_at zy_takeForm_4_3.2.1 4 54 ∧ zq_at zy_takeForm_4_3.2.1 5 42 ∧ zq_at zy_takeForm_4_3.2.1 6 28 ∧ zq_at zy_takeForm_4_3.2.1 7 181 ∧ zq_at zy_takeForm_4_3.2.1 8 0 ∧ zq_at zy_takeForm_4_3.2.1 9 57 ∧ zq_at zy_takeForm_4_3.2.1 10 42 ∧ zq_at zy_takeForm_4_3.2.1 11 29 ∧ zq_at zy_takeForm_4_3.2.1 12 181 ∧ zq_at zy_takeForm_4_3.2.1 13 0 ∧ zq_at zy_takeForm_4_3.2.1 14 60 ∧ zq_at zy_takeForm_4_3.2.1 15 177 := by decide +kernel
theorem zd_4_3_0 : zz_D zy_takeForm_4_3 0 (.aload_n 0) 1 1 := ⟨zq_42 zg_4_3_0.1, rfl⟩
theorem zd_4_3_1 : zz_D zy_takeForm_4_3 1 (.iload_n 1) 1 2 := ⟨zq_27 zg_4_3_0.2.1, rfl⟩
theorem zd_4_3_2 : zz_D zy_takeForm_4_3 2 (.putfield 54) 3 5 := ⟨zq_181 zg_4_3_0.2.2.1 zg_4_3_0.2.2.2.1 zg_4_3_0.2.2.2.2.1 rfl, rfl⟩
theorem zd_4_3_5 : zz_D zy_takeForm_4_3 5 (.aload_n 0) 1 6 := ⟨zq_42 zg_4_3_0.2.2.2.2.2.1, rfl⟩
theorem zd_4_3_6 : zz_D zy_takeForm_4_3 6 (.iload_n 2) 1 7 := ⟨zq_28 zg_4_3_0.2.2.2.2.2.2.1, rfl⟩
theorem zd_4_3_7 : zz_D zy_takeForm_4_3 7 (.putfield 57) 3 10 := ⟨zq_181 zg_4_3_0.2.2.2.2.2.2.2.1 zg_4_3_0.2.2.2.2.2.2.2.2.1 zg_4_3_0.2.2.2.2.2.2.2.2.2.1 rfl, rfl⟩
theorem zd_4_3_10 : zz_D zy_takeForm_4_3 10 (.aload_n 0) 1 11 := ⟨zq_42 zg_4_3_0.2.2.2.2.2.2.2.2.2.2.1, rfl⟩
theorem zd_4_3_11 : zz_D zy_takeForm_4_3 11 (.iload_n 3) 1 12 := ⟨zq_29 zg_4_3_0.2.2.2.2.2.2.2.2.2.2.2.1, rfl⟩
theorem zd_4_3_12 : zz_D zy_takeForm_4_3 12 (.putfield 60) 3 15 := ⟨zq_181 zg_4_3_0.2.2.2.2.2.2.2.2.2.2.2.2.1 zg_4_3_0.2.2.2.2.2.2.2.2.2.2.2.2.2.1 zg_4_3_0.2.2.2.2.2.2.2.2.2.2.2.2.2.2.1 rfl, rfl⟩
theorem zd_4_3_15 : zz_D zy_takeForm_4_3 15 (.return_) 1 16 := ⟨zq_177 zg_4_3_0.2.2.2.2.2.2.2.2.2.2.2.2.2.2.2, rfl⟩
-- TensorForge$Layer takeForm (III)V at 1003, 1004
abbrev zr_takeForm_4_3_c1003_1004 : Room := { frames := 0, cells := 0, slots := 0, locals := 0 }
def zp_takeForm_4_3_c1003_1004 (S0 : zz_S) : zz_S → Prop := fun S => zz_Gm [1003] [] S ∧ zz_fr [(1003, 10), (1003, 11), (1003, 12)] [] (fun _ _ => False) S0 S ∧ (S 1003 10 = 1 ∧ S 1003 11 = 1 ∧ S 1003 12 = 1)
theorem zc_takeForm_4_3_c1003_1004 {g : mm_G} {l : Launch} (S0 : zz_S) (G_S0 : zz_Gm [1003] [] S0) : mm_Met g l zy_takeForm_4_3 zr_takeForm_4_3_c1003_1004 [.ref 1003, zi 1, zi 1, zi 1] (zz_M S0 1004) 1004 (zz_QV 1004 (zp_takeForm_4_3_c1003_1004 S0)) := by
  refine zz_enter (by decide) (Nat.le_of_ble_eq_true rfl) (zz_less (ls1 := [some (.ref 1003), some (zi 1), some (zi 1), some (zi 1)]) ⟨rfl, ⟨rfl, ⟨rfl, ⟨rfl, trivial⟩⟩⟩⟩ ?_)
  have F_S0 : zz_fr [(1003, 10), (1003, 11), (1003, 12)] [] (fun _ _ => False) S0 S0 := zz_fr.refl
  refine zz_aload_n (x := 1003) rfl zd_4_3_0 ?_
  refine zz_iload_n (x := 1) rfl zd_4_3_1 ?_
  refine zz_puti zd_4_3_2 zf_Layer_54 zT_1003 rfl (by decide) (fun S1 qS1 => ?_)
  have G_S1 := zz_Gm.put [] G_S0 qS1 (-2147483648) 2147483647 rfl (by decide) (by decide +kernel)
  have F_S1 := zz_fr.puts F_S0 qS1 (by decide +kernel)
  refine zz_aload_n (x := 1003) rfl zd_4_3_5 ?_
  refine zz_iload_n (x := 1) rfl zd_4_3_6 ?_
  refine zz_puti zd_4_3_7 zf_Layer_57 zT_1003 rfl (by decide) (fun S2 qS2 => ?_)
  have G_S2 := zz_Gm.put [] G_S1 qS2 (-2147483648) 2147483647 rfl (by decide) (by decide +kernel)
  have F_S2 := zz_fr.puts F_S1 qS2 (by decide +kernel)
  refine zz_aload_n (x := 1003) rfl zd_4_3_10 ?_
  refine zz_iload_n (x := 1) rfl zd_4_3_11 ?_
  refine zz_puti zd_4_3_12 zf_Layer_60 zT_1003 rfl (by decide) (fun S3 qS3 => ?_)
  have G_S3 := zz_Gm.put [] G_S2 qS3 (-2147483648) 2147483647 rfl (by decide) (by decide +kernel)
  have F_S3 := zz_fr.puts F_S2 qS3 (by decide +kernel)
  have e4 : S3 1003 10 = 1 := (zz_ro qS3 (fun h => absurd h.2 (by decide)) (zz_ro qS2 (fun h => absurd h.2 (by decide)) (zz_rs qS1)))
  have e5 : S3 1003 11 = 1 := (zz_ro qS3 (fun h => absurd h.2 (by decide)) (zz_rs qS2))
  have e6 : S3 1003 12 = 1 := (zz_rs qS3)
  exact zz_vret zd_4_3_15 rfl (Nat.le_of_ble_eq_true rfl) (Nat.le_of_ble_eq_true rfl) ⟨_, rfl, G_S3, F_S3, by omega⟩
theorem zf_Layer_48 : mm_Fl "TensorForge$Layer" 48 2 13 .int false := ⟨R_Layer, F_Layer, 15, t_Layer, rfl, i_Layer, by decide, mm_tb_1 107 (by decide +kernel) rfl, rfl, t_Layer_ok, n_Layer, rfl, by decide +kernel⟩
theorem zf_Layer_51 : mm_Fl "TensorForge$Layer" 51 2 14 .int false := ⟨R_Layer, F_Layer, 15, t_Layer, rfl, i_Layer, by decide, mm_tb_1 110 (by decide +kernel) rfl, rfl, t_Layer_ok, n_Layer, rfl, by decide +kernel⟩
theorem zg_4_2_57 : zq_at zy_reset_4_2.2.1 57 42 ∧ zq_at zy_reset_4_2.2.1 58 3 ∧ zq_at zy_reset_4_2.2.1 59 181 ∧ zq_at zy_reset_4_2.2.1 60 0 ∧ zq_at zy_reset_4_2.2.1 61 48 ∧ zq_at zy_reset_4_2.2.1 62 42 ∧ zq_at zy_reset_4_2.2.1 63 3 ∧ zq_at zy_reset_4_2.2.1 64 181 ∧ zq_at zy_reset_4_2.2.1 65 0 ∧ zq_at zy_reset_4_2.2.1 66 51 ∧ zq_at zy_reset_4_2.2.1 67 177 := by decide +kernel
theorem zd_4_2_57 : zz_D zy_reset_4_2 57 (.aload_n 0) 1 58 := ⟨zq_42 zg_4_2_57.1, rfl⟩
theorem zd_4_2_58 : zz_D zy_reset_4_2 58 (.iconst 0) 1 59 := ⟨zq_3 zg_4_2_57.2.1, rfl⟩
theorem zd_4_2_59 : zz_D zy_reset_4_2 59 (.putfield 48) 3 62 := ⟨zq_181 zg_4_2_57.2.2.1 zg_4_2_57.2.2.2.1 zg_4_2_57.2.2.2.2.1 rfl, rfl⟩
theorem zd_4_2_62 : zz_D zy_reset_4_2 62 (.aload_n 0) 1 63 := ⟨zq_42 zg_4_2_57.2.2.2.2.2.1, rfl⟩
theorem zd_4_2_63 : zz_D zy_reset_4_2 63 (.iconst 0) 1 64 := ⟨zq_3 zg_4_2_57.2.2.2.2.2.2.1, rfl⟩
theorem zd_4_2_64 : zz_D zy_reset_4_2 64 (.putfield 51) 3 67 := ⟨zq_181 zg_4_2_57.2.2.2.2.2.2.2.1 zg_4_2_57.2.2.2.2.2.2.2.2.1 zg_4_2_57.2.2.2.2.2.2.2.2.2.1 rfl, rfl⟩
theorem zd_4_2_67 : zz_D zy_reset_4_2 67 (.return_) 1 68 := ⟨zq_177 zg_4_2_57.2.2.2.2.2.2.2.2.2.2, rfl⟩
-- TensorForge$Layer reset (III)V at 1003, 1004
abbrev zr_reset_4_2_c1003_1004 : Room := { frames := 1, cells := 0, slots := 0, locals := 15 }
def zp_reset_4_2_c1003_1004 (S0 : zz_S) : zz_S → Prop := fun S => zz_Gm [1003, 1003] [] S ∧ zz_fr [(1003, 0), (1003, 1), (1003, 2), (1003, 3), (1003, 4), (1003, 5), (1003, 6), (1003, 7), (1003, 8), (1003, 9), (1003, 10), (1003, 11), (1003, 12), (1003, 13), (1003, 14)] [] (fun _ _ => False) S0 S ∧ (S 1003 0 = 0 ∧ S 1003 1 = 0 ∧ S 1003 2 = 0 ∧ S 1003 3 = 1 ∧ S 1003 4 = 1 ∧ S 1003 5 = 1 ∧ S 1003 6 = 0 ∧ S 1003 7 = 0 ∧ S 1003 8 = 0 ∧ S 1003 9 = 0 ∧ S 1003 10 = 1 ∧ S 1003 11 = 1 ∧ S 1003 12 = 1 ∧ S 1003 13 = 0)
theorem zc_reset_4_2_c1003_1004 {g : mm_G} {l : Launch} (S0 : zz_S) (G_S0 : zz_Gm [1003] [] S0) : mm_Met g l zy_reset_4_2 zr_reset_4_2_c1003_1004 [.ref 1003, zi 0, zi 0, zi 0] (zz_M S0 1004) 1004 (zz_QV 1004 (zp_reset_4_2_c1003_1004 S0)) := by
  refine zz_enter (by decide) (Nat.le_of_ble_eq_true rfl) (zz_less (ls1 := [some (.ref 1003), some (zi 0), some (zi 0), some (zi 0)]) ⟨rfl, ⟨rfl, ⟨rfl, ⟨rfl, trivial⟩⟩⟩⟩ ?_)
  have F_S0 : zz_fr [(1003, 0), (1003, 1), (1003, 2), (1003, 3), (1003, 4), (1003, 5), (1003, 6), (1003, 7), (1003, 8), (1003, 9), (1003, 10), (1003, 11), (1003, 12), (1003, 13), (1003, 14)] [] (fun _ _ => False) S0 S0 := zz_fr.refl
  refine zz_aload_n (x := 1003) rfl zd_4_2_0 ?_
  refine zz_iload_n (x := 0) rfl zd_4_2_1 ?_
  refine zz_puti zd_4_2_2 zf_Layer_13 zT_1003 rfl (by decide) (fun S1 qS1 => ?_)
  have G_S1 := zz_Gm.put [] G_S0 qS1 (-2147483648) 2147483647 rfl (by decide) (by decide +kernel)
  have F_S1 := zz_fr.puts F_S0 qS1 (by decide +kernel)
  refine zz_aload_n (x := 1003) rfl zd_4_2_5 ?_
  refine zz_iload_n (x := 0) rfl zd_4_2_6 ?_
  refine zz_puti zd_4_2_7 zf_Layer_17 zT_1003 rfl (by decide) (fun S2 qS2 => ?_)
  have G_S2 := zz_Gm.put [] G_S1 qS2 (-2147483648) 2147483647 rfl (by decide) (by decide +kernel)
  have F_S2 := zz_fr.puts F_S1 qS2 (by decide +kernel)
  refine zz_aload_n (x := 1003) rfl zd_4_2_10 ?_
  refine zz_iload_n (x := 0) rfl zd_4_2_11 ?_
  refine zz_puti zd_4_2_12 zf_Layer_20 zT_1003 rfl (by decide) (fun S3 qS3 => ?_)
  have G_S3 := zz_Gm.put [] G_S2 qS3 (-2147483648) 2147483647 rfl (by decide) (by decide +kernel)
  have F_S3 := zz_fr.puts F_S2 qS3 (by decide +kernel)
  refine zz_aload_n (x := 1003) rfl zd_4_2_15 ?_
  refine zz_iconst zd_4_2_16 ?_
  refine zz_puti zd_4_2_17 zf_Layer_23 zT_1003 rfl (by decide) (fun S4 qS4 => ?_)
  have G_S4 := zz_Gm.put [] G_S3 qS4 (-2147483648) 2147483647 rfl (by decide) (by decide +kernel)
  have F_S4 := zz_fr.puts F_S3 qS4 (by decide +kernel)
  refine zz_aload_n (x := 1003) rfl zd_4_2_20 ?_
  refine zz_iconst zd_4_2_21 ?_
  refine zz_puti zd_4_2_22 zf_Layer_26 zT_1003 rfl (by decide) (fun S5 qS5 => ?_)
  have G_S5 := zz_Gm.put [] G_S4 qS5 (-2147483648) 2147483647 rfl (by decide) (by decide +kernel)
  have F_S5 := zz_fr.puts F_S4 qS5 (by decide +kernel)
  refine zz_aload_n (x := 1003) rfl zd_4_2_25 ?_
  refine zz_iconst zd_4_2_26 ?_
  refine zz_puti zd_4_2_27 zf_Layer_29 zT_1003 rfl (by decide) (fun S6 qS6 => ?_)
  have G_S6 := zz_Gm.put [] G_S5 qS6 (-2147483648) 2147483647 rfl (by decide) (by decide +kernel)
  have F_S6 := zz_fr.puts F_S5 qS6 (by decide +kernel)
  refine zz_aload_n (x := 1003) rfl zd_4_2_30 ?_
  refine zz_iconst zd_4_2_31 ?_
  refine zz_puti zd_4_2_32 zf_Layer_32 zT_1003 rfl (by decide) (fun S7 qS7 => ?_)
  have G_S7 := zz_Gm.put [] G_S6 qS7 (-2147483648) 2147483647 rfl (by decide) (by decide +kernel)
  have F_S7 := zz_fr.puts F_S6 qS7 (by decide +kernel)
  refine zz_aload_n (x := 1003) rfl zd_4_2_35 ?_
  refine zz_iconst zd_4_2_36 ?_
  refine zz_puti zd_4_2_37 zf_Layer_35 zT_1003 rfl (by decide) (fun S8 qS8 => ?_)
  have G_S8 := zz_Gm.put [] G_S7 qS8 (-2147483648) 2147483647 rfl (by decide) (by decide +kernel)
  have F_S8 := zz_fr.puts F_S7 qS8 (by decide +kernel)
  refine zz_aload_n (x := 1003) rfl zd_4_2_40 ?_
  refine zz_iconst zd_4_2_41 ?_
  refine zz_putz zd_4_2_42 zf_Layer_38 zT_1003 rfl (by decide) (by decide) (fun S9 qS9 => ?_)
  have G_S9 := zz_Gm.put [] G_S8 qS9 0 1 rfl (by decide) (by decide +kernel)
  have F_S9 := zz_fr.puts F_S8 qS9 (by decide +kernel)
  refine zz_aload_n (x := 1003) rfl zd_4_2_45 ?_
  refine zz_iconst zd_4_2_46 ?_
  refine zz_puti zd_4_2_47 zf_Layer_42 zT_1003 rfl (by decide) (fun S10 qS10 => ?_)
  have G_S10 := zz_Gm.put [] G_S9 qS10 (-2147483648) 2147483647 rfl (by decide) (by decide +kernel)
  have F_S10 := zz_fr.puts F_S9 qS10 (by decide +kernel)
  refine zz_aload_n (x := 1003) rfl zd_4_2_50 ?_
  refine zz_iconst zd_4_2_51 ?_
  refine zz_iconst zd_4_2_52 ?_
  refine zz_iconst zd_4_2_53 ?_
  refine zz_callVV [zi 1, zi 1, zi 1] zd_4_2_54 zk_Layer_45 zT_1003 (by decide) rfl rfl ⟨Nat.le_of_ble_eq_true rfl, Nat.le_of_ble_eq_true rfl⟩ ⟨rfl, rfl⟩ (Nat.le_of_ble_eq_true rfl) (Nat.le_of_ble_eq_true rfl) (zc_takeForm_4_3_c1003_1004 S10 (zz_Gm.sub (C1 := [1003]) (X1 := []) G_S10 (by decide +kernel) (by decide +kernel))) (fun S11 hP => ?_)
  obtain ⟨gS11, fS11, o12⟩ := hP
  have F_S11 := zz_fr.trans F_S10 fS11 (by decide +kernel) zz_nv
  have G_S11 := zz_Gm.call [] G_S10 fS11 gS11 (by decide +kernel) (by decide +kernel) (by decide +kernel) (by decide +kernel)
  refine zz_aload_n (x := 1003) rfl zd_4_2_57 ?_
  refine zz_iconst zd_4_2_58 ?_
  refine zz_puti zd_4_2_59 zf_Layer_48 zT_1003 rfl (by decide) (fun S13 qS13 => ?_)
  have G_S13 := zz_Gm.put [] G_S11 qS13 (-2147483648) 2147483647 rfl (by decide) (by decide +kernel)
  have F_S13 := zz_fr.puts F_S11 qS13 (by decide +kernel)
  refine zz_aload_n (x := 1003) rfl zd_4_2_62 ?_
  refine zz_iconst zd_4_2_63 ?_
  refine zz_puti zd_4_2_64 zf_Layer_51 zT_1003 rfl (by decide) (fun S14 qS14 => ?_)
  have G_S14 := zz_Gm.put [] G_S13 qS14 (-2147483648) 2147483647 rfl (by decide) (by decide +kernel)
  have F_S14 := zz_fr.puts F_S13 qS14 (by decide +kernel)
  have e15 : S14 1003 0 = 0 := (zz_ro qS14 (fun h => absurd h.2 (by decide)) (zz_ro qS13 (fun h => absurd h.2 (by decide)) (zz_rc fS11 rfl rfl (fun h => h) (zz_ro qS10 (fun h => absurd h.2 (by decide)) (zz_ro qS9 (fun h => absurd h.2 (by decide)) (zz_ro qS8 (fun h => absurd h.2 (by decide)) (zz_ro qS7 (fun h => absurd h.2 (by decide)) (zz_ro qS6 (fun h => absurd h.2 (by decide)) (zz_ro qS5 (fun h => absurd h.2 (by decide)) (zz_ro qS4 (fun h => absurd h.2 (by decide)) (zz_ro qS3 (fun h => absurd h.2 (by decide)) (zz_ro qS2 (fun h => absurd h.2 (by decide)) (zz_rs qS1)))))))))))))
  have e16 : S14 1003 1 = 0 := (zz_ro qS14 (fun h => absurd h.2 (by decide)) (zz_ro qS13 (fun h => absurd h.2 (by decide)) (zz_rc fS11 rfl rfl (fun h => h) (zz_ro qS10 (fun h => absurd h.2 (by decide)) (zz_ro qS9 (fun h => absurd h.2 (by decide)) (zz_ro qS8 (fun h => absurd h.2 (by decide)) (zz_ro qS7 (fun h => absurd h.2 (by decide)) (zz_ro qS6 (fun h => absurd h.2 (by decide)) (zz_ro qS5 (fun h => absurd h.2 (by decide)) (zz_ro qS4 (fun h => absurd h.2 (by decide)) (zz_ro qS3 (fun h => absurd h.2 (by decide)) (zz_rs qS2))))))))))))
  have g17 := trivial
  have e18 : S14 1003 10 = S11 1003 10 := (zz_ro qS14 (fun h => absurd h.2 (by decide)) (zz_ro qS13 (fun h => absurd h.2 (by decide)) rfl))
  have g19 := trivial
  have e20 : S14 1003 11 = S11 1003 11 := (zz_ro qS14 (fun h => absurd h.2 (by decide)) (zz_ro qS13 (fun h => absurd h.2 (by decide)) rfl))
  have g21 := trivial
  have e22 : S14 1003 12 = S11 1003 12 := (zz_ro qS14 (fun h => absurd h.2 (by decide)) (zz_ro qS13 (fun h => absurd h.2 (by decide)) rfl))
  have e23 : S14 1003 13 = 0 := (zz_ro qS14 (fun h => absurd h.2 (by decide)) (zz_rs qS13))
  have e24 : S14 1003 2 = 0 := (zz_ro qS14 (fun h => absurd h.2 (by decide)) (zz_ro qS13 (fun h => absurd h.2 (by decide)) (zz_rc fS11 rfl rfl (fun h => h) (zz_ro qS10 (fun h => absurd h.2 (by decide)) (zz_ro qS9 (fun h => absurd h.2 (by decide)) (zz_ro qS8 (fun h => absurd h.2 (by decide)) (zz_ro qS7 (fun h => absurd h.2 (by decide)) (zz_ro qS6 (fun h => absurd h.2 (by decide)) (zz_ro qS5 (fun h => absurd h.2 (by decide)) (zz_ro qS4 (fun h => absurd h.2 (by decide)) (zz_rs qS3)))))))))))
  have e25 : S14 1003 3 = 1 := (zz_ro qS14 (fun h => absurd h.2 (by decide)) (zz_ro qS13 (fun h => absurd h.2 (by decide)) (zz_rc fS11 rfl rfl (fun h => h) (zz_ro qS10 (fun h => absurd h.2 (by decide)) (zz_ro qS9 (fun h => absurd h.2 (by decide)) (zz_ro qS8 (fun h => absurd h.2 (by decide)) (zz_ro qS7 (fun h => absurd h.2 (by decide)) (zz_ro qS6 (fun h => absurd h.2 (by decide)) (zz_ro qS5 (fun h => absurd h.2 (by decide)) (zz_rs qS4))))))))))
  have e26 : S14 1003 4 = 1 := (zz_ro qS14 (fun h => absurd h.2 (by decide)) (zz_ro qS13 (fun h => absurd h.2 (by decide)) (zz_rc fS11 rfl rfl (fun h => h) (zz_ro qS10 (fun h => absurd h.2 (by decide)) (zz_ro qS9 (fun h => absurd h.2 (by decide)) (zz_ro qS8 (fun h => absurd h.2 (by decide)) (zz_ro qS7 (fun h => absurd h.2 (by decide)) (zz_ro qS6 (fun h => absurd h.2 (by decide)) (zz_rs qS5)))))))))
  have e27 : S14 1003 5 = 1 := (zz_ro qS14 (fun h => absurd h.2 (by decide)) (zz_ro qS13 (fun h => absurd h.2 (by decide)) (zz_rc fS11 rfl rfl (fun h => h) (zz_ro qS10 (fun h => absurd h.2 (by decide)) (zz_ro qS9 (fun h => absurd h.2 (by decide)) (zz_ro qS8 (fun h => absurd h.2 (by decide)) (zz_ro qS7 (fun h => absurd h.2 (by decide)) (zz_rs qS6))))))))
  have e28 : S14 1003 6 = 0 := (zz_ro qS14 (fun h => absurd h.2 (by decide)) (zz_ro qS13 (fun h => absurd h.2 (by decide)) (zz_rc fS11 rfl rfl (fun h => h) (zz_ro qS10 (fun h => absurd h.2 (by decide)) (zz_ro qS9 (fun h => absurd h.2 (by decide)) (zz_ro qS8 (fun h => absurd h.2 (by decide)) (zz_rs qS7)))))))
  have e29 : S14 1003 7 = 0 := (zz_ro qS14 (fun h => absurd h.2 (by decide)) (zz_ro qS13 (fun h => absurd h.2 (by decide)) (zz_rc fS11 rfl rfl (fun h => h) (zz_ro qS10 (fun h => absurd h.2 (by decide)) (zz_ro qS9 (fun h => absurd h.2 (by decide)) (zz_rs qS8))))))
  have e30 : S14 1003 8 = 0 := (zz_ro qS14 (fun h => absurd h.2 (by decide)) (zz_ro qS13 (fun h => absurd h.2 (by decide)) (zz_rc fS11 rfl rfl (fun h => h) (zz_ro qS10 (fun h => absurd h.2 (by decide)) (zz_rs qS9)))))
  have e31 : S14 1003 9 = 0 := (zz_ro qS14 (fun h => absurd h.2 (by decide)) (zz_ro qS13 (fun h => absurd h.2 (by decide)) (zz_rc fS11 rfl rfl (fun h => h) (zz_rs qS10))))
  exact zz_vret zd_4_2_67 rfl (Nat.le_of_ble_eq_true rfl) (Nat.le_of_ble_eq_true rfl) ⟨_, rfl, G_S14, F_S14, by omega⟩
theorem zg_4_1_11 : zq_at zy_init_4_1.2.1 11 177 := by decide +kernel
theorem zd_4_1_11 : zz_D zy_init_4_1 11 (.return_) 1 12 := ⟨zq_177 zg_4_1_11, rfl⟩
-- TensorForge$Layer <init> ()V at 1003, 1004
abbrev zr_init_4_1_c1003_1004 : Room := { frames := 2, cells := 0, slots := 0, locals := 30 }
def zp_init_4_1_c1003_1004 (S0 : zz_S) : zz_S → Prop := fun S => zz_Gm [1003, 1003, 1003] [] S ∧ zz_fr [(1003, 0), (1003, 1), (1003, 2), (1003, 3), (1003, 4), (1003, 5), (1003, 6), (1003, 7), (1003, 8), (1003, 9), (1003, 10), (1003, 11), (1003, 12), (1003, 13), (1003, 14)] [] (fun _ _ => False) S0 S ∧ (S 1003 0 = 0 ∧ S 1003 1 = 0 ∧ S 1003 2 = 0 ∧ S 1003 3 = 1 ∧ S 1003 4 = 1 ∧ S 1003 5 = 1 ∧ S 1003 6 = 0 ∧ S 1003 7 = 0 ∧ S 1003 8 = 0 ∧ S 1003 9 = 0 ∧ S 1003 10 = 1 ∧ S 1003 11 = 1 ∧ S 1003 12 = 1 ∧ S 1003 13 = 0)
theorem zc_init_4_1_c1003_1004 {g : mm_G} {l : Launch} (S0 : zz_S) (G_S0 : zz_Gm [1003] [] S0) : mm_Met g l zy_init_4_1 zr_init_4_1_c1003_1004 [.ref 1003] (zz_M S0 1004) 1004 (zz_QV 1004 (zp_init_4_1_c1003_1004 S0)) := by
  refine zz_enter (by decide) (Nat.le_of_ble_eq_true rfl) (zz_less (ls1 := [some (.ref 1003)]) ⟨rfl, trivial⟩ ?_)
  have F_S0 : zz_fr [(1003, 0), (1003, 1), (1003, 2), (1003, 3), (1003, 4), (1003, 5), (1003, 6), (1003, 7), (1003, 8), (1003, 9), (1003, 10), (1003, 11), (1003, 12), (1003, 13), (1003, 14)] [] (fun _ _ => False) S0 S0 := zz_fr.refl
  refine zz_aload_n (x := 1003) rfl zd_4_1_0 ?_
  refine zz_objI zd_4_1_1 zoi_Layer_1 zoi.1 zoi.2 (Nat.le_of_ble_eq_true rfl) (Nat.le_of_ble_eq_true rfl) ?_
  refine zz_aload_n (x := 1003) rfl zd_4_1_4 ?_
  refine zz_iconst zd_4_1_5 ?_
  refine zz_iconst zd_4_1_6 ?_
  refine zz_iconst zd_4_1_7 ?_
  refine zz_callVV [zi 0, zi 0, zi 0] zd_4_1_8 zk_Layer_9 zT_1003 (by decide) rfl rfl ⟨Nat.le_of_ble_eq_true rfl, Nat.le_of_ble_eq_true rfl⟩ ⟨rfl, rfl⟩ (Nat.le_of_ble_eq_true rfl) (Nat.le_of_ble_eq_true rfl) (zc_reset_4_2_c1003_1004 S0 (zz_Gm.sub (C1 := [1003]) (X1 := []) G_S0 (by decide +kernel) (by decide +kernel))) (fun S2 hP => ?_)
  obtain ⟨gS2, fS2, o3⟩ := hP
  have F_S2 := zz_fr.trans F_S0 fS2 (by decide +kernel) zz_nv
  have G_S2 := zz_Gm.call [] G_S0 fS2 gS2 (by decide +kernel) (by decide +kernel) (by decide +kernel) (by decide +kernel)
  have g4 := trivial
  have g5 := trivial
  have g6 := trivial
  have g7 := trivial
  have g8 := trivial
  have g9 := trivial
  have g10 := trivial
  have g11 := trivial
  have g12 := trivial
  have g13 := trivial
  have g14 := trivial
  have g15 := trivial
  have g16 := trivial
  have g17 := trivial
  exact zz_vret zd_4_1_11 rfl (Nat.le_of_ble_eq_true rfl) (Nat.le_of_ble_eq_true rfl) ⟨_, rfl, G_S2, F_S2, by omega⟩
def zX_2 : List (Nat × Nat) := [(1002, 1), (1002, 2), (1002, 3), (1002, 4), (1002, 5), (1002, 6), (1002, 7), (1002, 8), (1002, 9), (1002, 10), (1002, 11), (1001, 1)]
theorem zg_7_1_33 : zq_at zy_init_7_1.2.1 33 83 ∧ zq_at zy_init_7_1.2.1 34 132 ∧ zq_at zy_init_7_1.2.1 35 1 ∧ zq_at zy_init_7_1.2.1 36 1 ∧ zq_at zy_init_7_1.2.1 37 167 ∧ zq_at zy_init_7_1.2.1 38 255 ∧ zq_at zy_init_7_1.2.1 39 234 := by decide +kernel
theorem zd_7_1_33 : zz_D zy_init_7_1 33 (.aastore) 1 34 := ⟨zq_83 zg_7_1_33.1, rfl⟩
theorem zd_7_1_34 : zz_D zy_init_7_1 34 (.iinc 1 1) 3 37 := ⟨zq_132 zg_7_1_33.2.1 zg_7_1_33.2.2.1 zg_7_1_33.2.2.2.1 (by decide), rfl⟩
theorem zd_7_1_37 : zz_B zy_init_7_1 37 Instr.goto 15 40 := ⟨(-22), zq_167 zg_7_1_33.2.2.2.2.1 zg_7_1_33.2.2.2.2.2.1 zg_7_1_33.2.2.2.2.2.2 (by decide), rfl, rfl⟩
-- TensorForge$Layer takeForm (III)V at 1004, 1005
abbrev zr_takeForm_4_3_c1004_1005 : Room := { frames := 0, cells := 0, slots := 0, locals := 0 }
def zp_takeForm_4_3_c1004_1005 (S0 : zz_S) : zz_S → Prop := fun S => zz_Gm [1004] [] S ∧ zz_fr [(1004, 10), (1004, 11), (1004, 12)] [] (fun _ _ => False) S0 S ∧ (S 1004 12 = 1)
theorem zc_takeForm_4_3_c1004_1005 {g : mm_G} {l : Launch} (S0 : zz_S) (G_S0 : zz_Gm [1004] [] S0) : mm_Met g l zy_takeForm_4_3 zr_takeForm_4_3_c1004_1005 [.ref 1004, zi 1, zi 1, zi 1] (zz_M S0 1005) 1005 (zz_QV 1005 (zp_takeForm_4_3_c1004_1005 S0)) := by
  refine zz_enter (by decide) (Nat.le_of_ble_eq_true rfl) (zz_less (ls1 := [some (.ref 1004), some (zi 1), some (zi 1), some (zi 1)]) ⟨rfl, ⟨rfl, ⟨rfl, ⟨rfl, trivial⟩⟩⟩⟩ ?_)
  have F_S0 : zz_fr [(1004, 10), (1004, 11), (1004, 12)] [] (fun _ _ => False) S0 S0 := zz_fr.refl
  refine zz_aload_n (x := 1004) rfl zd_4_3_0 ?_
  refine zz_iload_n (x := 1) rfl zd_4_3_1 ?_
  refine zz_puti zd_4_3_2 zf_Layer_54 zT_1004 rfl (by decide) (fun S1 qS1 => ?_)
  have G_S1 := zz_Gm.put [] G_S0 qS1 (-2147483648) 2147483647 rfl (by decide) (by decide +kernel)
  have F_S1 := zz_fr.puts F_S0 qS1 (by decide +kernel)
  refine zz_aload_n (x := 1004) rfl zd_4_3_5 ?_
  refine zz_iload_n (x := 1) rfl zd_4_3_6 ?_
  refine zz_puti zd_4_3_7 zf_Layer_57 zT_1004 rfl (by decide) (fun S2 qS2 => ?_)
  have G_S2 := zz_Gm.put [] G_S1 qS2 (-2147483648) 2147483647 rfl (by decide) (by decide +kernel)
  have F_S2 := zz_fr.puts F_S1 qS2 (by decide +kernel)
  refine zz_aload_n (x := 1004) rfl zd_4_3_10 ?_
  refine zz_iload_n (x := 1) rfl zd_4_3_11 ?_
  refine zz_puti zd_4_3_12 zf_Layer_60 zT_1004 rfl (by decide) (fun S3 qS3 => ?_)
  have G_S3 := zz_Gm.put [] G_S2 qS3 (-2147483648) 2147483647 rfl (by decide) (by decide +kernel)
  have F_S3 := zz_fr.puts F_S2 qS3 (by decide +kernel)
  have e4 : S3 1004 12 = 1 := (zz_rs qS3)
  exact zz_vret zd_4_3_15 rfl (Nat.le_of_ble_eq_true rfl) (Nat.le_of_ble_eq_true rfl) ⟨_, rfl, G_S3, F_S3, by omega⟩
-- TensorForge$Layer reset (III)V at 1004, 1005
abbrev zr_reset_4_2_c1004_1005 : Room := { frames := 1, cells := 0, slots := 0, locals := 15 }
def zp_reset_4_2_c1004_1005 (S0 : zz_S) : zz_S → Prop := fun S => zz_Gm [1004, 1004] [] S ∧ zz_fr [(1004, 0), (1004, 1), (1004, 2), (1004, 3), (1004, 4), (1004, 5), (1004, 6), (1004, 7), (1004, 8), (1004, 9), (1004, 10), (1004, 11), (1004, 12), (1004, 13), (1004, 14)] [] (fun _ _ => False) S0 S ∧ (S 1004 0 = 0 ∧ S 1004 3 = 1 ∧ S 1004 4 = 1 ∧ S 1004 12 = 1)
theorem zc_reset_4_2_c1004_1005 {g : mm_G} {l : Launch} (S0 : zz_S) (G_S0 : zz_Gm [1004] [] S0) : mm_Met g l zy_reset_4_2 zr_reset_4_2_c1004_1005 [.ref 1004, zi 0, zi 0, zi 0] (zz_M S0 1005) 1005 (zz_QV 1005 (zp_reset_4_2_c1004_1005 S0)) := by
  refine zz_enter (by decide) (Nat.le_of_ble_eq_true rfl) (zz_less (ls1 := [some (.ref 1004), some (zi 0), some (zi 0), some (zi 0)]) ⟨rfl, ⟨rfl, ⟨rfl, ⟨rfl, trivial⟩⟩⟩⟩ ?_)
  have F_S0 : zz_fr [(1004, 0), (1004, 1), (1004, 2), (1004, 3), (1004, 4), (1004, 5), (1004, 6), (1004, 7), (1004, 8), (1004, 9), (1004, 10), (1004, 11), (1004, 12), (1004, 13), (1004, 14)] [] (fun _ _ => False) S0 S0 := zz_fr.refl
  refine zz_aload_n (x := 1004) rfl zd_4_2_0 ?_
  refine zz_iload_n (x := 0) rfl zd_4_2_1 ?_
  refine zz_puti zd_4_2_2 zf_Layer_13 zT_1004 rfl (by decide) (fun S1 qS1 => ?_)
  have G_S1 := zz_Gm.put [] G_S0 qS1 (-2147483648) 2147483647 rfl (by decide) (by decide +kernel)
  have F_S1 := zz_fr.puts F_S0 qS1 (by decide +kernel)
  refine zz_aload_n (x := 1004) rfl zd_4_2_5 ?_
  refine zz_iload_n (x := 0) rfl zd_4_2_6 ?_
  refine zz_puti zd_4_2_7 zf_Layer_17 zT_1004 rfl (by decide) (fun S2 qS2 => ?_)
  have G_S2 := zz_Gm.put [] G_S1 qS2 (-2147483648) 2147483647 rfl (by decide) (by decide +kernel)
  have F_S2 := zz_fr.puts F_S1 qS2 (by decide +kernel)
  refine zz_aload_n (x := 1004) rfl zd_4_2_10 ?_
  refine zz_iload_n (x := 0) rfl zd_4_2_11 ?_
  refine zz_puti zd_4_2_12 zf_Layer_20 zT_1004 rfl (by decide) (fun S3 qS3 => ?_)
  have G_S3 := zz_Gm.put [] G_S2 qS3 (-2147483648) 2147483647 rfl (by decide) (by decide +kernel)
  have F_S3 := zz_fr.puts F_S2 qS3 (by decide +kernel)
  refine zz_aload_n (x := 1004) rfl zd_4_2_15 ?_
  refine zz_iconst zd_4_2_16 ?_
  refine zz_puti zd_4_2_17 zf_Layer_23 zT_1004 rfl (by decide) (fun S4 qS4 => ?_)
  have G_S4 := zz_Gm.put [] G_S3 qS4 (-2147483648) 2147483647 rfl (by decide) (by decide +kernel)
  have F_S4 := zz_fr.puts F_S3 qS4 (by decide +kernel)
  refine zz_aload_n (x := 1004) rfl zd_4_2_20 ?_
  refine zz_iconst zd_4_2_21 ?_
  refine zz_puti zd_4_2_22 zf_Layer_26 zT_1004 rfl (by decide) (fun S5 qS5 => ?_)
  have G_S5 := zz_Gm.put [] G_S4 qS5 (-2147483648) 2147483647 rfl (by decide) (by decide +kernel)
  have F_S5 := zz_fr.puts F_S4 qS5 (by decide +kernel)
  refine zz_aload_n (x := 1004) rfl zd_4_2_25 ?_
  refine zz_iconst zd_4_2_26 ?_
  refine zz_puti zd_4_2_27 zf_Layer_29 zT_1004 rfl (by decide) (fun S6 qS6 => ?_)
  have G_S6 := zz_Gm.put [] G_S5 qS6 (-2147483648) 2147483647 rfl (by decide) (by decide +kernel)
  have F_S6 := zz_fr.puts F_S5 qS6 (by decide +kernel)
  refine zz_aload_n (x := 1004) rfl zd_4_2_30 ?_
  refine zz_iconst zd_4_2_31 ?_
  refine zz_puti zd_4_2_32 zf_Layer_32 zT_1004 rfl (by decide) (fun S7 qS7 => ?_)
  have G_S7 := zz_Gm.put [] G_S6 qS7 (-2147483648) 2147483647 rfl (by decide) (by decide +kernel)
  have F_S7 := zz_fr.puts F_S6 qS7 (by decide +kernel)
  refine zz_aload_n (x := 1004) rfl zd_4_2_35 ?_
  refine zz_iconst zd_4_2_36 ?_
  refine zz_puti zd_4_2_37 zf_Layer_35 zT_1004 rfl (by decide) (fun S8 qS8 => ?_)
  have G_S8 := zz_Gm.put [] G_S7 qS8 (-2147483648) 2147483647 rfl (by decide) (by decide +kernel)
  have F_S8 := zz_fr.puts F_S7 qS8 (by decide +kernel)
  refine zz_aload_n (x := 1004) rfl zd_4_2_40 ?_
  refine zz_iconst zd_4_2_41 ?_
  refine zz_putz zd_4_2_42 zf_Layer_38 zT_1004 rfl (by decide) (by decide) (fun S9 qS9 => ?_)
  have G_S9 := zz_Gm.put [] G_S8 qS9 0 1 rfl (by decide) (by decide +kernel)
  have F_S9 := zz_fr.puts F_S8 qS9 (by decide +kernel)
  refine zz_aload_n (x := 1004) rfl zd_4_2_45 ?_
  refine zz_iconst zd_4_2_46 ?_
  refine zz_puti zd_4_2_47 zf_Layer_42 zT_1004 rfl (by decide) (fun S10 qS10 => ?_)
  have G_S10 := zz_Gm.put [] G_S9 qS10 (-2147483648) 2147483647 rfl (by decide) (by decide +kernel)
  have F_S10 := zz_fr.puts F_S9 qS10 (by decide +kernel)
  refine zz_aload_n (x := 1004) rfl zd_4_2_50 ?_
  refine zz_iconst zd_4_2_51 ?_
  refine zz_iconst zd_4_2_52 ?_
  refine zz_iconst zd_4_2_53 ?_
  refine zz_callVV [zi 1, zi 1, zi 1] zd_4_2_54 zk_Layer_45 zT_1004 (by decide) rfl rfl ⟨Nat.le_of_ble_eq_true rfl, Nat.le_of_ble_eq_true rfl⟩ ⟨rfl, rfl⟩ (Nat.le_of_ble_eq_true rfl) (Nat.le_of_ble_eq_true rfl) (zc_takeForm_4_3_c1004_1005 S10 (zz_Gm.sub (C1 := [1004]) (X1 := []) G_S10 (by decide +kernel) (by decide +kernel))) (fun S11 hP => ?_)
  obtain ⟨gS11, fS11, o12⟩ := hP
  have F_S11 := zz_fr.trans F_S10 fS11 (by decide +kernel) zz_nv
  have G_S11 := zz_Gm.call [] G_S10 fS11 gS11 (by decide +kernel) (by decide +kernel) (by decide +kernel) (by decide +kernel)
  refine zz_aload_n (x := 1004) rfl zd_4_2_57 ?_
  refine zz_iconst zd_4_2_58 ?_
  refine zz_puti zd_4_2_59 zf_Layer_48 zT_1004 rfl (by decide) (fun S13 qS13 => ?_)
  have G_S13 := zz_Gm.put [] G_S11 qS13 (-2147483648) 2147483647 rfl (by decide) (by decide +kernel)
  have F_S13 := zz_fr.puts F_S11 qS13 (by decide +kernel)
  refine zz_aload_n (x := 1004) rfl zd_4_2_62 ?_
  refine zz_iconst zd_4_2_63 ?_
  refine zz_puti zd_4_2_64 zf_Layer_51 zT_1004 rfl (by decide) (fun S14 qS14 => ?_)
  have G_S14 := zz_Gm.put [] G_S13 qS14 (-2147483648) 2147483647 rfl (by decide) (by decide +kernel)
  have F_S14 := zz_fr.puts F_S13 qS14 (by decide +kernel)
  have e15 : S14 1004 0 = 0 := (zz_ro qS14 (fun h => absurd h.2 (by decide)) (zz_ro qS13 (fun h => absurd h.2 (by decide)) (zz_rc fS11 rfl rfl (fun h => h) (zz_ro qS10 (fun h => absurd h.2 (by decide)) (zz_ro qS9 (fun h => absurd h.2 (by decide)) (zz_ro qS8 (fun h => absurd h.2 (by decide)) (zz_ro qS7 (fun h => absurd h.2 (by decide)) (zz_ro qS6 (fun h => absurd h.2 (by decide)) (zz_ro qS5 (fun h => absurd h.2 (by decide)) (zz_ro qS4 (fun h => absurd h.2 (by decide)) (zz_ro qS3 (fun h => absurd h.2 (by decide)) (zz_ro qS2 (fun h => absurd h.2 (by decide)) (zz_rs qS1)))))))))))))
  have e16 : S14 1004 12 = 1 := (zz_ro qS14 (fun h => absurd h.2 (by decide)) (zz_ro qS13 (fun h => absurd h.2 (by decide)) o12))
  have e17 : S14 1004 3 = 1 := (zz_ro qS14 (fun h => absurd h.2 (by decide)) (zz_ro qS13 (fun h => absurd h.2 (by decide)) (zz_rc fS11 rfl rfl (fun h => h) (zz_ro qS10 (fun h => absurd h.2 (by decide)) (zz_ro qS9 (fun h => absurd h.2 (by decide)) (zz_ro qS8 (fun h => absurd h.2 (by decide)) (zz_ro qS7 (fun h => absurd h.2 (by decide)) (zz_ro qS6 (fun h => absurd h.2 (by decide)) (zz_ro qS5 (fun h => absurd h.2 (by decide)) (zz_rs qS4))))))))))
  have e18 : S14 1004 4 = 1 := (zz_ro qS14 (fun h => absurd h.2 (by decide)) (zz_ro qS13 (fun h => absurd h.2 (by decide)) (zz_rc fS11 rfl rfl (fun h => h) (zz_ro qS10 (fun h => absurd h.2 (by decide)) (zz_ro qS9 (fun h => absurd h.2 (by decide)) (zz_ro qS8 (fun h => absurd h.2 (by decide)) (zz_ro qS7 (fun h => absurd h.2 (by decide)) (zz_ro qS6 (fun h => absurd h.2 (by decide)) (zz_rs qS5)))))))))
  exact zz_vret zd_4_2_67 rfl (Nat.le_of_ble_eq_true rfl) (Nat.le_of_ble_eq_true rfl) ⟨_, rfl, G_S14, F_S14, by omega⟩
-- TensorForge$Layer <init> ()V at 1004, 1005
abbrev zr_init_4_1_c1004_1005 : Room := { frames := 2, cells := 0, slots := 0, locals := 30 }
def zp_init_4_1_c1004_1005 (S0 : zz_S) : zz_S → Prop := fun S => zz_Gm [1004, 1004, 1004] [] S ∧ zz_fr [(1004, 0), (1004, 1), (1004, 2), (1004, 3), (1004, 4), (1004, 5), (1004, 6), (1004, 7), (1004, 8), (1004, 9), (1004, 10), (1004, 11), (1004, 12), (1004, 13), (1004, 14)] [] (fun _ _ => False) S0 S ∧ (S 1004 0 = 0 ∧ S 1004 3 = 1 ∧ S 1004 4 = 1 ∧ S 1004 12 = 1)
theorem zc_init_4_1_c1004_1005 {g : mm_G} {l : Launch} (S0 : zz_S) (G_S0 : zz_Gm [1004] [] S0) : mm_Met g l zy_init_4_1 zr_init_4_1_c1004_1005 [.ref 1004] (zz_M S0 1005) 1005 (zz_QV 1005 (zp_init_4_1_c1004_1005 S0)) := by
  refine zz_enter (by decide) (Nat.le_of_ble_eq_true rfl) (zz_less (ls1 := [some (.ref 1004)]) ⟨rfl, trivial⟩ ?_)
  have F_S0 : zz_fr [(1004, 0), (1004, 1), (1004, 2), (1004, 3), (1004, 4), (1004, 5), (1004, 6), (1004, 7), (1004, 8), (1004, 9), (1004, 10), (1004, 11), (1004, 12), (1004, 13), (1004, 14)] [] (fun _ _ => False) S0 S0 := zz_fr.refl
  refine zz_aload_n (x := 1004) rfl zd_4_1_0 ?_
  refine zz_objI zd_4_1_1 zoi_Layer_1 zoi.1 zoi.2 (Nat.le_of_ble_eq_true rfl) (Nat.le_of_ble_eq_true rfl) ?_
  refine zz_aload_n (x := 1004) rfl zd_4_1_4 ?_
  refine zz_iconst zd_4_1_5 ?_
  refine zz_iconst zd_4_1_6 ?_
  refine zz_iconst zd_4_1_7 ?_
  refine zz_callVV [zi 0, zi 0, zi 0] zd_4_1_8 zk_Layer_9 zT_1004 (by decide) rfl rfl ⟨Nat.le_of_ble_eq_true rfl, Nat.le_of_ble_eq_true rfl⟩ ⟨rfl, rfl⟩ (Nat.le_of_ble_eq_true rfl) (Nat.le_of_ble_eq_true rfl) (zc_reset_4_2_c1004_1005 S0 (zz_Gm.sub (C1 := [1004]) (X1 := []) G_S0 (by decide +kernel) (by decide +kernel))) (fun S2 hP => ?_)
  obtain ⟨gS2, fS2, o3⟩ := hP
  have F_S2 := zz_fr.trans F_S0 fS2 (by decide +kernel) zz_nv
  have G_S2 := zz_Gm.call [] G_S0 fS2 gS2 (by decide +kernel) (by decide +kernel) (by decide +kernel) (by decide +kernel)
  have g4 := trivial
  have g5 := trivial
  have g6 := trivial
  have g7 := trivial
  exact zz_vret zd_4_1_11 rfl (Nat.le_of_ble_eq_true rfl) (Nat.le_of_ble_eq_true rfl) ⟨_, rfl, G_S2, F_S2, by omega⟩
def zX_3 : List (Nat × Nat) := [(1002, 2), (1002, 3), (1002, 4), (1002, 5), (1002, 6), (1002, 7), (1002, 8), (1002, 9), (1002, 10), (1002, 11), (1001, 1)]
-- TensorForge$Layer takeForm (III)V at 1005, 1006
abbrev zr_takeForm_4_3_c1005_1006 : Room := { frames := 0, cells := 0, slots := 0, locals := 0 }
def zp_takeForm_4_3_c1005_1006 (S0 : zz_S) : zz_S → Prop := fun S => zz_Gm [1005] [] S ∧ zz_fr [(1005, 10), (1005, 11), (1005, 12)] [] (fun _ _ => False) S0 S ∧ (S 1005 12 = 1)
theorem zc_takeForm_4_3_c1005_1006 {g : mm_G} {l : Launch} (S0 : zz_S) (G_S0 : zz_Gm [1005] [] S0) : mm_Met g l zy_takeForm_4_3 zr_takeForm_4_3_c1005_1006 [.ref 1005, zi 1, zi 1, zi 1] (zz_M S0 1006) 1006 (zz_QV 1006 (zp_takeForm_4_3_c1005_1006 S0)) := by
  refine zz_enter (by decide) (Nat.le_of_ble_eq_true rfl) (zz_less (ls1 := [some (.ref 1005), some (zi 1), some (zi 1), some (zi 1)]) ⟨rfl, ⟨rfl, ⟨rfl, ⟨rfl, trivial⟩⟩⟩⟩ ?_)
  have F_S0 : zz_fr [(1005, 10), (1005, 11), (1005, 12)] [] (fun _ _ => False) S0 S0 := zz_fr.refl
  refine zz_aload_n (x := 1005) rfl zd_4_3_0 ?_
  refine zz_iload_n (x := 1) rfl zd_4_3_1 ?_
  refine zz_puti zd_4_3_2 zf_Layer_54 zT_1005 rfl (by decide) (fun S1 qS1 => ?_)
  have G_S1 := zz_Gm.put [] G_S0 qS1 (-2147483648) 2147483647 rfl (by decide) (by decide +kernel)
  have F_S1 := zz_fr.puts F_S0 qS1 (by decide +kernel)
  refine zz_aload_n (x := 1005) rfl zd_4_3_5 ?_
  refine zz_iload_n (x := 1) rfl zd_4_3_6 ?_
  refine zz_puti zd_4_3_7 zf_Layer_57 zT_1005 rfl (by decide) (fun S2 qS2 => ?_)
  have G_S2 := zz_Gm.put [] G_S1 qS2 (-2147483648) 2147483647 rfl (by decide) (by decide +kernel)
  have F_S2 := zz_fr.puts F_S1 qS2 (by decide +kernel)
  refine zz_aload_n (x := 1005) rfl zd_4_3_10 ?_
  refine zz_iload_n (x := 1) rfl zd_4_3_11 ?_
  refine zz_puti zd_4_3_12 zf_Layer_60 zT_1005 rfl (by decide) (fun S3 qS3 => ?_)
  have G_S3 := zz_Gm.put [] G_S2 qS3 (-2147483648) 2147483647 rfl (by decide) (by decide +kernel)
  have F_S3 := zz_fr.puts F_S2 qS3 (by decide +kernel)
  have e4 : S3 1005 12 = 1 := (zz_rs qS3)
  exact zz_vret zd_4_3_15 rfl (Nat.le_of_ble_eq_true rfl) (Nat.le_of_ble_eq_true rfl) ⟨_, rfl, G_S3, F_S3, by omega⟩
-- TensorForge$Layer reset (III)V at 1005, 1006
abbrev zr_reset_4_2_c1005_1006 : Room := { frames := 1, cells := 0, slots := 0, locals := 15 }
def zp_reset_4_2_c1005_1006 (S0 : zz_S) : zz_S → Prop := fun S => zz_Gm [1005, 1005] [] S ∧ zz_fr [(1005, 0), (1005, 1), (1005, 2), (1005, 3), (1005, 4), (1005, 5), (1005, 6), (1005, 7), (1005, 8), (1005, 9), (1005, 10), (1005, 11), (1005, 12), (1005, 13), (1005, 14)] [] (fun _ _ => False) S0 S ∧ (S 1005 0 = 0 ∧ S 1005 3 = 1 ∧ S 1005 4 = 1 ∧ S 1005 12 = 1)
theorem zc_reset_4_2_c1005_1006 {g : mm_G} {l : Launch} (S0 : zz_S) (G_S0 : zz_Gm [1005] [] S0) : mm_Met g l zy_reset_4_2 zr_reset_4_2_c1005_1006 [.ref 1005, zi 0, zi 0, zi 0] (zz_M S0 1006) 1006 (zz_QV 1006 (zp_reset_4_2_c1005_1006 S0)) := by
  refine zz_enter (by decide) (Nat.le_of_ble_eq_true rfl) (zz_less (ls1 := [some (.ref 1005), some (zi 0), some (zi 0), some (zi 0)]) ⟨rfl, ⟨rfl, ⟨rfl, ⟨rfl, trivial⟩⟩⟩⟩ ?_)
  have F_S0 : zz_fr [(1005, 0), (1005, 1), (1005, 2), (1005, 3), (1005, 4), (1005, 5), (1005, 6), (1005, 7), (1005, 8), (1005, 9), (1005, 10), (1005, 11), (1005, 12), (1005, 13), (1005, 14)] [] (fun _ _ => False) S0 S0 := zz_fr.refl
  refine zz_aload_n (x := 1005) rfl zd_4_2_0 ?_
  refine zz_iload_n (x := 0) rfl zd_4_2_1 ?_
  refine zz_puti zd_4_2_2 zf_Layer_13 zT_1005 rfl (by decide) (fun S1 qS1 => ?_)
  have G_S1 := zz_Gm.put [] G_S0 qS1 (-2147483648) 2147483647 rfl (by decide) (by decide +kernel)
  have F_S1 := zz_fr.puts F_S0 qS1 (by decide +kernel)
  refine zz_aload_n (x := 1005) rfl zd_4_2_5 ?_
  refine zz_iload_n (x := 0) rfl zd_4_2_6 ?_
  refine zz_puti zd_4_2_7 zf_Layer_17 zT_1005 rfl (by decide) (fun S2 qS2 => ?_)
  have G_S2 := zz_Gm.put [] G_S1 qS2 (-2147483648) 2147483647 rfl (by decide) (by decide +kernel)
  have F_S2 := zz_fr.puts F_S1 qS2 (by decide +kernel)
  refine zz_aload_n (x := 1005) rfl zd_4_2_10 ?_
  refine zz_iload_n (x := 0) rfl zd_4_2_11 ?_
  refine zz_puti zd_4_2_12 zf_Layer_20 zT_1005 rfl (by decide) (fun S3 qS3 => ?_)
  have G_S3 := zz_Gm.put [] G_S2 qS3 (-2147483648) 2147483647 rfl (by decide) (by decide +kernel)
  have F_S3 := zz_fr.puts F_S2 qS3 (by decide +kernel)
  refine zz_aload_n (x := 1005) rfl zd_4_2_15 ?_
  refine zz_iconst zd_4_2_16 ?_
  refine zz_puti zd_4_2_17 zf_Layer_23 zT_1005 rfl (by decide) (fun S4 qS4 => ?_)
  have G_S4 := zz_Gm.put [] G_S3 qS4 (-2147483648) 2147483647 rfl (by decide) (by decide +kernel)
  have F_S4 := zz_fr.puts F_S3 qS4 (by decide +kernel)
  refine zz_aload_n (x := 1005) rfl zd_4_2_20 ?_
  refine zz_iconst zd_4_2_21 ?_
  refine zz_puti zd_4_2_22 zf_Layer_26 zT_1005 rfl (by decide) (fun S5 qS5 => ?_)
  have G_S5 := zz_Gm.put [] G_S4 qS5 (-2147483648) 2147483647 rfl (by decide) (by decide +kernel)
  have F_S5 := zz_fr.puts F_S4 qS5 (by decide +kernel)
  refine zz_aload_n (x := 1005) rfl zd_4_2_25 ?_
  refine zz_iconst zd_4_2_26 ?_
  refine zz_puti zd_4_2_27 zf_Layer_29 zT_1005 rfl (by decide) (fun S6 qS6 => ?_)
  have G_S6 := zz_Gm.put [] G_S5 qS6 (-2147483648) 2147483647 rfl (by decide) (by decide +kernel)
  have F_S6 := zz_fr.puts F_S5 qS6 (by decide +kernel)
  refine zz_aload_n (x := 1005) rfl zd_4_2_30 ?_
  refine zz_iconst zd_4_2_31 ?_
  refine zz_puti zd_4_2_32 zf_Layer_32 zT_1005 rfl (by decide) (fun S7 qS7 => ?_)
  have G_S7 := zz_Gm.put [] G_S6 qS7 (-2147483648) 2147483647 rfl (by decide) (by decide +kernel)
  have F_S7 := zz_fr.puts F_S6 qS7 (by decide +kernel)
  refine zz_aload_n (x := 1005) rfl zd_4_2_35 ?_
  refine zz_iconst zd_4_2_36 ?_
  refine zz_puti zd_4_2_37 zf_Layer_35 zT_1005 rfl (by decide) (fun S8 qS8 => ?_)
  have G_S8 := zz_Gm.put [] G_S7 qS8 (-2147483648) 2147483647 rfl (by decide) (by decide +kernel)
  have F_S8 := zz_fr.puts F_S7 qS8 (by decide +kernel)
  refine zz_aload_n (x := 1005) rfl zd_4_2_40 ?_
  refine zz_iconst zd_4_2_41 ?_
  refine zz_putz zd_4_2_42 zf_Layer_38 zT_1005 rfl (by decide) (by decide) (fun S9 qS9 => ?_)
  have G_S9 := zz_Gm.put [] G_S8 qS9 0 1 rfl (by decide) (by decide +kernel)
  have F_S9 := zz_fr.puts F_S8 qS9 (by decide +kernel)
  refine zz_aload_n (x := 1005) rfl zd_4_2_45 ?_
  refine zz_iconst zd_4_2_46 ?_
  refine zz_puti zd_4_2_47 zf_Layer_42 zT_1005 rfl (by decide) (fun S10 qS10 => ?_)
  have G_S10 := zz_Gm.put [] G_S9 qS10 (-2147483648) 2147483647 rfl (by decide) (by decide +kernel)
  have F_S10 := zz_fr.puts F_S9 qS10 (by decide +kernel)
  refine zz_aload_n (x := 1005) rfl zd_4_2_50 ?_
  refine zz_iconst zd_4_2_51 ?_
  refine zz_iconst zd_4_2_52 ?_
  refine zz_iconst zd_4_2_53 ?_
  refine zz_callVV [zi 1, zi 1, zi 1] zd_4_2_54 zk_Layer_45 zT_1005 (by decide) rfl rfl ⟨Nat.le_of_ble_eq_true rfl, Nat.le_of_ble_eq_true rfl⟩ ⟨rfl, rfl⟩ (Nat.le_of_ble_eq_true rfl) (Nat.le_of_ble_eq_true rfl) (zc_takeForm_4_3_c1005_1006 S10 (zz_Gm.sub (C1 := [1005]) (X1 := []) G_S10 (by decide +kernel) (by decide +kernel))) (fun S11 hP => ?_)
  obtain ⟨gS11, fS11, o12⟩ := hP
  have F_S11 := zz_fr.trans F_S10 fS11 (by decide +kernel) zz_nv
  have G_S11 := zz_Gm.call [] G_S10 fS11 gS11 (by decide +kernel) (by decide +kernel) (by decide +kernel) (by decide +kernel)
  refine zz_aload_n (x := 1005) rfl zd_4_2_57 ?_
  refine zz_iconst zd_4_2_58 ?_
  refine zz_puti zd_4_2_59 zf_Layer_48 zT_1005 rfl (by decide) (fun S13 qS13 => ?_)
  have G_S13 := zz_Gm.put [] G_S11 qS13 (-2147483648) 2147483647 rfl (by decide) (by decide +kernel)
  have F_S13 := zz_fr.puts F_S11 qS13 (by decide +kernel)
  refine zz_aload_n (x := 1005) rfl zd_4_2_62 ?_
  refine zz_iconst zd_4_2_63 ?_
  refine zz_puti zd_4_2_64 zf_Layer_51 zT_1005 rfl (by decide) (fun S14 qS14 => ?_)
  have G_S14 := zz_Gm.put [] G_S13 qS14 (-2147483648) 2147483647 rfl (by decide) (by decide +kernel)
  have F_S14 := zz_fr.puts F_S13 qS14 (by decide +kernel)
  have e15 : S14 1005 0 = 0 := (zz_ro qS14 (fun h => absurd h.2 (by decide)) (zz_ro qS13 (fun h => absurd h.2 (by decide)) (zz_rc fS11 rfl rfl (fun h => h) (zz_ro qS10 (fun h => absurd h.2 (by decide)) (zz_ro qS9 (fun h => absurd h.2 (by decide)) (zz_ro qS8 (fun h => absurd h.2 (by decide)) (zz_ro qS7 (fun h => absurd h.2 (by decide)) (zz_ro qS6 (fun h => absurd h.2 (by decide)) (zz_ro qS5 (fun h => absurd h.2 (by decide)) (zz_ro qS4 (fun h => absurd h.2 (by decide)) (zz_ro qS3 (fun h => absurd h.2 (by decide)) (zz_ro qS2 (fun h => absurd h.2 (by decide)) (zz_rs qS1)))))))))))))
  have e16 : S14 1005 12 = 1 := (zz_ro qS14 (fun h => absurd h.2 (by decide)) (zz_ro qS13 (fun h => absurd h.2 (by decide)) o12))
  have e17 : S14 1005 3 = 1 := (zz_ro qS14 (fun h => absurd h.2 (by decide)) (zz_ro qS13 (fun h => absurd h.2 (by decide)) (zz_rc fS11 rfl rfl (fun h => h) (zz_ro qS10 (fun h => absurd h.2 (by decide)) (zz_ro qS9 (fun h => absurd h.2 (by decide)) (zz_ro qS8 (fun h => absurd h.2 (by decide)) (zz_ro qS7 (fun h => absurd h.2 (by decide)) (zz_ro qS6 (fun h => absurd h.2 (by decide)) (zz_ro qS5 (fun h => absurd h.2 (by decide)) (zz_rs qS4))))))))))
  have e18 : S14 1005 4 = 1 := (zz_ro qS14 (fun h => absurd h.2 (by decide)) (zz_ro qS13 (fun h => absurd h.2 (by decide)) (zz_rc fS11 rfl rfl (fun h => h) (zz_ro qS10 (fun h => absurd h.2 (by decide)) (zz_ro qS9 (fun h => absurd h.2 (by decide)) (zz_ro qS8 (fun h => absurd h.2 (by decide)) (zz_ro qS7 (fun h => absurd h.2 (by decide)) (zz_ro qS6 (fun h => absurd h.2 (by decide)) (zz_rs qS5)))))))))
  exact zz_vret zd_4_2_67 rfl (Nat.le_of_ble_eq_true rfl) (Nat.le_of_ble_eq_true rfl) ⟨_, rfl, G_S14, F_S14, by omega⟩
-- TensorForge$Layer <init> ()V at 1005, 1006
abbrev zr_init_4_1_c1005_1006 : Room := { frames := 2, cells := 0, slots := 0, locals := 30 }
def zp_init_4_1_c1005_1006 (S0 : zz_S) : zz_S → Prop := fun S => zz_Gm [1005, 1005, 1005] [] S ∧ zz_fr [(1005, 0), (1005, 1), (1005, 2), (1005, 3), (1005, 4), (1005, 5), (1005, 6), (1005, 7), (1005, 8), (1005, 9), (1005, 10), (1005, 11), (1005, 12), (1005, 13), (1005, 14)] [] (fun _ _ => False) S0 S ∧ (S 1005 0 = 0 ∧ S 1005 3 = 1 ∧ S 1005 4 = 1 ∧ S 1005 12 = 1)
theorem zc_init_4_1_c1005_1006 {g : mm_G} {l : Launch} (S0 : zz_S) (G_S0 : zz_Gm [1005] [] S0) : mm_Met g l zy_init_4_1 zr_init_4_1_c1005_1006 [.ref 1005] (zz_M S0 1006) 1006 (zz_QV 1006 (zp_init_4_1_c1005_1006 S0)) := by
  refine zz_enter (by decide) (Nat.le_of_ble_eq_true rfl) (zz_less (ls1 := [some (.ref 1005)]) ⟨rfl, trivial⟩ ?_)
  have F_S0 : zz_fr [(1005, 0), (1005, 1), (1005, 2), (1005, 3), (1005, 4), (1005, 5), (1005, 6), (1005, 7), (1005, 8), (1005, 9), (1005, 10), (1005, 11), (1005, 12), (1005, 13), (1005, 14)] [] (fun _ _ => False) S0 S0 := zz_fr.refl
  refine zz_aload_n (x := 1005) rfl zd_4_1_0 ?_
  refine zz_objI zd_4_1_1 zoi_Layer_1 zoi.1 zoi.2 (Nat.le_of_ble_eq_true rfl) (Nat.le_of_ble_eq_true rfl) ?_
  refine zz_aload_n (x := 1005) rfl zd_4_1_4 ?_
  refine zz_iconst zd_4_1_5 ?_
  refine zz_iconst zd_4_1_6 ?_
  refine zz_iconst zd_4_1_7 ?_
  refine zz_callVV [zi 0, zi 0, zi 0] zd_4_1_8 zk_Layer_9 zT_1005 (by decide) rfl rfl ⟨Nat.le_of_ble_eq_true rfl, Nat.le_of_ble_eq_true rfl⟩ ⟨rfl, rfl⟩ (Nat.le_of_ble_eq_true rfl) (Nat.le_of_ble_eq_true rfl) (zc_reset_4_2_c1005_1006 S0 (zz_Gm.sub (C1 := [1005]) (X1 := []) G_S0 (by decide +kernel) (by decide +kernel))) (fun S2 hP => ?_)
  obtain ⟨gS2, fS2, o3⟩ := hP
  have F_S2 := zz_fr.trans F_S0 fS2 (by decide +kernel) zz_nv
  have G_S2 := zz_Gm.call [] G_S0 fS2 gS2 (by decide +kernel) (by decide +kernel) (by decide +kernel) (by decide +kernel)
  have g4 := trivial
  have g5 := trivial
  have g6 := trivial
  have g7 := trivial
  exact zz_vret zd_4_1_11 rfl (Nat.le_of_ble_eq_true rfl) (Nat.le_of_ble_eq_true rfl) ⟨_, rfl, G_S2, F_S2, by omega⟩
def zX_4 : List (Nat × Nat) := [(1002, 3), (1002, 4), (1002, 5), (1002, 6), (1002, 7), (1002, 8), (1002, 9), (1002, 10), (1002, 11), (1001, 1)]
-- TensorForge$Layer takeForm (III)V at 1006, 1007
abbrev zr_takeForm_4_3_c1006_1007 : Room := { frames := 0, cells := 0, slots := 0, locals := 0 }
def zp_takeForm_4_3_c1006_1007 (S0 : zz_S) : zz_S → Prop := fun S => zz_Gm [1006] [] S ∧ zz_fr [(1006, 10), (1006, 11), (1006, 12)] [] (fun _ _ => False) S0 S ∧ (S 1006 12 = 1)
theorem zc_takeForm_4_3_c1006_1007 {g : mm_G} {l : Launch} (S0 : zz_S) (G_S0 : zz_Gm [1006] [] S0) : mm_Met g l zy_takeForm_4_3 zr_takeForm_4_3_c1006_1007 [.ref 1006, zi 1, zi 1, zi 1] (zz_M S0 1007) 1007 (zz_QV 1007 (zp_takeForm_4_3_c1006_1007 S0)) := by
  refine zz_enter (by decide) (Nat.le_of_ble_eq_true rfl) (zz_less (ls1 := [some (.ref 1006), some (zi 1), some (zi 1), some (zi 1)]) ⟨rfl, ⟨rfl, ⟨rfl, ⟨rfl, trivial⟩⟩⟩⟩ ?_)
  have F_S0 : zz_fr [(1006, 10), (1006, 11), (1006, 12)] [] (fun _ _ => False) S0 S0 := zz_fr.refl
  refine zz_aload_n (x := 1006) rfl zd_4_3_0 ?_
  refine zz_iload_n (x := 1) rfl zd_4_3_1 ?_
  refine zz_puti zd_4_3_2 zf_Layer_54 zT_1006 rfl (by decide) (fun S1 qS1 => ?_)
  have G_S1 := zz_Gm.put [] G_S0 qS1 (-2147483648) 2147483647 rfl (by decide) (by decide +kernel)
  have F_S1 := zz_fr.puts F_S0 qS1 (by decide +kernel)
  refine zz_aload_n (x := 1006) rfl zd_4_3_5 ?_
  refine zz_iload_n (x := 1) rfl zd_4_3_6 ?_
  refine zz_puti zd_4_3_7 zf_Layer_57 zT_1006 rfl (by decide) (fun S2 qS2 => ?_)
  have G_S2 := zz_Gm.put [] G_S1 qS2 (-2147483648) 2147483647 rfl (by decide) (by decide +kernel)
  have F_S2 := zz_fr.puts F_S1 qS2 (by decide +kernel)
  refine zz_aload_n (x := 1006) rfl zd_4_3_10 ?_
  refine zz_iload_n (x := 1) rfl zd_4_3_11 ?_
  refine zz_puti zd_4_3_12 zf_Layer_60 zT_1006 rfl (by decide) (fun S3 qS3 => ?_)
  have G_S3 := zz_Gm.put [] G_S2 qS3 (-2147483648) 2147483647 rfl (by decide) (by decide +kernel)
  have F_S3 := zz_fr.puts F_S2 qS3 (by decide +kernel)
  have e4 : S3 1006 12 = 1 := (zz_rs qS3)
  exact zz_vret zd_4_3_15 rfl (Nat.le_of_ble_eq_true rfl) (Nat.le_of_ble_eq_true rfl) ⟨_, rfl, G_S3, F_S3, by omega⟩
-- TensorForge$Layer reset (III)V at 1006, 1007
abbrev zr_reset_4_2_c1006_1007 : Room := { frames := 1, cells := 0, slots := 0, locals := 15 }
def zp_reset_4_2_c1006_1007 (S0 : zz_S) : zz_S → Prop := fun S => zz_Gm [1006, 1006] [] S ∧ zz_fr [(1006, 0), (1006, 1), (1006, 2), (1006, 3), (1006, 4), (1006, 5), (1006, 6), (1006, 7), (1006, 8), (1006, 9), (1006, 10), (1006, 11), (1006, 12), (1006, 13), (1006, 14)] [] (fun _ _ => False) S0 S ∧ (S 1006 0 = 0 ∧ S 1006 3 = 1 ∧ S 1006 4 = 1 ∧ S 1006 12 = 1)
theorem zc_reset_4_2_c1006_1007 {g : mm_G} {l : Launch} (S0 : zz_S) (G_S0 : zz_Gm [1006] [] S0) : mm_Met g l zy_reset_4_2 zr_reset_4_2_c1006_1007 [.ref 1006, zi 0, zi 0, zi 0] (zz_M S0 1007) 1007 (zz_QV 1007 (zp_reset_4_2_c1006_1007 S0)) := by
  refine zz_enter (by decide) (Nat.le_of_ble_eq_true rfl) (zz_less (ls1 := [some (.ref 1006), some (zi 0), some (zi 0), some (zi 0)]) ⟨rfl, ⟨rfl, ⟨rfl, ⟨rfl, trivial⟩⟩⟩⟩ ?_)
  have F_S0 : zz_fr [(1006, 0), (1006, 1), (1006, 2), (1006, 3), (1006, 4), (1006, 5), (1006, 6), (1006, 7), (1006, 8), (1006, 9), (1006, 10), (1006, 11), (1006, 12), (1006, 13), (1006, 14)] [] (fun _ _ => False) S0 S0 := zz_fr.refl
  refine zz_aload_n (x := 1006) rfl zd_4_2_0 ?_
  refine zz_iload_n (x := 0) rfl zd_4_2_1 ?_
  refine zz_puti zd_4_2_2 zf_Layer_13 zT_1006 rfl (by decide) (fun S1 qS1 => ?_)
  have G_S1 := zz_Gm.put [] G_S0 qS1 (-2147483648) 2147483647 rfl (by decide) (by decide +kernel)
  have F_S1 := zz_fr.puts F_S0 qS1 (by decide +kernel)
  refine zz_aload_n (x := 1006) rfl zd_4_2_5 ?_
  refine zz_iload_n (x := 0) rfl zd_4_2_6 ?_
  refine zz_puti zd_4_2_7 zf_Layer_17 zT_1006 rfl (by decide) (fun S2 qS2 => ?_)
  have G_S2 := zz_Gm.put [] G_S1 qS2 (-2147483648) 2147483647 rfl (by decide) (by decide +kernel)
  have F_S2 := zz_fr.puts F_S1 qS2 (by decide +kernel)
  refine zz_aload_n (x := 1006) rfl zd_4_2_10 ?_
  refine zz_iload_n (x := 0) rfl zd_4_2_11 ?_
  refine zz_puti zd_4_2_12 zf_Layer_20 zT_1006 rfl (by decide) (fun S3 qS3 => ?_)
  have G_S3 := zz_Gm.put [] G_S2 qS3 (-2147483648) 2147483647 rfl (by decide) (by decide +kernel)
  have F_S3 := zz_fr.puts F_S2 qS3 (by decide +kernel)
  refine zz_aload_n (x := 1006) rfl zd_4_2_15 ?_
  refine zz_iconst zd_4_2_16 ?_
  refine zz_puti zd_4_2_17 zf_Layer_23 zT_1006 rfl (by decide) (fun S4 qS4 => ?_)
  have G_S4 := zz_Gm.put [] G_S3 qS4 (-2147483648) 2147483647 rfl (by decide) (by decide +kernel)
  have F_S4 := zz_fr.puts F_S3 qS4 (by decide +kernel)
  refine zz_aload_n (x := 1006) rfl zd_4_2_20 ?_
  refine zz_iconst zd_4_2_21 ?_
  refine zz_puti zd_4_2_22 zf_Layer_26 zT_1006 rfl (by decide) (fun S5 qS5 => ?_)
  have G_S5 := zz_Gm.put [] G_S4 qS5 (-2147483648) 2147483647 rfl (by decide) (by decide +kernel)
  have F_S5 := zz_fr.puts F_S4 qS5 (by decide +kernel)
  refine zz_aload_n (x := 1006) rfl zd_4_2_25 ?_
  refine zz_iconst zd_4_2_26 ?_
  refine zz_puti zd_4_2_27 zf_Layer_29 zT_1006 rfl (by decide) (fun S6 qS6 => ?_)
  have G_S6 := zz_Gm.put [] G_S5 qS6 (-2147483648) 2147483647 rfl (by decide) (by decide +kernel)
  have F_S6 := zz_fr.puts F_S5 qS6 (by decide +kernel)
  refine zz_aload_n (x := 1006) rfl zd_4_2_30 ?_
  refine zz_iconst zd_4_2_31 ?_
  refine zz_puti zd_4_2_32 zf_Layer_32 zT_1006 rfl (by decide) (fun S7 qS7 => ?_)
  have G_S7 := zz_Gm.put [] G_S6 qS7 (-2147483648) 2147483647 rfl (by decide) (by decide +kernel)
  have F_S7 := zz_fr.puts F_S6 qS7 (by decide +kernel)
  refine zz_aload_n (x := 1006) rfl zd_4_2_35 ?_
  refine zz_iconst zd_4_2_36 ?_
  refine zz_puti zd_4_2_37 zf_Layer_35 zT_1006 rfl (by decide) (fun S8 qS8 => ?_)
  have G_S8 := zz_Gm.put [] G_S7 qS8 (-2147483648) 2147483647 rfl (by decide) (by decide +kernel)
  have F_S8 := zz_fr.puts F_S7 qS8 (by decide +kernel)
  refine zz_aload_n (x := 1006) rfl zd_4_2_40 ?_
  refine zz_iconst zd_4_2_41 ?_
  refine zz_putz zd_4_2_42 zf_Layer_38 zT_1006 rfl (by decide) (by decide) (fun S9 qS9 => ?_)
  have G_S9 := zz_Gm.put [] G_S8 qS9 0 1 rfl (by decide) (by decide +kernel)
  have F_S9 := zz_fr.puts F_S8 qS9 (by decide +kernel)
  refine zz_aload_n (x := 1006) rfl zd_4_2_45 ?_
  refine zz_iconst zd_4_2_46 ?_
  refine zz_puti zd_4_2_47 zf_Layer_42 zT_1006 rfl (by decide) (fun S10 qS10 => ?_)
  have G_S10 := zz_Gm.put [] G_S9 qS10 (-2147483648) 2147483647 rfl (by decide) (by decide +kernel)
  have F_S10 := zz_fr.puts F_S9 qS10 (by decide +kernel)
  refine zz_aload_n (x := 1006) rfl zd_4_2_50 ?_
  refine zz_iconst zd_4_2_51 ?_
  refine zz_iconst zd_4_2_52 ?_
  refine zz_iconst zd_4_2_53 ?_
  refine zz_callVV [zi 1, zi 1, zi 1] zd_4_2_54 zk_Layer_45 zT_1006 (by decide) rfl rfl ⟨Nat.le_of_ble_eq_true rfl, Nat.le_of_ble_eq_true rfl⟩ ⟨rfl, rfl⟩ (Nat.le_of_ble_eq_true rfl) (Nat.le_of_ble_eq_true rfl) (zc_takeForm_4_3_c1006_1007 S10 (zz_Gm.sub (C1 := [1006]) (X1 := []) G_S10 (by decide +kernel) (by decide +kernel))) (fun S11 hP => ?_)
  obtain ⟨gS11, fS11, o12⟩ := hP
  have F_S11 := zz_fr.trans F_S10 fS11 (by decide +kernel) zz_nv
  have G_S11 := zz_Gm.call [] G_S10 fS11 gS11 (by decide +kernel) (by decide +kernel) (by decide +kernel) (by decide +kernel)
  refine zz_aload_n (x := 1006) rfl zd_4_2_57 ?_
  refine zz_iconst zd_4_2_58 ?_
  refine zz_puti zd_4_2_59 zf_Layer_48 zT_1006 rfl (by decide) (fun S13 qS13 => ?_)
  have G_S13 := zz_Gm.put [] G_S11 qS13 (-2147483648) 2147483647 rfl (by decide) (by decide +kernel)
  have F_S13 := zz_fr.puts F_S11 qS13 (by decide +kernel)
  refine zz_aload_n (x := 1006) rfl zd_4_2_62 ?_
  refine zz_iconst zd_4_2_63 ?_
  refine zz_puti zd_4_2_64 zf_Layer_51 zT_1006 rfl (by decide) (fun S14 qS14 => ?_)
  have G_S14 := zz_Gm.put [] G_S13 qS14 (-2147483648) 2147483647 rfl (by decide) (by decide +kernel)
  have F_S14 := zz_fr.puts F_S13 qS14 (by decide +kernel)
  have e15 : S14 1006 0 = 0 := (zz_ro qS14 (fun h => absurd h.2 (by decide)) (zz_ro qS13 (fun h => absurd h.2 (by decide)) (zz_rc fS11 rfl rfl (fun h => h) (zz_ro qS10 (fun h => absurd h.2 (by decide)) (zz_ro qS9 (fun h => absurd h.2 (by decide)) (zz_ro qS8 (fun h => absurd h.2 (by decide)) (zz_ro qS7 (fun h => absurd h.2 (by decide)) (zz_ro qS6 (fun h => absurd h.2 (by decide)) (zz_ro qS5 (fun h => absurd h.2 (by decide)) (zz_ro qS4 (fun h => absurd h.2 (by decide)) (zz_ro qS3 (fun h => absurd h.2 (by decide)) (zz_ro qS2 (fun h => absurd h.2 (by decide)) (zz_rs qS1)))))))))))))
  have e16 : S14 1006 12 = 1 := (zz_ro qS14 (fun h => absurd h.2 (by decide)) (zz_ro qS13 (fun h => absurd h.2 (by decide)) o12))
  have e17 : S14 1006 3 = 1 := (zz_ro qS14 (fun h => absurd h.2 (by decide)) (zz_ro qS13 (fun h => absurd h.2 (by decide)) (zz_rc fS11 rfl rfl (fun h => h) (zz_ro qS10 (fun h => absurd h.2 (by decide)) (zz_ro qS9 (fun h => absurd h.2 (by decide)) (zz_ro qS8 (fun h => absurd h.2 (by decide)) (zz_ro qS7 (fun h => absurd h.2 (by decide)) (zz_ro qS6 (fun h => absurd h.2 (by decide)) (zz_ro qS5 (fun h => absurd h.2 (by decide)) (zz_rs qS4))))))))))
  have e18 : S14 1006 4 = 1 := (zz_ro qS14 (fun h => absurd h.2 (by decide)) (zz_ro qS13 (fun h => absurd h.2 (by decide)) (zz_rc fS11 rfl rfl (fun h => h) (zz_ro qS10 (fun h => absurd h.2 (by decide)) (zz_ro qS9 (fun h => absurd h.2 (by decide)) (zz_ro qS8 (fun h => absurd h.2 (by decide)) (zz_ro qS7 (fun h => absurd h.2 (by decide)) (zz_ro qS6 (fun h => absurd h.2 (by decide)) (zz_rs qS5)))))))))
  exact zz_vret zd_4_2_67 rfl (Nat.le_of_ble_eq_true rfl) (Nat.le_of_ble_eq_true rfl) ⟨_, rfl, G_S14, F_S14, by omega⟩
-- TensorForge$Layer <init> ()V at 1006, 1007
abbrev zr_init_4_1_c1006_1007 : Room := { frames := 2, cells := 0, slots := 0, locals := 30 }
def zp_init_4_1_c1006_1007 (S0 : zz_S) : zz_S → Prop := fun S => zz_Gm [1006, 1006, 1006] [] S ∧ zz_fr [(1006, 0), (1006, 1), (1006, 2), (1006, 3), (1006, 4), (1006, 5), (1006, 6), (1006, 7), (1006, 8), (1006, 9), (1006, 10), (1006, 11), (1006, 12), (1006, 13), (1006, 14)] [] (fun _ _ => False) S0 S ∧ (S 1006 0 = 0 ∧ S 1006 3 = 1 ∧ S 1006 4 = 1 ∧ S 1006 12 = 1)
theorem zc_init_4_1_c1006_1007 {g : mm_G} {l : Launch} (S0 : zz_S) (G_S0 : zz_Gm [1006] [] S0) : mm_Met g l zy_init_4_1 zr_init_4_1_c1006_1007 [.ref 1006] (zz_M S0 1007) 1007 (zz_QV 1007 (zp_init_4_1_c1006_1007 S0)) := by
  refine zz_enter (by decide) (Nat.le_of_ble_eq_true rfl) (zz_less (ls1 := [some (.ref 1006)]) ⟨rfl, trivial⟩ ?_)
  have F_S0 : zz_fr [(1006, 0), (1006, 1), (1006, 2), (1006, 3), (1006, 4), (1006, 5), (1006, 6), (1006, 7), (1006, 8), (1006, 9), (1006, 10), (1006, 11), (1006, 12), (1006, 13), (1006, 14)] [] (fun _ _ => False) S0 S0 := zz_fr.refl
  refine zz_aload_n (x := 1006) rfl zd_4_1_0 ?_
  refine zz_objI zd_4_1_1 zoi_Layer_1 zoi.1 zoi.2 (Nat.le_of_ble_eq_true rfl) (Nat.le_of_ble_eq_true rfl) ?_
  refine zz_aload_n (x := 1006) rfl zd_4_1_4 ?_
  refine zz_iconst zd_4_1_5 ?_
  refine zz_iconst zd_4_1_6 ?_
  refine zz_iconst zd_4_1_7 ?_
  refine zz_callVV [zi 0, zi 0, zi 0] zd_4_1_8 zk_Layer_9 zT_1006 (by decide) rfl rfl ⟨Nat.le_of_ble_eq_true rfl, Nat.le_of_ble_eq_true rfl⟩ ⟨rfl, rfl⟩ (Nat.le_of_ble_eq_true rfl) (Nat.le_of_ble_eq_true rfl) (zc_reset_4_2_c1006_1007 S0 (zz_Gm.sub (C1 := [1006]) (X1 := []) G_S0 (by decide +kernel) (by decide +kernel))) (fun S2 hP => ?_)
  obtain ⟨gS2, fS2, o3⟩ := hP
  have F_S2 := zz_fr.trans F_S0 fS2 (by decide +kernel) zz_nv
  have G_S2 := zz_Gm.call [] G_S0 fS2 gS2 (by decide +kernel) (by decide +kernel) (by decide +kernel) (by decide +kernel)
  have g4 := trivial
  have g5 := trivial
  have g6 := trivial
  have g7 := trivial
  exact zz_vret zd_4_1_11 rfl (Nat.le_of_ble_eq_true rfl) (Nat.le_of_ble_eq_true rfl) ⟨_, rfl, G_S2, F_S2, by omega⟩
def zX_5 : List (Nat × Nat) := [(1002, 4), (1002, 5), (1002, 6), (1002, 7), (1002, 8), (1002, 9), (1002, 10), (1002, 11), (1001, 1)]
-- TensorForge$Layer takeForm (III)V at 1007, 1008
abbrev zr_takeForm_4_3_c1007_1008 : Room := { frames := 0, cells := 0, slots := 0, locals := 0 }
def zp_takeForm_4_3_c1007_1008 (S0 : zz_S) : zz_S → Prop := fun S => zz_Gm [1007] [] S ∧ zz_fr [(1007, 10), (1007, 11), (1007, 12)] [] (fun _ _ => False) S0 S ∧ (S 1007 12 = 1)
theorem zc_takeForm_4_3_c1007_1008 {g : mm_G} {l : Launch} (S0 : zz_S) (G_S0 : zz_Gm [1007] [] S0) : mm_Met g l zy_takeForm_4_3 zr_takeForm_4_3_c1007_1008 [.ref 1007, zi 1, zi 1, zi 1] (zz_M S0 1008) 1008 (zz_QV 1008 (zp_takeForm_4_3_c1007_1008 S0)) := by
  refine zz_enter (by decide) (Nat.le_of_ble_eq_true rfl) (zz_less (ls1 := [some (.ref 1007), some (zi 1), some (zi 1), some (zi 1)]) ⟨rfl, ⟨rfl, ⟨rfl, ⟨rfl, trivial⟩⟩⟩⟩ ?_)
  have F_S0 : zz_fr [(1007, 10), (1007, 11), (1007, 12)] [] (fun _ _ => False) S0 S0 := zz_fr.refl
  refine zz_aload_n (x := 1007) rfl zd_4_3_0 ?_
  refine zz_iload_n (x := 1) rfl zd_4_3_1 ?_
  refine zz_puti zd_4_3_2 zf_Layer_54 zT_1007 rfl (by decide) (fun S1 qS1 => ?_)
  have G_S1 := zz_Gm.put [] G_S0 qS1 (-2147483648) 2147483647 rfl (by decide) (by decide +kernel)
  have F_S1 := zz_fr.puts F_S0 qS1 (by decide +kernel)
  refine zz_aload_n (x := 1007) rfl zd_4_3_5 ?_
  refine zz_iload_n (x := 1) rfl zd_4_3_6 ?_
  refine zz_puti zd_4_3_7 zf_Layer_57 zT_1007 rfl (by decide) (fun S2 qS2 => ?_)
  have G_S2 := zz_Gm.put [] G_S1 qS2 (-2147483648) 2147483647 rfl (by decide) (by decide +kernel)
  have F_S2 := zz_fr.puts F_S1 qS2 (by decide +kernel)
  refine zz_aload_n (x := 1007) rfl zd_4_3_10 ?_
  refine zz_iload_n (x := 1) rfl zd_4_3_11 ?_
  refine zz_puti zd_4_3_12 zf_Layer_60 zT_1007 rfl (by decide) (fun S3 qS3 => ?_)
  have G_S3 := zz_Gm.put [] G_S2 qS3 (-2147483648) 2147483647 rfl (by decide) (by decide +kernel)
  have F_S3 := zz_fr.puts F_S2 qS3 (by decide +kernel)
  have e4 : S3 1007 12 = 1 := (zz_rs qS3)
  exact zz_vret zd_4_3_15 rfl (Nat.le_of_ble_eq_true rfl) (Nat.le_of_ble_eq_true rfl) ⟨_, rfl, G_S3, F_S3, by omega⟩
-- TensorForge$Layer reset (III)V at 1007, 1008
abbrev zr_reset_4_2_c1007_1008 : Room := { frames := 1, cells := 0, slots := 0, locals := 15 }
def zp_reset_4_2_c1007_1008 (S0 : zz_S) : zz_S → Prop := fun S => zz_Gm [1007, 1007] [] S ∧ zz_fr [(1007, 0), (1007, 1), (1007, 2), (1007, 3), (1007, 4), (1007, 5), (1007, 6), (1007, 7), (1007, 8), (1007, 9), (1007, 10), (1007, 11), (1007, 12), (1007, 13), (1007, 14)] [] (fun _ _ => False) S0 S ∧ (S 1007 0 = 0 ∧ S 1007 3 = 1 ∧ S 1007 4 = 1 ∧ S 1007 12 = 1)
theorem zc_reset_4_2_c1007_1008 {g : mm_G} {l : Launch} (S0 : zz_S) (G_S0 : zz_Gm [1007] [] S0) : mm_Met g l zy_reset_4_2 zr_reset_4_2_c1007_1008 [.ref 1007, zi 0, zi 0, zi 0] (zz_M S0 1008) 1008 (zz_QV 1008 (zp_reset_4_2_c1007_1008 S0)) := by
  refine zz_enter (by decide) (Nat.le_of_ble_eq_true rfl) (zz_less (ls1 := [some (.ref 1007), some (zi 0), some (zi 0), some (zi 0)]) ⟨rfl, ⟨rfl, ⟨rfl, ⟨rfl, trivial⟩⟩⟩⟩ ?_)
  have F_S0 : zz_fr [(1007, 0), (1007, 1), (1007, 2), (1007, 3), (1007, 4), (1007, 5), (1007, 6), (1007, 7), (1007, 8), (1007, 9), (1007, 10), (1007, 11), (1007, 12), (1007, 13), (1007, 14)] [] (fun _ _ => False) S0 S0 := zz_fr.refl
  refine zz_aload_n (x := 1007) rfl zd_4_2_0 ?_
  refine zz_iload_n (x := 0) rfl zd_4_2_1 ?_
  refine zz_puti zd_4_2_2 zf_Layer_13 zT_1007 rfl (by decide) (fun S1 qS1 => ?_)
  have G_S1 := zz_Gm.put [] G_S0 qS1 (-2147483648) 2147483647 rfl (by decide) (by decide +kernel)
  have F_S1 := zz_fr.puts F_S0 qS1 (by decide +kernel)
  refine zz_aload_n (x := 1007) rfl zd_4_2_5 ?_
  refine zz_iload_n (x := 0) rfl zd_4_2_6 ?_
  refine zz_puti zd_4_2_7 zf_Layer_17 zT_1007 rfl (by decide) (fun S2 qS2 => ?_)
  have G_S2 := zz_Gm.put [] G_S1 qS2 (-2147483648) 2147483647 rfl (by decide) (by decide +kernel)
  have F_S2 := zz_fr.puts F_S1 qS2 (by decide +kernel)
  refine zz_aload_n (x := 1007) rfl zd_4_2_10 ?_
  refine zz_iload_n (x := 0) rfl zd_4_2_11 ?_
  refine zz_puti zd_4_2_12 zf_Layer_20 zT_1007 rfl (by decide) (fun S3 qS3 => ?_)
  have G_S3 := zz_Gm.put [] G_S2 qS3 (-2147483648) 2147483647 rfl (by decide) (by decide +kernel)
  have F_S3 := zz_fr.puts F_S2 qS3 (by decide +kernel)
  refine zz_aload_n (x := 1007) rfl zd_4_2_15 ?_
  refine zz_iconst zd_4_2_16 ?_
  refine zz_puti zd_4_2_17 zf_Layer_23 zT_1007 rfl (by decide) (fun S4 qS4 => ?_)
  have G_S4 := zz_Gm.put [] G_S3 qS4 (-2147483648) 2147483647 rfl (by decide) (by decide +kernel)
  have F_S4 := zz_fr.puts F_S3 qS4 (by decide +kernel)
  refine zz_aload_n (x := 1007) rfl zd_4_2_20 ?_
  refine zz_iconst zd_4_2_21 ?_
  refine zz_puti zd_4_2_22 zf_Layer_26 zT_1007 rfl (by decide) (fun S5 qS5 => ?_)
  have G_S5 := zz_Gm.put [] G_S4 qS5 (-2147483648) 2147483647 rfl (by decide) (by decide +kernel)
  have F_S5 := zz_fr.puts F_S4 qS5 (by decide +kernel)
  refine zz_aload_n (x := 1007) rfl zd_4_2_25 ?_
  refine zz_iconst zd_4_2_26 ?_
  refine zz_puti zd_4_2_27 zf_Layer_29 zT_1007 rfl (by decide) (fun S6 qS6 => ?_)
  have G_S6 := zz_Gm.put [] G_S5 qS6 (-2147483648) 2147483647 rfl (by decide) (by decide +kernel)
  have F_S6 := zz_fr.puts F_S5 qS6 (by decide +kernel)
  refine zz_aload_n (x := 1007) rfl zd_4_2_30 ?_
  refine zz_iconst zd_4_2_31 ?_
  refine zz_puti zd_4_2_32 zf_Layer_32 zT_1007 rfl (by decide) (fun S7 qS7 => ?_)
  have G_S7 := zz_Gm.put [] G_S6 qS7 (-2147483648) 2147483647 rfl (by decide) (by decide +kernel)
  have F_S7 := zz_fr.puts F_S6 qS7 (by decide +kernel)
  refine zz_aload_n (x := 1007) rfl zd_4_2_35 ?_
  refine zz_iconst zd_4_2_36 ?_
  refine zz_puti zd_4_2_37 zf_Layer_35 zT_1007 rfl (by decide) (fun S8 qS8 => ?_)
  have G_S8 := zz_Gm.put [] G_S7 qS8 (-2147483648) 2147483647 rfl (by decide) (by decide +kernel)
  have F_S8 := zz_fr.puts F_S7 qS8 (by decide +kernel)
  refine zz_aload_n (x := 1007) rfl zd_4_2_40 ?_
  refine zz_iconst zd_4_2_41 ?_
  refine zz_putz zd_4_2_42 zf_Layer_38 zT_1007 rfl (by decide) (by decide) (fun S9 qS9 => ?_)
  have G_S9 := zz_Gm.put [] G_S8 qS9 0 1 rfl (by decide) (by decide +kernel)
  have F_S9 := zz_fr.puts F_S8 qS9 (by decide +kernel)
  refine zz_aload_n (x := 1007) rfl zd_4_2_45 ?_
  refine zz_iconst zd_4_2_46 ?_
  refine zz_puti zd_4_2_47 zf_Layer_42 zT_1007 rfl (by decide) (fun S10 qS10 => ?_)
  have G_S10 := zz_Gm.put [] G_S9 qS10 (-2147483648) 2147483647 rfl (by decide) (by decide +kernel)
  have F_S10 := zz_fr.puts F_S9 qS10 (by decide +kernel)
  refine zz_aload_n (x := 1007) rfl zd_4_2_50 ?_
  refine zz_iconst zd_4_2_51 ?_
  refine zz_iconst zd_4_2_52 ?_
  refine zz_iconst zd_4_2_53 ?_
  refine zz_callVV [zi 1, zi 1, zi 1] zd_4_2_54 zk_Layer_45 zT_1007 (by decide) rfl rfl ⟨Nat.le_of_ble_eq_true rfl, Nat.le_of_ble_eq_true rfl⟩ ⟨rfl, rfl⟩ (Nat.le_of_ble_eq_true rfl) (Nat.le_of_ble_eq_true rfl) (zc_takeForm_4_3_c1007_1008 S10 (zz_Gm.sub (C1 := [1007]) (X1 := []) G_S10 (by decide +kernel) (by decide +kernel))) (fun S11 hP => ?_)
  obtain ⟨gS11, fS11, o12⟩ := hP
  have F_S11 := zz_fr.trans F_S10 fS11 (by decide +kernel) zz_nv
  have G_S11 := zz_Gm.call [] G_S10 fS11 gS11 (by decide +kernel) (by decide +kernel) (by decide +kernel) (by decide +kernel)
  refine zz_aload_n (x := 1007) rfl zd_4_2_57 ?_
  refine zz_iconst zd_4_2_58 ?_
  refine zz_puti zd_4_2_59 zf_Layer_48 zT_1007 rfl (by decide) (fun S13 qS13 => ?_)
  have G_S13 := zz_Gm.put [] G_S11 qS13 (-2147483648) 2147483647 rfl (by decide) (by decide +kernel)
  have F_S13 := zz_fr.puts F_S11 qS13 (by decide +kernel)
  refine zz_aload_n (x := 1007) rfl zd_4_2_62 ?_
  refine zz_iconst zd_4_2_63 ?_
  refine zz_puti zd_4_2_64 zf_Layer_51 zT_1007 rfl (by decide) (fun S14 qS14 => ?_)
  have G_S14 := zz_Gm.put [] G_S13 qS14 (-2147483648) 2147483647 rfl (by decide) (by decide +kernel)
  have F_S14 := zz_fr.puts F_S13 qS14 (by decide +kernel)
  have e15 : S14 1007 0 = 0 := (zz_ro qS14 (fun h => absurd h.2 (by decide)) (zz_ro qS13 (fun h => absurd h.2 (by decide)) (zz_rc fS11 rfl rfl (fun h => h) (zz_ro qS10 (fun h => absurd h.2 (by decide)) (zz_ro qS9 (fun h => absurd h.2 (by decide)) (zz_ro qS8 (fun h => absurd h.2 (by decide)) (zz_ro qS7 (fun h => absurd h.2 (by decide)) (zz_ro qS6 (fun h => absurd h.2 (by decide)) (zz_ro qS5 (fun h => absurd h.2 (by decide)) (zz_ro qS4 (fun h => absurd h.2 (by decide)) (zz_ro qS3 (fun h => absurd h.2 (by decide)) (zz_ro qS2 (fun h => absurd h.2 (by decide)) (zz_rs qS1)))))))))))))
  have e16 : S14 1007 12 = 1 := (zz_ro qS14 (fun h => absurd h.2 (by decide)) (zz_ro qS13 (fun h => absurd h.2 (by decide)) o12))
  have e17 : S14 1007 3 = 1 := (zz_ro qS14 (fun h => absurd h.2 (by decide)) (zz_ro qS13 (fun h => absurd h.2 (by decide)) (zz_rc fS11 rfl rfl (fun h => h) (zz_ro qS10 (fun h => absurd h.2 (by decide)) (zz_ro qS9 (fun h => absurd h.2 (by decide)) (zz_ro qS8 (fun h => absurd h.2 (by decide)) (zz_ro qS7 (fun h => absurd h.2 (by decide)) (zz_ro qS6 (fun h => absurd h.2 (by decide)) (zz_ro qS5 (fun h => absurd h.2 (by decide)) (zz_rs qS4))))))))))
  have e18 : S14 1007 4 = 1 := (zz_ro qS14 (fun h => absurd h.2 (by decide)) (zz_ro qS13 (fun h => absurd h.2 (by decide)) (zz_rc fS11 rfl rfl (fun h => h) (zz_ro qS10 (fun h => absurd h.2 (by decide)) (zz_ro qS9 (fun h => absurd h.2 (by decide)) (zz_ro qS8 (fun h => absurd h.2 (by decide)) (zz_ro qS7 (fun h => absurd h.2 (by decide)) (zz_ro qS6 (fun h => absurd h.2 (by decide)) (zz_rs qS5)))))))))
  exact zz_vret zd_4_2_67 rfl (Nat.le_of_ble_eq_true rfl) (Nat.le_of_ble_eq_true rfl) ⟨_, rfl, G_S14, F_S14, by omega⟩
-- TensorForge$Layer <init> ()V at 1007, 1008
abbrev zr_init_4_1_c1007_1008 : Room := { frames := 2, cells := 0, slots := 0, locals := 30 }
def zp_init_4_1_c1007_1008 (S0 : zz_S) : zz_S → Prop := fun S => zz_Gm [1007, 1007, 1007] [] S ∧ zz_fr [(1007, 0), (1007, 1), (1007, 2), (1007, 3), (1007, 4), (1007, 5), (1007, 6), (1007, 7), (1007, 8), (1007, 9), (1007, 10), (1007, 11), (1007, 12), (1007, 13), (1007, 14)] [] (fun _ _ => False) S0 S ∧ (S 1007 0 = 0 ∧ S 1007 3 = 1 ∧ S 1007 4 = 1 ∧ S 1007 12 = 1)
theorem zc_init_4_1_c1007_1008 {g : mm_G} {l : Launch} (S0 : zz_S) (G_S0 : zz_Gm [1007] [] S0) : mm_Met g l zy_init_4_1 zr_init_4_1_c1007_1008 [.ref 1007] (zz_M S0 1008) 1008 (zz_QV 1008 (zp_init_4_1_c1007_1008 S0)) := by
  refine zz_enter (by decide) (Nat.le_of_ble_eq_true rfl) (zz_less (ls1 := [some (.ref 1007)]) ⟨rfl, trivial⟩ ?_)
  have F_S0 : zz_fr [(1007, 0), (1007, 1), (1007, 2), (1007, 3), (1007, 4), (1007, 5), (1007, 6), (1007, 7), (1007, 8), (1007, 9), (1007, 10), (1007, 11), (1007, 12), (1007, 13), (1007, 14)] [] (fun _ _ => False) S0 S0 := zz_fr.refl
  refine zz_aload_n (x := 1007) rfl zd_4_1_0 ?_
  refine zz_objI zd_4_1_1 zoi_Layer_1 zoi.1 zoi.2 (Nat.le_of_ble_eq_true rfl) (Nat.le_of_ble_eq_true rfl) ?_
  refine zz_aload_n (x := 1007) rfl zd_4_1_4 ?_
  refine zz_iconst zd_4_1_5 ?_
  refine zz_iconst zd_4_1_6 ?_
  refine zz_iconst zd_4_1_7 ?_
  refine zz_callVV [zi 0, zi 0, zi 0] zd_4_1_8 zk_Layer_9 zT_1007 (by decide) rfl rfl ⟨Nat.le_of_ble_eq_true rfl, Nat.le_of_ble_eq_true rfl⟩ ⟨rfl, rfl⟩ (Nat.le_of_ble_eq_true rfl) (Nat.le_of_ble_eq_true rfl) (zc_reset_4_2_c1007_1008 S0 (zz_Gm.sub (C1 := [1007]) (X1 := []) G_S0 (by decide +kernel) (by decide +kernel))) (fun S2 hP => ?_)
  obtain ⟨gS2, fS2, o3⟩ := hP
  have F_S2 := zz_fr.trans F_S0 fS2 (by decide +kernel) zz_nv
  have G_S2 := zz_Gm.call [] G_S0 fS2 gS2 (by decide +kernel) (by decide +kernel) (by decide +kernel) (by decide +kernel)
  have g4 := trivial
  have g5 := trivial
  have g6 := trivial
  have g7 := trivial
  exact zz_vret zd_4_1_11 rfl (Nat.le_of_ble_eq_true rfl) (Nat.le_of_ble_eq_true rfl) ⟨_, rfl, G_S2, F_S2, by omega⟩
def zX_6 : List (Nat × Nat) := [(1002, 5), (1002, 6), (1002, 7), (1002, 8), (1002, 9), (1002, 10), (1002, 11), (1001, 1)]
-- TensorForge$Layer takeForm (III)V at 1008, 1009
abbrev zr_takeForm_4_3_c1008_1009 : Room := { frames := 0, cells := 0, slots := 0, locals := 0 }
def zp_takeForm_4_3_c1008_1009 (S0 : zz_S) : zz_S → Prop := fun S => zz_Gm [1008] [] S ∧ zz_fr [(1008, 10), (1008, 11), (1008, 12)] [] (fun _ _ => False) S0 S ∧ (S 1008 12 = 1)
theorem zc_takeForm_4_3_c1008_1009 {g : mm_G} {l : Launch} (S0 : zz_S) (G_S0 : zz_Gm [1008] [] S0) : mm_Met g l zy_takeForm_4_3 zr_takeForm_4_3_c1008_1009 [.ref 1008, zi 1, zi 1, zi 1] (zz_M S0 1009) 1009 (zz_QV 1009 (zp_takeForm_4_3_c1008_1009 S0)) := by
  refine zz_enter (by decide) (Nat.le_of_ble_eq_true rfl) (zz_less (ls1 := [some (.ref 1008), some (zi 1), some (zi 1), some (zi 1)]) ⟨rfl, ⟨rfl, ⟨rfl, ⟨rfl, trivial⟩⟩⟩⟩ ?_)
  have F_S0 : zz_fr [(1008, 10), (1008, 11), (1008, 12)] [] (fun _ _ => False) S0 S0 := zz_fr.refl
  refine zz_aload_n (x := 1008) rfl zd_4_3_0 ?_
  refine zz_iload_n (x := 1) rfl zd_4_3_1 ?_
  refine zz_puti zd_4_3_2 zf_Layer_54 zT_1008 rfl (by decide) (fun S1 qS1 => ?_)
  have G_S1 := zz_Gm.put [] G_S0 qS1 (-2147483648) 2147483647 rfl (by decide) (by decide +kernel)
  have F_S1 := zz_fr.puts F_S0 qS1 (by decide +kernel)
  refine zz_aload_n (x := 1008) rfl zd_4_3_5 ?_
  refine zz_iload_n (x := 1) rfl zd_4_3_6 ?_
  refine zz_puti zd_4_3_7 zf_Layer_57 zT_1008 rfl (by decide) (fun S2 qS2 => ?_)
  have G_S2 := zz_Gm.put [] G_S1 qS2 (-2147483648) 2147483647 rfl (by decide) (by decide +kernel)
  have F_S2 := zz_fr.puts F_S1 qS2 (by decide +kernel)
  refine zz_aload_n (x := 1008) rfl zd_4_3_10 ?_
  refine zz_iload_n (x := 1) rfl zd_4_3_11 ?_
  refine zz_puti zd_4_3_12 zf_Layer_60 zT_1008 rfl (by decide) (fun S3 qS3 => ?_)
  have G_S3 := zz_Gm.put [] G_S2 qS3 (-2147483648) 2147483647 rfl (by decide) (by decide +kernel)
  have F_S3 := zz_fr.puts F_S2 qS3 (by decide +kernel)
  have e4 : S3 1008 12 = 1 := (zz_rs qS3)
  exact zz_vret zd_4_3_15 rfl (Nat.le_of_ble_eq_true rfl) (Nat.le_of_ble_eq_true rfl) ⟨_, rfl, G_S3, F_S3, by omega⟩
-- TensorForge$Layer reset (III)V at 1008, 1009
abbrev zr_reset_4_2_c1008_1009 : Room := { frames := 1, cells := 0, slots := 0, locals := 15 }
def zp_reset_4_2_c1008_1009 (S0 : zz_S) : zz_S → Prop := fun S => zz_Gm [1008, 1008] [] S ∧ zz_fr [(1008, 0), (1008, 1), (1008, 2), (1008, 3), (1008, 4), (1008, 5), (1008, 6), (1008, 7), (1008, 8), (1008, 9), (1008, 10), (1008, 11), (1008, 12), (1008, 13), (1008, 14)] [] (fun _ _ => False) S0 S ∧ (S 1008 0 = 0 ∧ S 1008 3 = 1 ∧ S 1008 4 = 1 ∧ S 1008 12 = 1)
theorem zc_reset_4_2_c1008_1009 {g : mm_G} {l : Launch} (S0 : zz_S) (G_S0 : zz_Gm [1008] [] S0) : mm_Met g l zy_reset_4_2 zr_reset_4_2_c1008_1009 [.ref 1008, zi 0, zi 0, zi 0] (zz_M S0 1009) 1009 (zz_QV 1009 (zp_reset_4_2_c1008_1009 S0)) := by
  refine zz_enter (by decide) (Nat.le_of_ble_eq_true rfl) (zz_less (ls1 := [some (.ref 1008), some (zi 0), some (zi 0), some (zi 0)]) ⟨rfl, ⟨rfl, ⟨rfl, ⟨rfl, trivial⟩⟩⟩⟩ ?_)
  have F_S0 : zz_fr [(1008, 0), (1008, 1), (1008, 2), (1008, 3), (1008, 4), (1008, 5), (1008, 6), (1008, 7), (1008, 8), (1008, 9), (1008, 10), (1008, 11), (1008, 12), (1008, 13), (1008, 14)] [] (fun _ _ => False) S0 S0 := zz_fr.refl
  refine zz_aload_n (x := 1008) rfl zd_4_2_0 ?_
  refine zz_iload_n (x := 0) rfl zd_4_2_1 ?_
  refine zz_puti zd_4_2_2 zf_Layer_13 zT_1008 rfl (by decide) (fun S1 qS1 => ?_)
  have G_S1 := zz_Gm.put [] G_S0 qS1 (-2147483648) 2147483647 rfl (by decide) (by decide +kernel)
  have F_S1 := zz_fr.puts F_S0 qS1 (by decide +kernel)
  refine zz_aload_n (x := 1008) rfl zd_4_2_5 ?_
  refine zz_iload_n (x := 0) rfl zd_4_2_6 ?_
  refine zz_puti zd_4_2_7 zf_Layer_17 zT_1008 rfl (by decide) (fun S2 qS2 => ?_)
  have G_S2 := zz_Gm.put [] G_S1 qS2 (-2147483648) 2147483647 rfl (by decide) (by decide +kernel)
  have F_S2 := zz_fr.puts F_S1 qS2 (by decide +kernel)
  refine zz_aload_n (x := 1008) rfl zd_4_2_10 ?_
  refine zz_iload_n (x := 0) rfl zd_4_2_11 ?_
  refine zz_puti zd_4_2_12 zf_Layer_20 zT_1008 rfl (by decide) (fun S3 qS3 => ?_)
  have G_S3 := zz_Gm.put [] G_S2 qS3 (-2147483648) 2147483647 rfl (by decide) (by decide +kernel)
  have F_S3 := zz_fr.puts F_S2 qS3 (by decide +kernel)
  refine zz_aload_n (x := 1008) rfl zd_4_2_15 ?_
  refine zz_iconst zd_4_2_16 ?_
  refine zz_puti zd_4_2_17 zf_Layer_23 zT_1008 rfl (by decide) (fun S4 qS4 => ?_)
  have G_S4 := zz_Gm.put [] G_S3 qS4 (-2147483648) 2147483647 rfl (by decide) (by decide +kernel)
  have F_S4 := zz_fr.puts F_S3 qS4 (by decide +kernel)
  refine zz_aload_n (x := 1008) rfl zd_4_2_20 ?_
  refine zz_iconst zd_4_2_21 ?_
  refine zz_puti zd_4_2_22 zf_Layer_26 zT_1008 rfl (by decide) (fun S5 qS5 => ?_)
  have G_S5 := zz_Gm.put [] G_S4 qS5 (-2147483648) 2147483647 rfl (by decide) (by decide +kernel)
  have F_S5 := zz_fr.puts F_S4 qS5 (by decide +kernel)
  refine zz_aload_n (x := 1008) rfl zd_4_2_25 ?_
  refine zz_iconst zd_4_2_26 ?_
  refine zz_puti zd_4_2_27 zf_Layer_29 zT_1008 rfl (by decide) (fun S6 qS6 => ?_)
  have G_S6 := zz_Gm.put [] G_S5 qS6 (-2147483648) 2147483647 rfl (by decide) (by decide +kernel)
  have F_S6 := zz_fr.puts F_S5 qS6 (by decide +kernel)
  refine zz_aload_n (x := 1008) rfl zd_4_2_30 ?_
  refine zz_iconst zd_4_2_31 ?_
  refine zz_puti zd_4_2_32 zf_Layer_32 zT_1008 rfl (by decide) (fun S7 qS7 => ?_)
  have G_S7 := zz_Gm.put [] G_S6 qS7 (-2147483648) 2147483647 rfl (by decide) (by decide +kernel)
  have F_S7 := zz_fr.puts F_S6 qS7 (by decide +kernel)
  refine zz_aload_n (x := 1008) rfl zd_4_2_35 ?_
  refine zz_iconst zd_4_2_36 ?_
  refine zz_puti zd_4_2_37 zf_Layer_35 zT_1008 rfl (by decide) (fun S8 qS8 => ?_)
  have G_S8 := zz_Gm.put [] G_S7 qS8 (-2147483648) 2147483647 rfl (by decide) (by decide +kernel)
  have F_S8 := zz_fr.puts F_S7 qS8 (by decide +kernel)
  refine zz_aload_n (x := 1008) rfl zd_4_2_40 ?_
  refine zz_iconst zd_4_2_41 ?_
  refine zz_putz zd_4_2_42 zf_Layer_38 zT_1008 rfl (by decide) (by decide) (fun S9 qS9 => ?_)
  have G_S9 := zz_Gm.put [] G_S8 qS9 0 1 rfl (by decide) (by decide +kernel)
  have F_S9 := zz_fr.puts F_S8 qS9 (by decide +kernel)
  refine zz_aload_n (x := 1008) rfl zd_4_2_45 ?_
  refine zz_iconst zd_4_2_46 ?_
  refine zz_puti zd_4_2_47 zf_Layer_42 zT_1008 rfl (by decide) (fun S10 qS10 => ?_)
  have G_S10 := zz_Gm.put [] G_S9 qS10 (-2147483648) 2147483647 rfl (by decide) (by decide +kernel)
  have F_S10 := zz_fr.puts F_S9 qS10 (by decide +kernel)
  refine zz_aload_n (x := 1008) rfl zd_4_2_50 ?_
  refine zz_iconst zd_4_2_51 ?_
  refine zz_iconst zd_4_2_52 ?_
  refine zz_iconst zd_4_2_53 ?_
  refine zz_callVV [zi 1, zi 1, zi 1] zd_4_2_54 zk_Layer_45 zT_1008 (by decide) rfl rfl ⟨Nat.le_of_ble_eq_true rfl, Nat.le_of_ble_eq_true rfl⟩ ⟨rfl, rfl⟩ (Nat.le_of_ble_eq_true rfl) (Nat.le_of_ble_eq_true rfl) (zc_takeForm_4_3_c1008_1009 S10 (zz_Gm.sub (C1 := [1008]) (X1 := []) G_S10 (by decide +kernel) (by decide +kernel))) (fun S11 hP => ?_)
  obtain ⟨gS11, fS11, o12⟩ := hP
  have F_S11 := zz_fr.trans F_S10 fS11 (by decide +kernel) zz_nv
  have G_S11 := zz_Gm.call [] G_S10 fS11 gS11 (by decide +kernel) (by decide +kernel) (by decide +kernel) (by decide +kernel)
  refine zz_aload_n (x := 1008) rfl zd_4_2_57 ?_
  refine zz_iconst zd_4_2_58 ?_
  refine zz_puti zd_4_2_59 zf_Layer_48 zT_1008 rfl (by decide) (fun S13 qS13 => ?_)
  have G_S13 := zz_Gm.put [] G_S11 qS13 (-2147483648) 2147483647 rfl (by decide) (by decide +kernel)
  have F_S13 := zz_fr.puts F_S11 qS13 (by decide +kernel)
  refine zz_aload_n (x := 1008) rfl zd_4_2_62 ?_
  refine zz_iconst zd_4_2_63 ?_
  refine zz_puti zd_4_2_64 zf_Layer_51 zT_1008 rfl (by decide) (fun S14 qS14 => ?_)
  have G_S14 := zz_Gm.put [] G_S13 qS14 (-2147483648) 2147483647 rfl (by decide) (by decide +kernel)
  have F_S14 := zz_fr.puts F_S13 qS14 (by decide +kernel)
  have e15 : S14 1008 0 = 0 := (zz_ro qS14 (fun h => absurd h.2 (by decide)) (zz_ro qS13 (fun h => absurd h.2 (by decide)) (zz_rc fS11 rfl rfl (fun h => h) (zz_ro qS10 (fun h => absurd h.2 (by decide)) (zz_ro qS9 (fun h => absurd h.2 (by decide)) (zz_ro qS8 (fun h => absurd h.2 (by decide)) (zz_ro qS7 (fun h => absurd h.2 (by decide)) (zz_ro qS6 (fun h => absurd h.2 (by decide)) (zz_ro qS5 (fun h => absurd h.2 (by decide)) (zz_ro qS4 (fun h => absurd h.2 (by decide)) (zz_ro qS3 (fun h => absurd h.2 (by decide)) (zz_ro qS2 (fun h => absurd h.2 (by decide)) (zz_rs qS1)))))))))))))
  have e16 : S14 1008 12 = 1 := (zz_ro qS14 (fun h => absurd h.2 (by decide)) (zz_ro qS13 (fun h => absurd h.2 (by decide)) o12))
  have e17 : S14 1008 3 = 1 := (zz_ro qS14 (fun h => absurd h.2 (by decide)) (zz_ro qS13 (fun h => absurd h.2 (by decide)) (zz_rc fS11 rfl rfl (fun h => h) (zz_ro qS10 (fun h => absurd h.2 (by decide)) (zz_ro qS9 (fun h => absurd h.2 (by decide)) (zz_ro qS8 (fun h => absurd h.2 (by decide)) (zz_ro qS7 (fun h => absurd h.2 (by decide)) (zz_ro qS6 (fun h => absurd h.2 (by decide)) (zz_ro qS5 (fun h => absurd h.2 (by decide)) (zz_rs qS4))))))))))
  have e18 : S14 1008 4 = 1 := (zz_ro qS14 (fun h => absurd h.2 (by decide)) (zz_ro qS13 (fun h => absurd h.2 (by decide)) (zz_rc fS11 rfl rfl (fun h => h) (zz_ro qS10 (fun h => absurd h.2 (by decide)) (zz_ro qS9 (fun h => absurd h.2 (by decide)) (zz_ro qS8 (fun h => absurd h.2 (by decide)) (zz_ro qS7 (fun h => absurd h.2 (by decide)) (zz_ro qS6 (fun h => absurd h.2 (by decide)) (zz_rs qS5)))))))))
  exact zz_vret zd_4_2_67 rfl (Nat.le_of_ble_eq_true rfl) (Nat.le_of_ble_eq_true rfl) ⟨_, rfl, G_S14, F_S14, by omega⟩
-- TensorForge$Layer <init> ()V at 1008, 1009
abbrev zr_init_4_1_c1008_1009 : Room := { frames := 2, cells := 0, slots := 0, locals := 30 }
def zp_init_4_1_c1008_1009 (S0 : zz_S) : zz_S → Prop := fun S => zz_Gm [1008, 1008, 1008] [] S ∧ zz_fr [(1008, 0), (1008, 1), (1008, 2), (1008, 3), (1008, 4), (1008, 5), (1008, 6), (1008, 7), (1008, 8), (1008, 9), (1008, 10), (1008, 11), (1008, 12), (1008, 13), (1008, 14)] [] (fun _ _ => False) S0 S ∧ (S 1008 0 = 0 ∧ S 1008 3 = 1 ∧ S 1008 4 = 1 ∧ S 1008 12 = 1)
theorem zc_init_4_1_c1008_1009 {g : mm_G} {l : Launch} (S0 : zz_S) (G_S0 : zz_Gm [1008] [] S0) : mm_Met g l zy_init_4_1 zr_init_4_1_c1008_1009 [.ref 1008] (zz_M S0 1009) 1009 (zz_QV 1009 (zp_init_4_1_c1008_1009 S0)) := by
  refine zz_enter (by decide) (Nat.le_of_ble_eq_true rfl) (zz_less (ls1 := [some (.ref 1008)]) ⟨rfl, trivial⟩ ?_)
  have F_S0 : zz_fr [(1008, 0), (1008, 1), (1008, 2), (1008, 3), (1008, 4), (1008, 5), (1008, 6), (1008, 7), (1008, 8), (1008, 9), (1008, 10), (1008, 11), (1008, 12), (1008, 13), (1008, 14)] [] (fun _ _ => False) S0 S0 := zz_fr.refl
  refine zz_aload_n (x := 1008) rfl zd_4_1_0 ?_
  refine zz_objI zd_4_1_1 zoi_Layer_1 zoi.1 zoi.2 (Nat.le_of_ble_eq_true rfl) (Nat.le_of_ble_eq_true rfl) ?_
  refine zz_aload_n (x := 1008) rfl zd_4_1_4 ?_
  refine zz_iconst zd_4_1_5 ?_
  refine zz_iconst zd_4_1_6 ?_
  refine zz_iconst zd_4_1_7 ?_
  refine zz_callVV [zi 0, zi 0, zi 0] zd_4_1_8 zk_Layer_9 zT_1008 (by decide) rfl rfl ⟨Nat.le_of_ble_eq_true rfl, Nat.le_of_ble_eq_true rfl⟩ ⟨rfl, rfl⟩ (Nat.le_of_ble_eq_true rfl) (Nat.le_of_ble_eq_true rfl) (zc_reset_4_2_c1008_1009 S0 (zz_Gm.sub (C1 := [1008]) (X1 := []) G_S0 (by decide +kernel) (by decide +kernel))) (fun S2 hP => ?_)
  obtain ⟨gS2, fS2, o3⟩ := hP
  have F_S2 := zz_fr.trans F_S0 fS2 (by decide +kernel) zz_nv
  have G_S2 := zz_Gm.call [] G_S0 fS2 gS2 (by decide +kernel) (by decide +kernel) (by decide +kernel) (by decide +kernel)
  have g4 := trivial
  have g5 := trivial
  have g6 := trivial
  have g7 := trivial
  exact zz_vret zd_4_1_11 rfl (Nat.le_of_ble_eq_true rfl) (Nat.le_of_ble_eq_true rfl) ⟨_, rfl, G_S2, F_S2, by omega⟩
def zX_7 : List (Nat × Nat) := [(1002, 6), (1002, 7), (1002, 8), (1002, 9), (1002, 10), (1002, 11), (1001, 1)]
-- TensorForge$Layer takeForm (III)V at 1009, 1010
abbrev zr_takeForm_4_3_c1009_1010 : Room := { frames := 0, cells := 0, slots := 0, locals := 0 }
def zp_takeForm_4_3_c1009_1010 (S0 : zz_S) : zz_S → Prop := fun S => zz_Gm [1009] [] S ∧ zz_fr [(1009, 10), (1009, 11), (1009, 12)] [] (fun _ _ => False) S0 S ∧ (S 1009 12 = 1)
theorem zc_takeForm_4_3_c1009_1010 {g : mm_G} {l : Launch} (S0 : zz_S) (G_S0 : zz_Gm [1009] [] S0) : mm_Met g l zy_takeForm_4_3 zr_takeForm_4_3_c1009_1010 [.ref 1009, zi 1, zi 1, zi 1] (zz_M S0 1010) 1010 (zz_QV 1010 (zp_takeForm_4_3_c1009_1010 S0)) := by
  refine zz_enter (by decide) (Nat.le_of_ble_eq_true rfl) (zz_less (ls1 := [some (.ref 1009), some (zi 1), some (zi 1), some (zi 1)]) ⟨rfl, ⟨rfl, ⟨rfl, ⟨rfl, trivial⟩⟩⟩⟩ ?_)
  have F_S0 : zz_fr [(1009, 10), (1009, 11), (1009, 12)] [] (fun _ _ => False) S0 S0 := zz_fr.refl
  refine zz_aload_n (x := 1009) rfl zd_4_3_0 ?_
  refine zz_iload_n (x := 1) rfl zd_4_3_1 ?_
  refine zz_puti zd_4_3_2 zf_Layer_54 zT_1009 rfl (by decide) (fun S1 qS1 => ?_)
  have G_S1 := zz_Gm.put [] G_S0 qS1 (-2147483648) 2147483647 rfl (by decide) (by decide +kernel)
  have F_S1 := zz_fr.puts F_S0 qS1 (by decide +kernel)
  refine zz_aload_n (x := 1009) rfl zd_4_3_5 ?_
  refine zz_iload_n (x := 1) rfl zd_4_3_6 ?_
  refine zz_puti zd_4_3_7 zf_Layer_57 zT_1009 rfl (by decide) (fun S2 qS2 => ?_)
  have G_S2 := zz_Gm.put [] G_S1 qS2 (-2147483648) 2147483647 rfl (by decide) (by decide +kernel)
  have F_S2 := zz_fr.puts F_S1 qS2 (by decide +kernel)
  refine zz_aload_n (x := 1009) rfl zd_4_3_10 ?_
  refine zz_iload_n (x := 1) rfl zd_4_3_11 ?_
  refine zz_puti zd_4_3_12 zf_Layer_60 zT_1009 rfl (by decide) (fun S3 qS3 => ?_)
  have G_S3 := zz_Gm.put [] G_S2 qS3 (-2147483648) 2147483647 rfl (by decide) (by decide +kernel)
  have F_S3 := zz_fr.puts F_S2 qS3 (by decide +kernel)
  have e4 : S3 1009 12 = 1 := (zz_rs qS3)
  exact zz_vret zd_4_3_15 rfl (Nat.le_of_ble_eq_true rfl) (Nat.le_of_ble_eq_true rfl) ⟨_, rfl, G_S3, F_S3, by omega⟩
-- TensorForge$Layer reset (III)V at 1009, 1010
abbrev zr_reset_4_2_c1009_1010 : Room := { frames := 1, cells := 0, slots := 0, locals := 15 }
def zp_reset_4_2_c1009_1010 (S0 : zz_S) : zz_S → Prop := fun S => zz_Gm [1009, 1009] [] S ∧ zz_fr [(1009, 0), (1009, 1), (1009, 2), (1009, 3), (1009, 4), (1009, 5), (1009, 6), (1009, 7), (1009, 8), (1009, 9), (1009, 10), (1009, 11), (1009, 12), (1009, 13), (1009, 14)] [] (fun _ _ => False) S0 S ∧ (S 1009 0 = 0 ∧ S 1009 3 = 1 ∧ S 1009 4 = 1 ∧ S 1009 12 = 1)
theorem zc_reset_4_2_c1009_1010 {g : mm_G} {l : Launch} (S0 : zz_S) (G_S0 : zz_Gm [1009] [] S0) : mm_Met g l zy_reset_4_2 zr_reset_4_2_c1009_1010 [.ref 1009, zi 0, zi 0, zi 0] (zz_M S0 1010) 1010 (zz_QV 1010 (zp_reset_4_2_c1009_1010 S0)) := by
  refine zz_enter (by decide) (Nat.le_of_ble_eq_true rfl) (zz_less (ls1 := [some (.ref 1009), some (zi 0), some (zi 0), some (zi 0)]) ⟨rfl, ⟨rfl, ⟨rfl, ⟨rfl, trivial⟩⟩⟩⟩ ?_)
  have F_S0 : zz_fr [(1009, 0), (1009, 1), (1009, 2), (1009, 3), (1009, 4), (1009, 5), (1009, 6), (1009, 7), (1009, 8), (1009, 9), (1009, 10), (1009, 11), (1009, 12), (1009, 13), (1009, 14)] [] (fun _ _ => False) S0 S0 := zz_fr.refl
  refine zz_aload_n (x := 1009) rfl zd_4_2_0 ?_
  refine zz_iload_n (x := 0) rfl zd_4_2_1 ?_
  refine zz_puti zd_4_2_2 zf_Layer_13 zT_1009 rfl (by decide) (fun S1 qS1 => ?_)
  have G_S1 := zz_Gm.put [] G_S0 qS1 (-2147483648) 2147483647 rfl (by decide) (by decide +kernel)
  have F_S1 := zz_fr.puts F_S0 qS1 (by decide +kernel)
  refine zz_aload_n (x := 1009) rfl zd_4_2_5 ?_
  refine zz_iload_n (x := 0) rfl zd_4_2_6 ?_
  refine zz_puti zd_4_2_7 zf_Layer_17 zT_1009 rfl (by decide) (fun S2 qS2 => ?_)
  have G_S2 := zz_Gm.put [] G_S1 qS2 (-2147483648) 2147483647 rfl (by decide) (by decide +kernel)
  have F_S2 := zz_fr.puts F_S1 qS2 (by decide +kernel)
  refine zz_aload_n (x := 1009) rfl zd_4_2_10 ?_
  refine zz_iload_n (x := 0) rfl zd_4_2_11 ?_
  refine zz_puti zd_4_2_12 zf_Layer_20 zT_1009 rfl (by decide) (fun S3 qS3 => ?_)
  have G_S3 := zz_Gm.put [] G_S2 qS3 (-2147483648) 2147483647 rfl (by decide) (by decide +kernel)
  have F_S3 := zz_fr.puts F_S2 qS3 (by decide +kernel)
  refine zz_aload_n (x := 1009) rfl zd_4_2_15 ?_
  refine zz_iconst zd_4_2_16 ?_
  refine zz_puti zd_4_2_17 zf_Layer_23 zT_1009 rfl (by decide) (fun S4 qS4 => ?_)
  have G_S4 := zz_Gm.put [] G_S3 qS4 (-2147483648) 2147483647 rfl (by decide) (by decide +kernel)
  have F_S4 := zz_fr.puts F_S3 qS4 (by decide +kernel)
  refine zz_aload_n (x := 1009) rfl zd_4_2_20 ?_
  refine zz_iconst zd_4_2_21 ?_
  refine zz_puti zd_4_2_22 zf_Layer_26 zT_1009 rfl (by decide) (fun S5 qS5 => ?_)
  have G_S5 := zz_Gm.put [] G_S4 qS5 (-2147483648) 2147483647 rfl (by decide) (by decide +kernel)
  have F_S5 := zz_fr.puts F_S4 qS5 (by decide +kernel)
  refine zz_aload_n (x := 1009) rfl zd_4_2_25 ?_
  refine zz_iconst zd_4_2_26 ?_
  refine zz_puti zd_4_2_27 zf_Layer_29 zT_1009 rfl (by decide) (fun S6 qS6 => ?_)
  have G_S6 := zz_Gm.put [] G_S5 qS6 (-2147483648) 2147483647 rfl (by decide) (by decide +kernel)
  have F_S6 := zz_fr.puts F_S5 qS6 (by decide +kernel)
  refine zz_aload_n (x := 1009) rfl zd_4_2_30 ?_
  refine zz_iconst zd_4_2_31 ?_
  refine zz_puti zd_4_2_32 zf_Layer_32 zT_1009 rfl (by decide) (fun S7 qS7 => ?_)
  have G_S7 := zz_Gm.put [] G_S6 qS7 (-2147483648) 2147483647 rfl (by decide) (by decide +kernel)
  have F_S7 := zz_fr.puts F_S6 qS7 (by decide +kernel)
  refine zz_aload_n (x := 1009) rfl zd_4_2_35 ?_
  refine zz_iconst zd_4_2_36 ?_
  refine zz_puti zd_4_2_37 zf_Layer_35 zT_1009 rfl (by decide) (fun S8 qS8 => ?_)
  have G_S8 := zz_Gm.put [] G_S7 qS8 (-2147483648) 2147483647 rfl (by decide) (by decide +kernel)
  have F_S8 := zz_fr.puts F_S7 qS8 (by decide +kernel)
  refine zz_aload_n (x := 1009) rfl zd_4_2_40 ?_
  refine zz_iconst zd_4_2_41 ?_
  refine zz_putz zd_4_2_42 zf_Layer_38 zT_1009 rfl (by decide) (by decide) (fun S9 qS9 => ?_)
  have G_S9 := zz_Gm.put [] G_S8 qS9 0 1 rfl (by decide) (by decide +kernel)
  have F_S9 := zz_fr.puts F_S8 qS9 (by decide +kernel)
  refine zz_aload_n (x := 1009) rfl zd_4_2_45 ?_
  refine zz_iconst zd_4_2_46 ?_
  refine zz_puti zd_4_2_47 zf_Layer_42 zT_1009 rfl (by decide) (fun S10 qS10 => ?_)
  have G_S10 := zz_Gm.put [] G_S9 qS10 (-2147483648) 2147483647 rfl (by decide) (by decide +kernel)
  have F_S10 := zz_fr.puts F_S9 qS10 (by decide +kernel)
  refine zz_aload_n (x := 1009) rfl zd_4_2_50 ?_
  refine zz_iconst zd_4_2_51 ?_
  refine zz_iconst zd_4_2_52 ?_
  refine zz_iconst zd_4_2_53 ?_
  refine zz_callVV [zi 1, zi 1, zi 1] zd_4_2_54 zk_Layer_45 zT_1009 (by decide) rfl rfl ⟨Nat.le_of_ble_eq_true rfl, Nat.le_of_ble_eq_true rfl⟩ ⟨rfl, rfl⟩ (Nat.le_of_ble_eq_true rfl) (Nat.le_of_ble_eq_true rfl) (zc_takeForm_4_3_c1009_1010 S10 (zz_Gm.sub (C1 := [1009]) (X1 := []) G_S10 (by decide +kernel) (by decide +kernel))) (fun S11 hP => ?_)
  obtain ⟨gS11, fS11, o12⟩ := hP
  have F_S11 := zz_fr.trans F_S10 fS11 (by decide +kernel) zz_nv
  have G_S11 := zz_Gm.call [] G_S10 fS11 gS11 (by decide +kernel) (by decide +kernel) (by decide +kernel) (by decide +kernel)
  refine zz_aload_n (x := 1009) rfl zd_4_2_57 ?_
  refine zz_iconst zd_4_2_58 ?_
  refine zz_puti zd_4_2_59 zf_Layer_48 zT_1009 rfl (by decide) (fun S13 qS13 => ?_)
  have G_S13 := zz_Gm.put [] G_S11 qS13 (-2147483648) 2147483647 rfl (by decide) (by decide +kernel)
  have F_S13 := zz_fr.puts F_S11 qS13 (by decide +kernel)
  refine zz_aload_n (x := 1009) rfl zd_4_2_62 ?_
  refine zz_iconst zd_4_2_63 ?_
  refine zz_puti zd_4_2_64 zf_Layer_51 zT_1009 rfl (by decide) (fun S14 qS14 => ?_)
  have G_S14 := zz_Gm.put [] G_S13 qS14 (-2147483648) 2147483647 rfl (by decide) (by decide +kernel)
  have F_S14 := zz_fr.puts F_S13 qS14 (by decide +kernel)
  have e15 : S14 1009 0 = 0 := (zz_ro qS14 (fun h => absurd h.2 (by decide)) (zz_ro qS13 (fun h => absurd h.2 (by decide)) (zz_rc fS11 rfl rfl (fun h => h) (zz_ro qS10 (fun h => absurd h.2 (by decide)) (zz_ro qS9 (fun h => absurd h.2 (by decide)) (zz_ro qS8 (fun h => absurd h.2 (by decide)) (zz_ro qS7 (fun h => absurd h.2 (by decide)) (zz_ro qS6 (fun h => absurd h.2 (by decide)) (zz_ro qS5 (fun h => absurd h.2 (by decide)) (zz_ro qS4 (fun h => absurd h.2 (by decide)) (zz_ro qS3 (fun h => absurd h.2 (by decide)) (zz_ro qS2 (fun h => absurd h.2 (by decide)) (zz_rs qS1)))))))))))))
  have e16 : S14 1009 12 = 1 := (zz_ro qS14 (fun h => absurd h.2 (by decide)) (zz_ro qS13 (fun h => absurd h.2 (by decide)) o12))
  have e17 : S14 1009 3 = 1 := (zz_ro qS14 (fun h => absurd h.2 (by decide)) (zz_ro qS13 (fun h => absurd h.2 (by decide)) (zz_rc fS11 rfl rfl (fun h => h) (zz_ro qS10 (fun h => absurd h.2 (by decide)) (zz_ro qS9 (fun h => absurd h.2 (by decide)) (zz_ro qS8 (fun h => absurd h.2 (by decide)) (zz_ro qS7 (fun h => absurd h.2 (by decide)) (zz_ro qS6 (fun h => absurd h.2 (by decide)) (zz_ro qS5 (fun h => absurd h.2 (by decide)) (zz_rs qS4))))))))))
  have e18 : S14 1009 4 = 1 := (zz_ro qS14 (fun h => absurd h.2 (by decide)) (zz_ro qS13 (fun h => absurd h.2 (by decide)) (zz_rc fS11 rfl rfl (fun h => h) (zz_ro qS10 (fun h => absurd h.2 (by decide)) (zz_ro qS9 (fun h => absurd h.2 (by decide)) (zz_ro qS8 (fun h => absurd h.2 (by decide)) (zz_ro qS7 (fun h => absurd h.2 (by decide)) (zz_ro qS6 (fun h => absurd h.2 (by decide)) (zz_rs qS5)))))))))
  exact zz_vret zd_4_2_67 rfl (Nat.le_of_ble_eq_true rfl) (Nat.le_of_ble_eq_true rfl) ⟨_, rfl, G_S14, F_S14, by omega⟩
-- TensorForge$Layer <init> ()V at 1009, 1010
abbrev zr_init_4_1_c1009_1010 : Room := { frames := 2, cells := 0, slots := 0, locals := 30 }
def zp_init_4_1_c1009_1010 (S0 : zz_S) : zz_S → Prop := fun S => zz_Gm [1009, 1009, 1009] [] S ∧ zz_fr [(1009, 0), (1009, 1), (1009, 2), (1009, 3), (1009, 4), (1009, 5), (1009, 6), (1009, 7), (1009, 8), (1009, 9), (1009, 10), (1009, 11), (1009, 12), (1009, 13), (1009, 14)] [] (fun _ _ => False) S0 S ∧ (S 1009 0 = 0 ∧ S 1009 3 = 1 ∧ S 1009 4 = 1 ∧ S 1009 12 = 1)
theorem zc_init_4_1_c1009_1010 {g : mm_G} {l : Launch} (S0 : zz_S) (G_S0 : zz_Gm [1009] [] S0) : mm_Met g l zy_init_4_1 zr_init_4_1_c1009_1010 [.ref 1009] (zz_M S0 1010) 1010 (zz_QV 1010 (zp_init_4_1_c1009_1010 S0)) := by
  refine zz_enter (by decide) (Nat.le_of_ble_eq_true rfl) (zz_less (ls1 := [some (.ref 1009)]) ⟨rfl, trivial⟩ ?_)
  have F_S0 : zz_fr [(1009, 0), (1009, 1), (1009, 2), (1009, 3), (1009, 4), (1009, 5), (1009, 6), (1009, 7), (1009, 8), (1009, 9), (1009, 10), (1009, 11), (1009, 12), (1009, 13), (1009, 14)] [] (fun _ _ => False) S0 S0 := zz_fr.refl
  refine zz_aload_n (x := 1009) rfl zd_4_1_0 ?_
  refine zz_objI zd_4_1_1 zoi_Layer_1 zoi.1 zoi.2 (Nat.le_of_ble_eq_true rfl) (Nat.le_of_ble_eq_true rfl) ?_
  refine zz_aload_n (x := 1009) rfl zd_4_1_4 ?_
  refine zz_iconst zd_4_1_5 ?_
  refine zz_iconst zd_4_1_6 ?_
  refine zz_iconst zd_4_1_7 ?_
  refine zz_callVV [zi 0, zi 0, zi 0] zd_4_1_8 zk_Layer_9 zT_1009 (by decide) rfl rfl ⟨Nat.le_of_ble_eq_true rfl, Nat.le_of_ble_eq_true rfl⟩ ⟨rfl, rfl⟩ (Nat.le_of_ble_eq_true rfl) (Nat.le_of_ble_eq_true rfl) (zc_reset_4_2_c1009_1010 S0 (zz_Gm.sub (C1 := [1009]) (X1 := []) G_S0 (by decide +kernel) (by decide +kernel))) (fun S2 hP => ?_)
  obtain ⟨gS2, fS2, o3⟩ := hP
  have F_S2 := zz_fr.trans F_S0 fS2 (by decide +kernel) zz_nv
  have G_S2 := zz_Gm.call [] G_S0 fS2 gS2 (by decide +kernel) (by decide +kernel) (by decide +kernel) (by decide +kernel)
  have g4 := trivial
  have g5 := trivial
  have g6 := trivial
  have g7 := trivial
  exact zz_vret zd_4_1_11 rfl (Nat.le_of_ble_eq_true rfl) (Nat.le_of_ble_eq_true rfl) ⟨_, rfl, G_S2, F_S2, by omega⟩
def zX_8 : List (Nat × Nat) := [(1002, 7), (1002, 8), (1002, 9), (1002, 10), (1002, 11), (1001, 1)]
-- TensorForge$Layer takeForm (III)V at 1010, 1011
abbrev zr_takeForm_4_3_c1010_1011 : Room := { frames := 0, cells := 0, slots := 0, locals := 0 }
def zp_takeForm_4_3_c1010_1011 (S0 : zz_S) : zz_S → Prop := fun S => zz_Gm [1010] [] S ∧ zz_fr [(1010, 10), (1010, 11), (1010, 12)] [] (fun _ _ => False) S0 S ∧ (S 1010 12 = 1)
theorem zc_takeForm_4_3_c1010_1011 {g : mm_G} {l : Launch} (S0 : zz_S) (G_S0 : zz_Gm [1010] [] S0) : mm_Met g l zy_takeForm_4_3 zr_takeForm_4_3_c1010_1011 [.ref 1010, zi 1, zi 1, zi 1] (zz_M S0 1011) 1011 (zz_QV 1011 (zp_takeForm_4_3_c1010_1011 S0)) := by
  refine zz_enter (by decide) (Nat.le_of_ble_eq_true rfl) (zz_less (ls1 := [some (.ref 1010), some (zi 1), some (zi 1), some (zi 1)]) ⟨rfl, ⟨rfl, ⟨rfl, ⟨rfl, trivial⟩⟩⟩⟩ ?_)
  have F_S0 : zz_fr [(1010, 10), (1010, 11), (1010, 12)] [] (fun _ _ => False) S0 S0 := zz_fr.refl
  refine zz_aload_n (x := 1010) rfl zd_4_3_0 ?_
  refine zz_iload_n (x := 1) rfl zd_4_3_1 ?_
  refine zz_puti zd_4_3_2 zf_Layer_54 zT_1010 rfl (by decide) (fun S1 qS1 => ?_)
  have G_S1 := zz_Gm.put [] G_S0 qS1 (-2147483648) 2147483647 rfl (by decide) (by decide +kernel)
  have F_S1 := zz_fr.puts F_S0 qS1 (by decide +kernel)
  refine zz_aload_n (x := 1010) rfl zd_4_3_5 ?_
  refine zz_iload_n (x := 1) rfl zd_4_3_6 ?_
  refine zz_puti zd_4_3_7 zf_Layer_57 zT_1010 rfl (by decide) (fun S2 qS2 => ?_)
  have G_S2 := zz_Gm.put [] G_S1 qS2 (-2147483648) 2147483647 rfl (by decide) (by decide +kernel)
  have F_S2 := zz_fr.puts F_S1 qS2 (by decide +kernel)
  refine zz_aload_n (x := 1010) rfl zd_4_3_10 ?_
  refine zz_iload_n (x := 1) rfl zd_4_3_11 ?_
  refine zz_puti zd_4_3_12 zf_Layer_60 zT_1010 rfl (by decide) (fun S3 qS3 => ?_)
  have G_S3 := zz_Gm.put [] G_S2 qS3 (-2147483648) 2147483647 rfl (by decide) (by decide +kernel)
  have F_S3 := zz_fr.puts F_S2 qS3 (by decide +kernel)
  have e4 : S3 1010 12 = 1 := (zz_rs qS3)
  exact zz_vret zd_4_3_15 rfl (Nat.le_of_ble_eq_true rfl) (Nat.le_of_ble_eq_true rfl) ⟨_, rfl, G_S3, F_S3, by omega⟩
-- TensorForge$Layer reset (III)V at 1010, 1011
abbrev zr_reset_4_2_c1010_1011 : Room := { frames := 1, cells := 0, slots := 0, locals := 15 }
def zp_reset_4_2_c1010_1011 (S0 : zz_S) : zz_S → Prop := fun S => zz_Gm [1010, 1010] [] S ∧ zz_fr [(1010, 0), (1010, 1), (1010, 2), (1010, 3), (1010, 4), (1010, 5), (1010, 6), (1010, 7), (1010, 8), (1010, 9), (1010, 10), (1010, 11), (1010, 12), (1010, 13), (1010, 14)] [] (fun _ _ => False) S0 S ∧ (S 1010 0 = 0 ∧ S 1010 3 = 1 ∧ S 1010 4 = 1 ∧ S 1010 12 = 1)
theorem zc_reset_4_2_c1010_1011 {g : mm_G} {l : Launch} (S0 : zz_S) (G_S0 : zz_Gm [1010] [] S0) : mm_Met g l zy_reset_4_2 zr_reset_4_2_c1010_1011 [.ref 1010, zi 0, zi 0, zi 0] (zz_M S0 1011) 1011 (zz_QV 1011 (zp_reset_4_2_c1010_1011 S0)) := by
  refine zz_enter (by decide) (Nat.le_of_ble_eq_true rfl) (zz_less (ls1 := [some (.ref 1010), some (zi 0), some (zi 0), some (zi 0)]) ⟨rfl, ⟨rfl, ⟨rfl, ⟨rfl, trivial⟩⟩⟩⟩ ?_)
  have F_S0 : zz_fr [(1010, 0), (1010, 1), (1010, 2), (1010, 3), (1010, 4), (1010, 5), (1010, 6), (1010, 7), (1010, 8), (1010, 9), (1010, 10), (1010, 11), (1010, 12), (1010, 13), (1010, 14)] [] (fun _ _ => False) S0 S0 := zz_fr.refl
  refine zz_aload_n (x := 1010) rfl zd_4_2_0 ?_
  refine zz_iload_n (x := 0) rfl zd_4_2_1 ?_
  refine zz_puti zd_4_2_2 zf_Layer_13 zT_1010 rfl (by decide) (fun S1 qS1 => ?_)
  have G_S1 := zz_Gm.put [] G_S0 qS1 (-2147483648) 2147483647 rfl (by decide) (by decide +kernel)
  have F_S1 := zz_fr.puts F_S0 qS1 (by decide +kernel)
  refine zz_aload_n (x := 1010) rfl zd_4_2_5 ?_
  refine zz_iload_n (x := 0) rfl zd_4_2_6 ?_
  refine zz_puti zd_4_2_7 zf_Layer_17 zT_1010 rfl (by decide) (fun S2 qS2 => ?_)
  have G_S2 := zz_Gm.put [] G_S1 qS2 (-2147483648) 2147483647 rfl (by decide) (by decide +kernel)
  have F_S2 := zz_fr.puts F_S1 qS2 (by decide +kernel)
  refine zz_aload_n (x := 1010) rfl zd_4_2_10 ?_
  refine zz_iload_n (x := 0) rfl zd_4_2_11 ?_
  refine zz_puti zd_4_2_12 zf_Layer_20 zT_1010 rfl (by decide) (fun S3 qS3 => ?_)
  have G_S3 := zz_Gm.put [] G_S2 qS3 (-2147483648) 2147483647 rfl (by decide) (by decide +kernel)
  have F_S3 := zz_fr.puts F_S2 qS3 (by decide +kernel)
  refine zz_aload_n (x := 1010) rfl zd_4_2_15 ?_
  refine zz_iconst zd_4_2_16 ?_
  refine zz_puti zd_4_2_17 zf_Layer_23 zT_1010 rfl (by decide) (fun S4 qS4 => ?_)
  have G_S4 := zz_Gm.put [] G_S3 qS4 (-2147483648) 2147483647 rfl (by decide) (by decide +kernel)
  have F_S4 := zz_fr.puts F_S3 qS4 (by decide +kernel)
  refine zz_aload_n (x := 1010) rfl zd_4_2_20 ?_
  refine zz_iconst zd_4_2_21 ?_
  refine zz_puti zd_4_2_22 zf_Layer_26 zT_1010 rfl (by decide) (fun S5 qS5 => ?_)
  have G_S5 := zz_Gm.put [] G_S4 qS5 (-2147483648) 2147483647 rfl (by decide) (by decide +kernel)
  have F_S5 := zz_fr.puts F_S4 qS5 (by decide +kernel)
  refine zz_aload_n (x := 1010) rfl zd_4_2_25 ?_
  refine zz_iconst zd_4_2_26 ?_
  refine zz_puti zd_4_2_27 zf_Layer_29 zT_1010 rfl (by decide) (fun S6 qS6 => ?_)
  have G_S6 := zz_Gm.put [] G_S5 qS6 (-2147483648) 2147483647 rfl (by decide) (by decide +kernel)
  have F_S6 := zz_fr.puts F_S5 qS6 (by decide +kernel)
  refine zz_aload_n (x := 1010) rfl zd_4_2_30 ?_
  refine zz_iconst zd_4_2_31 ?_
  refine zz_puti zd_4_2_32 zf_Layer_32 zT_1010 rfl (by decide) (fun S7 qS7 => ?_)
  have G_S7 := zz_Gm.put [] G_S6 qS7 (-2147483648) 2147483647 rfl (by decide) (by decide +kernel)
  have F_S7 := zz_fr.puts F_S6 qS7 (by decide +kernel)
  refine zz_aload_n (x := 1010) rfl zd_4_2_35 ?_
  refine zz_iconst zd_4_2_36 ?_
  refine zz_puti zd_4_2_37 zf_Layer_35 zT_1010 rfl (by decide) (fun S8 qS8 => ?_)
  have G_S8 := zz_Gm.put [] G_S7 qS8 (-2147483648) 2147483647 rfl (by decide) (by decide +kernel)
  have F_S8 := zz_fr.puts F_S7 qS8 (by decide +kernel)
  refine zz_aload_n (x := 1010) rfl zd_4_2_40 ?_
  refine zz_iconst zd_4_2_41 ?_
  refine zz_putz zd_4_2_42 zf_Layer_38 zT_1010 rfl (by decide) (by decide) (fun S9 qS9 => ?_)
  have G_S9 := zz_Gm.put [] G_S8 qS9 0 1 rfl (by decide) (by decide +kernel)
  have F_S9 := zz_fr.puts F_S8 qS9 (by decide +kernel)
  refine zz_aload_n (x := 1010) rfl zd_4_2_45 ?_
  refine zz_iconst zd_4_2_46 ?_
  refine zz_puti zd_4_2_47 zf_Layer_42 zT_1010 rfl (by decide) (fun S10 qS10 => ?_)
  have G_S10 := zz_Gm.put [] G_S9 qS10 (-2147483648) 2147483647 rfl (by decide) (by decide +kernel)
  have F_S10 := zz_fr.puts F_S9 qS10 (by decide +kernel)
  refine zz_aload_n (x := 1010) rfl zd_4_2_50 ?_
  refine zz_iconst zd_4_2_51 ?_
  refine zz_iconst zd_4_2_52 ?_
  refine zz_iconst zd_4_2_53 ?_
  refine zz_callVV [zi 1, zi 1, zi 1] zd_4_2_54 zk_Layer_45 zT_1010 (by decide) rfl rfl ⟨Nat.le_of_ble_eq_true rfl, Nat.le_of_ble_eq_true rfl⟩ ⟨rfl, rfl⟩ (Nat.le_of_ble_eq_true rfl) (Nat.le_of_ble_eq_true rfl) (zc_takeForm_4_3_c1010_1011 S10 (zz_Gm.sub (C1 := [1010]) (X1 := []) G_S10 (by decide +kernel) (by decide +kernel))) (fun S11 hP => ?_)
  obtain ⟨gS11, fS11, o12⟩ := hP
  have F_S11 := zz_fr.trans F_S10 fS11 (by decide +kernel) zz_nv
  have G_S11 := zz_Gm.call [] G_S10 fS11 gS11 (by decide +kernel) (by decide +kernel) (by decide +kernel) (by decide +kernel)
  refine zz_aload_n (x := 1010) rfl zd_4_2_57 ?_
  refine zz_iconst zd_4_2_58 ?_
  refine zz_puti zd_4_2_59 zf_Layer_48 zT_1010 rfl (by decide) (fun S13 qS13 => ?_)
  have G_S13 := zz_Gm.put [] G_S11 qS13 (-2147483648) 2147483647 rfl (by decide) (by decide +kernel)
  have F_S13 := zz_fr.puts F_S11 qS13 (by decide +kernel)
  refine zz_aload_n (x := 1010) rfl zd_4_2_62 ?_
  refine zz_iconst zd_4_2_63 ?_
  refine zz_puti zd_4_2_64 zf_Layer_51 zT_1010 rfl (by decide) (fun S14 qS14 => ?_)
  have G_S14 := zz_Gm.put [] G_S13 qS14 (-2147483648) 2147483647 rfl (by decide) (by decide +kernel)
  have F_S14 := zz_fr.puts F_S13 qS14 (by decide +kernel)
  have e15 : S14 1010 0 = 0 := (zz_ro qS14 (fun h => absurd h.2 (by decide)) (zz_ro qS13 (fun h => absurd h.2 (by decide)) (zz_rc fS11 rfl rfl (fun h => h) (zz_ro qS10 (fun h => absurd h.2 (by decide)) (zz_ro qS9 (fun h => absurd h.2 (by decide)) (zz_ro qS8 (fun h => absurd h.2 (by decide)) (zz_ro qS7 (fun h => absurd h.2 (by decide)) (zz_ro qS6 (fun h => absurd h.2 (by decide)) (zz_ro qS5 (fun h => absurd h.2 (by decide)) (zz_ro qS4 (fun h => absurd h.2 (by decide)) (zz_ro qS3 (fun h => absurd h.2 (by decide)) (zz_ro qS2 (fun h => absurd h.2 (by decide)) (zz_rs qS1)))))))))))))
  have e16 : S14 1010 12 = 1 := (zz_ro qS14 (fun h => absurd h.2 (by decide)) (zz_ro qS13 (fun h => absurd h.2 (by decide)) o12))
  have e17 : S14 1010 3 = 1 := (zz_ro qS14 (fun h => absurd h.2 (by decide)) (zz_ro qS13 (fun h => absurd h.2 (by decide)) (zz_rc fS11 rfl rfl (fun h => h) (zz_ro qS10 (fun h => absurd h.2 (by decide)) (zz_ro qS9 (fun h => absurd h.2 (by decide)) (zz_ro qS8 (fun h => absurd h.2 (by decide)) (zz_ro qS7 (fun h => absurd h.2 (by decide)) (zz_ro qS6 (fun h => absurd h.2 (by decide)) (zz_ro qS5 (fun h => absurd h.2 (by decide)) (zz_rs qS4))))))))))
  have e18 : S14 1010 4 = 1 := (zz_ro qS14 (fun h => absurd h.2 (by decide)) (zz_ro qS13 (fun h => absurd h.2 (by decide)) (zz_rc fS11 rfl rfl (fun h => h) (zz_ro qS10 (fun h => absurd h.2 (by decide)) (zz_ro qS9 (fun h => absurd h.2 (by decide)) (zz_ro qS8 (fun h => absurd h.2 (by decide)) (zz_ro qS7 (fun h => absurd h.2 (by decide)) (zz_ro qS6 (fun h => absurd h.2 (by decide)) (zz_rs qS5)))))))))
  exact zz_vret zd_4_2_67 rfl (Nat.le_of_ble_eq_true rfl) (Nat.le_of_ble_eq_true rfl) ⟨_, rfl, G_S14, F_S14, by omega⟩
-- TensorForge$Layer <init> ()V at 1010, 1011
abbrev zr_init_4_1_c1010_1011 : Room := { frames := 2, cells := 0, slots := 0, locals := 30 }
def zp_init_4_1_c1010_1011 (S0 : zz_S) : zz_S → Prop := fun S => zz_Gm [1010, 1010, 1010] [] S ∧ zz_fr [(1010, 0), (1010, 1), (1010, 2), (1010, 3), (1010, 4), (1010, 5), (1010, 6), (1010, 7), (1010, 8), (1010, 9), (1010, 10), (1010, 11), (1010, 12), (1010, 13), (1010, 14)] [] (fun _ _ => False) S0 S ∧ (S 1010 0 = 0 ∧ S 1010 3 = 1 ∧ S 1010 4 = 1 ∧ S 1010 12 = 1)
theorem zc_init_4_1_c1010_1011 {g : mm_G} {l : Launch} (S0 : zz_S) (G_S0 : zz_Gm [1010] [] S0) : mm_Met g l zy_init_4_1 zr_init_4_1_c1010_1011 [.ref 1010] (zz_M S0 1011) 1011 (zz_QV 1011 (zp_init_4_1_c1010_1011 S0)) := by
  refine zz_enter (by decide) (Nat.le_of_ble_eq_true rfl) (zz_less (ls1 := [some (.ref 1010)]) ⟨rfl, trivial⟩ ?_)
  have F_S0 : zz_fr [(1010, 0), (1010, 1), (1010, 2), (1010, 3), (1010, 4), (1010, 5), (1010, 6), (1010, 7), (1010, 8), (1010, 9), (1010, 10), (1010, 11), (1010, 12), (1010, 13), (1010, 14)] [] (fun _ _ => False) S0 S0 := zz_fr.refl
  refine zz_aload_n (x := 1010) rfl zd_4_1_0 ?_
  refine zz_objI zd_4_1_1 zoi_Layer_1 zoi.1 zoi.2 (Nat.le_of_ble_eq_true rfl) (Nat.le_of_ble_eq_true rfl) ?_
  refine zz_aload_n (x := 1010) rfl zd_4_1_4 ?_
  refine zz_iconst zd_4_1_5 ?_
  refine zz_iconst zd_4_1_6 ?_
  refine zz_iconst zd_4_1_7 ?_
  refine zz_callVV [zi 0, zi 0, zi 0] zd_4_1_8 zk_Layer_9 zT_1010 (by decide) rfl rfl ⟨Nat.le_of_ble_eq_true rfl, Nat.le_of_ble_eq_true rfl⟩ ⟨rfl, rfl⟩ (Nat.le_of_ble_eq_true rfl) (Nat.le_of_ble_eq_true rfl) (zc_reset_4_2_c1010_1011 S0 (zz_Gm.sub (C1 := [1010]) (X1 := []) G_S0 (by decide +kernel) (by decide +kernel))) (fun S2 hP => ?_)
  obtain ⟨gS2, fS2, o3⟩ := hP
  have F_S2 := zz_fr.trans F_S0 fS2 (by decide +kernel) zz_nv
  have G_S2 := zz_Gm.call [] G_S0 fS2 gS2 (by decide +kernel) (by decide +kernel) (by decide +kernel) (by decide +kernel)
  have g4 := trivial
  have g5 := trivial
  have g6 := trivial
  have g7 := trivial
  exact zz_vret zd_4_1_11 rfl (Nat.le_of_ble_eq_true rfl) (Nat.le_of_ble_eq_true rfl) ⟨_, rfl, G_S2, F_S2, by omega⟩
def zX_9 : List (Nat × Nat) := [(1002, 8), (1002, 9), (1002, 10), (1002, 11), (1001, 1)]
-- TensorForge$Layer takeForm (III)V at 1011, 1012
abbrev zr_takeForm_4_3_c1011_1012 : Room := { frames := 0, cells := 0, slots := 0, locals := 0 }
def zp_takeForm_4_3_c1011_1012 (S0 : zz_S) : zz_S → Prop := fun S => zz_Gm [1011] [] S ∧ zz_fr [(1011, 10), (1011, 11), (1011, 12)] [] (fun _ _ => False) S0 S ∧ (S 1011 12 = 1)
theorem zc_takeForm_4_3_c1011_1012 {g : mm_G} {l : Launch} (S0 : zz_S) (G_S0 : zz_Gm [1011] [] S0) : mm_Met g l zy_takeForm_4_3 zr_takeForm_4_3_c1011_1012 [.ref 1011, zi 1, zi 1, zi 1] (zz_M S0 1012) 1012 (zz_QV 1012 (zp_takeForm_4_3_c1011_1012 S0)) := by
  refine zz_enter (by decide) (Nat.le_of_ble_eq_true rfl) (zz_less (ls1 := [some (.ref 1011), some (zi 1), some (zi 1), some (zi 1)]) ⟨rfl, ⟨rfl, ⟨rfl, ⟨rfl, trivial⟩⟩⟩⟩ ?_)
  have F_S0 : zz_fr [(1011, 10), (1011, 11), (1011, 12)] [] (fun _ _ => False) S0 S0 := zz_fr.refl
  refine zz_aload_n (x := 1011) rfl zd_4_3_0 ?_
  refine zz_iload_n (x := 1) rfl zd_4_3_1 ?_
  refine zz_puti zd_4_3_2 zf_Layer_54 zT_1011 rfl (by decide) (fun S1 qS1 => ?_)
  have G_S1 := zz_Gm.put [] G_S0 qS1 (-2147483648) 2147483647 rfl (by decide) (by decide +kernel)
  have F_S1 := zz_fr.puts F_S0 qS1 (by decide +kernel)
  refine zz_aload_n (x := 1011) rfl zd_4_3_5 ?_
  refine zz_iload_n (x := 1) rfl zd_4_3_6 ?_
  refine zz_puti zd_4_3_7 zf_Layer_57 zT_1011 rfl (by decide) (fun S2 qS2 => ?_)
  have G_S2 := zz_Gm.put [] G_S1 qS2 (-2147483648) 2147483647 rfl (by decide) (by decide +kernel)
  have F_S2 := zz_fr.puts F_S1 qS2 (by decide +kernel)
  refine zz_aload_n (x := 1011) rfl zd_4_3_10 ?_
  refine zz_iload_n (x := 1) rfl zd_4_3_11 ?_
  refine zz_puti zd_4_3_12 zf_Layer_60 zT_1011 rfl (by decide) (fun S3 qS3 => ?_)
  have G_S3 := zz_Gm.put [] G_S2 qS3 (-2147483648) 2147483647 rfl (by decide) (by decide +kernel)
  have F_S3 := zz_fr.puts F_S2 qS3 (by decide +kernel)
  have e4 : S3 1011 12 = 1 := (zz_rs qS3)
  exact zz_vret zd_4_3_15 rfl (Nat.le_of_ble_eq_true rfl) (Nat.le_of_ble_eq_true rfl) ⟨_, rfl, G_S3, F_S3, by omega⟩
-- TensorForge$Layer reset (III)V at 1011, 1012
abbrev zr_reset_4_2_c1011_1012 : Room := { frames := 1, cells := 0, slots := 0, locals := 15 }
def zp_reset_4_2_c1011_1012 (S0 : zz_S) : zz_S → Prop := fun S => zz_Gm [1011, 1011] [] S ∧ zz_fr [(1011, 0), (1011, 1), (1011, 2), (1011, 3), (1011, 4), (1011, 5), (1011, 6), (1011, 7), (1011, 8), (1011, 9), (1011, 10), (1011, 11), (1011, 12), (1011, 13), (1011, 14)] [] (fun _ _ => False) S0 S ∧ (S 1011 0 = 0 ∧ S 1011 3 = 1 ∧ S 1011 4 = 1 ∧ S 1011 12 = 1)
theorem zc_reset_4_2_c1011_1012 {g : mm_G} {l : Launch} (S0 : zz_S) (G_S0 : zz_Gm [1011] [] S0) : mm_Met g l zy_reset_4_2 zr_reset_4_2_c1011_1012 [.ref 1011, zi 0, zi 0, zi 0] (zz_M S0 1012) 1012 (zz_QV 1012 (zp_reset_4_2_c1011_1012 S0)) := by
  refine zz_enter (by decide) (Nat.le_of_ble_eq_true rfl) (zz_less (ls1 := [some (.ref 1011), some (zi 0), some (zi 0), some (zi 0)]) ⟨rfl, ⟨rfl, ⟨rfl, ⟨rfl, trivial⟩⟩⟩⟩ ?_)
  have F_S0 : zz_fr [(1011, 0), (1011, 1), (1011, 2), (1011, 3), (1011, 4), (1011, 5), (1011, 6), (1011, 7), (1011, 8), (1011, 9), (1011, 10), (1011, 11), (1011, 12), (1011, 13), (1011, 14)] [] (fun _ _ => False) S0 S0 := zz_fr.refl
  refine zz_aload_n (x := 1011) rfl zd_4_2_0 ?_
  refine zz_iload_n (x := 0) rfl zd_4_2_1 ?_
  refine zz_puti zd_4_2_2 zf_Layer_13 zT_1011 rfl (by decide) (fun S1 qS1 => ?_)
  have G_S1 := zz_Gm.put [] G_S0 qS1 (-2147483648) 2147483647 rfl (by decide) (by decide +kernel)
  have F_S1 := zz_fr.puts F_S0 qS1 (by decide +kernel)
  refine zz_aload_n (x := 1011) rfl zd_4_2_5 ?_
  refine zz_iload_n (x := 0) rfl zd_4_2_6 ?_
  refine zz_puti zd_4_2_7 zf_Layer_17 zT_1011 rfl (by decide) (fun S2 qS2 => ?_)
  have G_S2 := zz_Gm.put [] G_S1 qS2 (-2147483648) 2147483647 rfl (by decide) (by decide +kernel)
  have F_S2 := zz_fr.puts F_S1 qS2 (by decide +kernel)
  refine zz_aload_n (x := 1011) rfl zd_4_2_10 ?_
  refine zz_iload_n (x := 0) rfl zd_4_2_11 ?_
  refine zz_puti zd_4_2_12 zf_Layer_20 zT_1011 rfl (by decide) (fun S3 qS3 => ?_)
  have G_S3 := zz_Gm.put [] G_S2 qS3 (-2147483648) 2147483647 rfl (by decide) (by decide +kernel)
  have F_S3 := zz_fr.puts F_S2 qS3 (by decide +kernel)
  refine zz_aload_n (x := 1011) rfl zd_4_2_15 ?_
  refine zz_iconst zd_4_2_16 ?_
  refine zz_puti zd_4_2_17 zf_Layer_23 zT_1011 rfl (by decide) (fun S4 qS4 => ?_)
  have G_S4 := zz_Gm.put [] G_S3 qS4 (-2147483648) 2147483647 rfl (by decide) (by decide +kernel)
  have F_S4 := zz_fr.puts F_S3 qS4 (by decide +kernel)
  refine zz_aload_n (x := 1011) rfl zd_4_2_20 ?_
  refine zz_iconst zd_4_2_21 ?_
  refine zz_puti zd_4_2_22 zf_Layer_26 zT_1011 rfl (by decide) (fun S5 qS5 => ?_)
  have G_S5 := zz_Gm.put [] G_S4 qS5 (-2147483648) 2147483647 rfl (by decide) (by decide +kernel)
  have F_S5 := zz_fr.puts F_S4 qS5 (by decide +kernel)
  refine zz_aload_n (x := 1011) rfl zd_4_2_25 ?_
  refine zz_iconst zd_4_2_26 ?_
  refine zz_puti zd_4_2_27 zf_Layer_29 zT_1011 rfl (by decide) (fun S6 qS6 => ?_)
  have G_S6 := zz_Gm.put [] G_S5 qS6 (-2147483648) 2147483647 rfl (by decide) (by decide +kernel)
  have F_S6 := zz_fr.puts F_S5 qS6 (by decide +kernel)
  refine zz_aload_n (x := 1011) rfl zd_4_2_30 ?_
  refine zz_iconst zd_4_2_31 ?_
  refine zz_puti zd_4_2_32 zf_Layer_32 zT_1011 rfl (by decide) (fun S7 qS7 => ?_)
  have G_S7 := zz_Gm.put [] G_S6 qS7 (-2147483648) 2147483647 rfl (by decide) (by decide +kernel)
  have F_S7 := zz_fr.puts F_S6 qS7 (by decide +kernel)
  refine zz_aload_n (x := 1011) rfl zd_4_2_35 ?_
  refine zz_iconst zd_4_2_36 ?_
  refine zz_puti zd_4_2_37 zf_Layer_35 zT_1011 rfl (by decide) (fun S8 qS8 => ?_)
  have G_S8 := zz_Gm.put [] G_S7 qS8 (-2147483648) 2147483647 rfl (by decide) (by decide +kernel)
  have F_S8 := zz_fr.puts F_S7 qS8 (by decide +kernel)
  refine zz_aload_n (x := 1011) rfl zd_4_2_40 ?_
  refine zz_iconst zd_4_2_41 ?_
  refine zz_putz zd_4_2_42 zf_Layer_38 zT_1011 rfl (by decide) (by decide) (fun S9 qS9 => ?_)
  have G_S9 := zz_Gm.put [] G_S8 qS9 0 1 rfl (by decide) (by decide +kernel)
  have F_S9 := zz_fr.puts F_S8 qS9 (by decide +kernel)
  refine zz_aload_n (x := 1011) rfl zd_4_2_45 ?_
  refine zz_iconst zd_4_2_46 ?_
  refine zz_puti zd_4_2_47 zf_Layer_42 zT_1011 rfl (by decide) (fun S10 qS10 => ?_)
  have G_S10 := zz_Gm.put [] G_S9 qS10 (-2147483648) 2147483647 rfl (by decide) (by decide +kernel)
  have F_S10 := zz_fr.puts F_S9 qS10 (by decide +kernel)
  refine zz_aload_n (x := 1011) rfl zd_4_2_50 ?_
  refine zz_iconst zd_4_2_51 ?_
  refine zz_iconst zd_4_2_52 ?_
  refine zz_iconst zd_4_2_53 ?_
  refine zz_callVV [zi 1, zi 1, zi 1] zd_4_2_54 zk_Layer_45 zT_1011 (by decide) rfl rfl ⟨Nat.le_of_ble_eq_true rfl, Nat.le_of_ble_eq_true rfl⟩ ⟨rfl, rfl⟩ (Nat.le_of_ble_eq_true rfl) (Nat.le_of_ble_eq_true rfl) (zc_takeForm_4_3_c1011_1012 S10 (zz_Gm.sub (C1 := [1011]) (X1 := []) G_S10 (by decide +kernel) (by decide +kernel))) (fun S11 hP => ?_)
  obtain ⟨gS11, fS11, o12⟩ := hP
  have F_S11 := zz_fr.trans F_S10 fS11 (by decide +kernel) zz_nv
  have G_S11 := zz_Gm.call [] G_S10 fS11 gS11 (by decide +kernel) (by decide +kernel) (by decide +kernel) (by decide +kernel)
  refine zz_aload_n (x := 1011) rfl zd_4_2_57 ?_
  refine zz_iconst zd_4_2_58 ?_
  refine zz_puti zd_4_2_59 zf_Layer_48 zT_1011 rfl (by decide) (fun S13 qS13 => ?_)
  have G_S13 := zz_Gm.put [] G_S11 qS13 (-2147483648) 2147483647 rfl (by decide) (by decide +kernel)
  have F_S13 := zz_fr.puts F_S11 qS13 (by decide +kernel)
  refine zz_aload_n (x := 1011) rfl zd_4_2_62 ?_
  refine zz_iconst zd_4_2_63 ?_
  refine zz_puti zd_4_2_64 zf_Layer_51 zT_1011 rfl (by decide) (fun S14 qS14 => ?_)
  have G_S14 := zz_Gm.put [] G_S13 qS14 (-2147483648) 2147483647 rfl (by decide) (by decide +kernel)
  have F_S14 := zz_fr.puts F_S13 qS14 (by decide +kernel)
  have e15 : S14 1011 0 = 0 := (zz_ro qS14 (fun h => absurd h.2 (by decide)) (zz_ro qS13 (fun h => absurd h.2 (by decide)) (zz_rc fS11 rfl rfl (fun h => h) (zz_ro qS10 (fun h => absurd h.2 (by decide)) (zz_ro qS9 (fun h => absurd h.2 (by decide)) (zz_ro qS8 (fun h => absurd h.2 (by decide)) (zz_ro qS7 (fun h => absurd h.2 (by decide)) (zz_ro qS6 (fun h => absurd h.2 (by decide)) (zz_ro qS5 (fun h => absurd h.2 (by decide)) (zz_ro qS4 (fun h => absurd h.2 (by decide)) (zz_ro qS3 (fun h => absurd h.2 (by decide)) (zz_ro qS2 (fun h => absurd h.2 (by decide)) (zz_rs qS1)))))))))))))
  have e16 : S14 1011 12 = 1 := (zz_ro qS14 (fun h => absurd h.2 (by decide)) (zz_ro qS13 (fun h => absurd h.2 (by decide)) o12))
  have e17 : S14 1011 3 = 1 := (zz_ro qS14 (fun h => absurd h.2 (by decide)) (zz_ro qS13 (fun h => absurd h.2 (by decide)) (zz_rc fS11 rfl rfl (fun h => h) (zz_ro qS10 (fun h => absurd h.2 (by decide)) (zz_ro qS9 (fun h => absurd h.2 (by decide)) (zz_ro qS8 (fun h => absurd h.2 (by decide)) (zz_ro qS7 (fun h => absurd h.2 (by decide)) (zz_ro qS6 (fun h => absurd h.2 (by decide)) (zz_ro qS5 (fun h => absurd h.2 (by decide)) (zz_rs qS4))))))))))
  have e18 : S14 1011 4 = 1 := (zz_ro qS14 (fun h => absurd h.2 (by decide)) (zz_ro qS13 (fun h => absurd h.2 (by decide)) (zz_rc fS11 rfl rfl (fun h => h) (zz_ro qS10 (fun h => absurd h.2 (by decide)) (zz_ro qS9 (fun h => absurd h.2 (by decide)) (zz_ro qS8 (fun h => absurd h.2 (by decide)) (zz_ro qS7 (fun h => absurd h.2 (by decide)) (zz_ro qS6 (fun h => absurd h.2 (by decide)) (zz_rs qS5)))))))))
  exact zz_vret zd_4_2_67 rfl (Nat.le_of_ble_eq_true rfl) (Nat.le_of_ble_eq_true rfl) ⟨_, rfl, G_S14, F_S14, by omega⟩
-- TensorForge$Layer <init> ()V at 1011, 1012
abbrev zr_init_4_1_c1011_1012 : Room := { frames := 2, cells := 0, slots := 0, locals := 30 }
def zp_init_4_1_c1011_1012 (S0 : zz_S) : zz_S → Prop := fun S => zz_Gm [1011, 1011, 1011] [] S ∧ zz_fr [(1011, 0), (1011, 1), (1011, 2), (1011, 3), (1011, 4), (1011, 5), (1011, 6), (1011, 7), (1011, 8), (1011, 9), (1011, 10), (1011, 11), (1011, 12), (1011, 13), (1011, 14)] [] (fun _ _ => False) S0 S ∧ (S 1011 0 = 0 ∧ S 1011 3 = 1 ∧ S 1011 4 = 1 ∧ S 1011 12 = 1)
theorem zc_init_4_1_c1011_1012 {g : mm_G} {l : Launch} (S0 : zz_S) (G_S0 : zz_Gm [1011] [] S0) : mm_Met g l zy_init_4_1 zr_init_4_1_c1011_1012 [.ref 1011] (zz_M S0 1012) 1012 (zz_QV 1012 (zp_init_4_1_c1011_1012 S0)) := by
  refine zz_enter (by decide) (Nat.le_of_ble_eq_true rfl) (zz_less (ls1 := [some (.ref 1011)]) ⟨rfl, trivial⟩ ?_)
  have F_S0 : zz_fr [(1011, 0), (1011, 1), (1011, 2), (1011, 3), (1011, 4), (1011, 5), (1011, 6), (1011, 7), (1011, 8), (1011, 9), (1011, 10), (1011, 11), (1011, 12), (1011, 13), (1011, 14)] [] (fun _ _ => False) S0 S0 := zz_fr.refl
  refine zz_aload_n (x := 1011) rfl zd_4_1_0 ?_
  refine zz_objI zd_4_1_1 zoi_Layer_1 zoi.1 zoi.2 (Nat.le_of_ble_eq_true rfl) (Nat.le_of_ble_eq_true rfl) ?_
  refine zz_aload_n (x := 1011) rfl zd_4_1_4 ?_
  refine zz_iconst zd_4_1_5 ?_
  refine zz_iconst zd_4_1_6 ?_
  refine zz_iconst zd_4_1_7 ?_
  refine zz_callVV [zi 0, zi 0, zi 0] zd_4_1_8 zk_Layer_9 zT_1011 (by decide) rfl rfl ⟨Nat.le_of_ble_eq_true rfl, Nat.le_of_ble_eq_true rfl⟩ ⟨rfl, rfl⟩ (Nat.le_of_ble_eq_true rfl) (Nat.le_of_ble_eq_true rfl) (zc_reset_4_2_c1011_1012 S0 (zz_Gm.sub (C1 := [1011]) (X1 := []) G_S0 (by decide +kernel) (by decide +kernel))) (fun S2 hP => ?_)
  obtain ⟨gS2, fS2, o3⟩ := hP
  have F_S2 := zz_fr.trans F_S0 fS2 (by decide +kernel) zz_nv
  have G_S2 := zz_Gm.call [] G_S0 fS2 gS2 (by decide +kernel) (by decide +kernel) (by decide +kernel) (by decide +kernel)
  have g4 := trivial
  have g5 := trivial
  have g6 := trivial
  have g7 := trivial
  exact zz_vret zd_4_1_11 rfl (Nat.le_of_ble_eq_true rfl) (Nat.le_of_ble_eq_true rfl) ⟨_, rfl, G_S2, F_S2, by omega⟩
def zX_10 : List (Nat × Nat) := [(1002, 9), (1002, 10), (1002, 11), (1001, 1)]
-- TensorForge$Layer takeForm (III)V at 1012, 1013
abbrev zr_takeForm_4_3_c1012_1013 : Room := { frames := 0, cells := 0, slots := 0, locals := 0 }
def zp_takeForm_4_3_c1012_1013 (S0 : zz_S) : zz_S → Prop := fun S => zz_Gm [1012] [] S ∧ zz_fr [(1012, 10), (1012, 11), (1012, 12)] [] (fun _ _ => False) S0 S ∧ (S 1012 12 = 1)
theorem zc_takeForm_4_3_c1012_1013 {g : mm_G} {l : Launch} (S0 : zz_S) (G_S0 : zz_Gm [1012] [] S0) : mm_Met g l zy_takeForm_4_3 zr_takeForm_4_3_c1012_1013 [.ref 1012, zi 1, zi 1, zi 1] (zz_M S0 1013) 1013 (zz_QV 1013 (zp_takeForm_4_3_c1012_1013 S0)) := by
  refine zz_enter (by decide) (Nat.le_of_ble_eq_true rfl) (zz_less (ls1 := [some (.ref 1012), some (zi 1), some (zi 1), some (zi 1)]) ⟨rfl, ⟨rfl, ⟨rfl, ⟨rfl, trivial⟩⟩⟩⟩ ?_)
  have F_S0 : zz_fr [(1012, 10), (1012, 11), (1012, 12)] [] (fun _ _ => False) S0 S0 := zz_fr.refl
  refine zz_aload_n (x := 1012) rfl zd_4_3_0 ?_
  refine zz_iload_n (x := 1) rfl zd_4_3_1 ?_
  refine zz_puti zd_4_3_2 zf_Layer_54 zT_1012 rfl (by decide) (fun S1 qS1 => ?_)
  have G_S1 := zz_Gm.put [] G_S0 qS1 (-2147483648) 2147483647 rfl (by decide) (by decide +kernel)
  have F_S1 := zz_fr.puts F_S0 qS1 (by decide +kernel)
  refine zz_aload_n (x := 1012) rfl zd_4_3_5 ?_
  refine zz_iload_n (x := 1) rfl zd_4_3_6 ?_
  refine zz_puti zd_4_3_7 zf_Layer_57 zT_1012 rfl (by decide) (fun S2 qS2 => ?_)
  have G_S2 := zz_Gm.put [] G_S1 qS2 (-2147483648) 2147483647 rfl (by decide) (by decide +kernel)
  have F_S2 := zz_fr.puts F_S1 qS2 (by decide +kernel)
  refine zz_aload_n (x := 1012) rfl zd_4_3_10 ?_
  refine zz_iload_n (x := 1) rfl zd_4_3_11 ?_
  refine zz_puti zd_4_3_12 zf_Layer_60 zT_1012 rfl (by decide) (fun S3 qS3 => ?_)
  have G_S3 := zz_Gm.put [] G_S2 qS3 (-2147483648) 2147483647 rfl (by decide) (by decide +kernel)
  have F_S3 := zz_fr.puts F_S2 qS3 (by decide +kernel)
  have e4 : S3 1012 12 = 1 := (zz_rs qS3)
  exact zz_vret zd_4_3_15 rfl (Nat.le_of_ble_eq_true rfl) (Nat.le_of_ble_eq_true rfl) ⟨_, rfl, G_S3, F_S3, by omega⟩
-- TensorForge$Layer reset (III)V at 1012, 1013
abbrev zr_reset_4_2_c1012_1013 : Room := { frames := 1, cells := 0, slots := 0, locals := 15 }
def zp_reset_4_2_c1012_1013 (S0 : zz_S) : zz_S → Prop := fun S => zz_Gm [1012, 1012] [] S ∧ zz_fr [(1012, 0), (1012, 1), (1012, 2), (1012, 3), (1012, 4), (1012, 5), (1012, 6), (1012, 7), (1012, 8), (1012, 9), (1012, 10), (1012, 11), (1012, 12), (1012, 13), (1012, 14)] [] (fun _ _ => False) S0 S ∧ (S 1012 0 = 0 ∧ S 1012 3 = 1 ∧ S 1012 4 = 1 ∧ S 1012 12 = 1)
theorem zc_reset_4_2_c1012_1013 {g : mm_G} {l : Launch} (S0 : zz_S) (G_S0 : zz_Gm [1012] [] S0) : mm_Met g l zy_reset_4_2 zr_reset_4_2_c1012_1013 [.ref 1012, zi 0, zi 0, zi 0] (zz_M S0 1013) 1013 (zz_QV 1013 (zp_reset_4_2_c1012_1013 S0)) := by
  refine zz_enter (by decide) (Nat.le_of_ble_eq_true rfl) (zz_less (ls1 := [some (.ref 1012), some (zi 0), some (zi 0), some (zi 0)]) ⟨rfl, ⟨rfl, ⟨rfl, ⟨rfl, trivial⟩⟩⟩⟩ ?_)
  have F_S0 : zz_fr [(1012, 0), (1012, 1), (1012, 2), (1012, 3), (1012, 4), (1012, 5), (1012, 6), (1012, 7), (1012, 8), (1012, 9), (1012, 10), (1012, 11), (1012, 12), (1012, 13), (1012, 14)] [] (fun _ _ => False) S0 S0 := zz_fr.refl
  refine zz_aload_n (x := 1012) rfl zd_4_2_0 ?_
  refine zz_iload_n (x := 0) rfl zd_4_2_1 ?_
  refine zz_puti zd_4_2_2 zf_Layer_13 zT_1012 rfl (by decide) (fun S1 qS1 => ?_)
  have G_S1 := zz_Gm.put [] G_S0 qS1 (-2147483648) 2147483647 rfl (by decide) (by decide +kernel)
  have F_S1 := zz_fr.puts F_S0 qS1 (by decide +kernel)
  refine zz_aload_n (x := 1012) rfl zd_4_2_5 ?_
  refine zz_iload_n (x := 0) rfl zd_4_2_6 ?_
  refine zz_puti zd_4_2_7 zf_Layer_17 zT_1012 rfl (by decide) (fun S2 qS2 => ?_)
  have G_S2 := zz_Gm.put [] G_S1 qS2 (-2147483648) 2147483647 rfl (by decide) (by decide +kernel)
  have F_S2 := zz_fr.puts F_S1 qS2 (by decide +kernel)
  refine zz_aload_n (x := 1012) rfl zd_4_2_10 ?_
  refine zz_iload_n (x := 0) rfl zd_4_2_11 ?_
  refine zz_puti zd_4_2_12 zf_Layer_20 zT_1012 rfl (by decide) (fun S3 qS3 => ?_)
  have G_S3 := zz_Gm.put [] G_S2 qS3 (-2147483648) 2147483647 rfl (by decide) (by decide +kernel)
  have F_S3 := zz_fr.puts F_S2 qS3 (by decide +kernel)
  refine zz_aload_n (x := 1012) rfl zd_4_2_15 ?_
  refine zz_iconst zd_4_2_16 ?_
  refine zz_puti zd_4_2_17 zf_Layer_23 zT_1012 rfl (by decide) (fun S4 qS4 => ?_)
  have G_S4 := zz_Gm.put [] G_S3 qS4 (-2147483648) 2147483647 rfl (by decide) (by decide +kernel)
  have F_S4 := zz_fr.puts F_S3 qS4 (by decide +kernel)
  refine zz_aload_n (x := 1012) rfl zd_4_2_20 ?_
  refine zz_iconst zd_4_2_21 ?_
  refine zz_puti zd_4_2_22 zf_Layer_26 zT_1012 rfl (by decide) (fun S5 qS5 => ?_)
  have G_S5 := zz_Gm.put [] G_S4 qS5 (-2147483648) 2147483647 rfl (by decide) (by decide +kernel)
  have F_S5 := zz_fr.puts F_S4 qS5 (by decide +kernel)
  refine zz_aload_n (x := 1012) rfl zd_4_2_25 ?_
  refine zz_iconst zd_4_2_26 ?_
  refine zz_puti zd_4_2_27 zf_Layer_29 zT_1012 rfl (by decide) (fun S6 qS6 => ?_)
  have G_S6 := zz_Gm.put [] G_S5 qS6 (-2147483648) 2147483647 rfl (by decide) (by decide +kernel)
  have F_S6 := zz_fr.puts F_S5 qS6 (by decide +kernel)
  refine zz_aload_n (x := 1012) rfl zd_4_2_30 ?_
  refine zz_iconst zd_4_2_31 ?_
  refine zz_puti zd_4_2_32 zf_Layer_32 zT_1012 rfl (by decide) (fun S7 qS7 => ?_)
  have G_S7 := zz_Gm.put [] G_S6 qS7 (-2147483648) 2147483647 rfl (by decide) (by decide +kernel)
  have F_S7 := zz_fr.puts F_S6 qS7 (by decide +kernel)
  refine zz_aload_n (x := 1012) rfl zd_4_2_35 ?_
  refine zz_iconst zd_4_2_36 ?_
  refine zz_puti zd_4_2_37 zf_Layer_35 zT_1012 rfl (by decide) (fun S8 qS8 => ?_)
  have G_S8 := zz_Gm.put [] G_S7 qS8 (-2147483648) 2147483647 rfl (by decide) (by decide +kernel)
  have F_S8 := zz_fr.puts F_S7 qS8 (by decide +kernel)
  refine zz_aload_n (x := 1012) rfl zd_4_2_40 ?_
  refine zz_iconst zd_4_2_41 ?_
  refine zz_putz zd_4_2_42 zf_Layer_38 zT_1012 rfl (by decide) (by decide) (fun S9 qS9 => ?_)
  have G_S9 := zz_Gm.put [] G_S8 qS9 0 1 rfl (by decide) (by decide +kernel)
  have F_S9 := zz_fr.puts F_S8 qS9 (by decide +kernel)
  refine zz_aload_n (x := 1012) rfl zd_4_2_45 ?_
  refine zz_iconst zd_4_2_46 ?_
  refine zz_puti zd_4_2_47 zf_Layer_42 zT_1012 rfl (by decide) (fun S10 qS10 => ?_)
  have G_S10 := zz_Gm.put [] G_S9 qS10 (-2147483648) 2147483647 rfl (by decide) (by decide +kernel)
  have F_S10 := zz_fr.puts F_S9 qS10 (by decide +kernel)
  refine zz_aload_n (x := 1012) rfl zd_4_2_50 ?_
  refine zz_iconst zd_4_2_51 ?_
  refine zz_iconst zd_4_2_52 ?_
  refine zz_iconst zd_4_2_53 ?_
  refine zz_callVV [zi 1, zi 1, zi 1] zd_4_2_54 zk_Layer_45 zT_1012 (by decide) rfl rfl ⟨Nat.le_of_ble_eq_true rfl, Nat.le_of_ble_eq_true rfl⟩ ⟨rfl, rfl⟩ (Nat.le_of_ble_eq_true rfl) (Nat.le_of_ble_eq_true rfl) (zc_takeForm_4_3_c1012_1013 S10 (zz_Gm.sub (C1 := [1012]) (X1 := []) G_S10 (by decide +kernel) (by decide +kernel))) (fun S11 hP => ?_)
  obtain ⟨gS11, fS11, o12⟩ := hP
  have F_S11 := zz_fr.trans F_S10 fS11 (by decide +kernel) zz_nv
  have G_S11 := zz_Gm.call [] G_S10 fS11 gS11 (by decide +kernel) (by decide +kernel) (by decide +kernel) (by decide +kernel)
  refine zz_aload_n (x := 1012) rfl zd_4_2_57 ?_
  refine zz_iconst zd_4_2_58 ?_
  refine zz_puti zd_4_2_59 zf_Layer_48 zT_1012 rfl (by decide) (fun S13 qS13 => ?_)
  have G_S13 := zz_Gm.put [] G_S11 qS13 (-2147483648) 2147483647 rfl (by decide) (by decide +kernel)
  have F_S13 := zz_fr.puts F_S11 qS13 (by decide +kernel)
  refine zz_aload_n (x := 1012) rfl zd_4_2_62 ?_
  refine zz_iconst zd_4_2_63 ?_
  refine zz_puti zd_4_2_64 zf_Layer_51 zT_1012 rfl (by decide) (fun S14 qS14 => ?_)
  have G_S14 := zz_Gm.put [] G_S13 qS14 (-2147483648) 2147483647 rfl (by decide) (by decide +kernel)
  have F_S14 := zz_fr.puts F_S13 qS14 (by decide +kernel)
  have e15 : S14 1012 0 = 0 := (zz_ro qS14 (fun h => absurd h.2 (by decide)) (zz_ro qS13 (fun h => absurd h.2 (by decide)) (zz_rc fS11 rfl rfl (fun h => h) (zz_ro qS10 (fun h => absurd h.2 (by decide)) (zz_ro qS9 (fun h => absurd h.2 (by decide)) (zz_ro qS8 (fun h => absurd h.2 (by decide)) (zz_ro qS7 (fun h => absurd h.2 (by decide)) (zz_ro qS6 (fun h => absurd h.2 (by decide)) (zz_ro qS5 (fun h => absurd h.2 (by decide)) (zz_ro qS4 (fun h => absurd h.2 (by decide)) (zz_ro qS3 (fun h => absurd h.2 (by decide)) (zz_ro qS2 (fun h => absurd h.2 (by decide)) (zz_rs qS1)))))))))))))
  have e16 : S14 1012 12 = 1 := (zz_ro qS14 (fun h => absurd h.2 (by decide)) (zz_ro qS13 (fun h => absurd h.2 (by decide)) o12))
  have e17 : S14 1012 3 = 1 := (zz_ro qS14 (fun h => absurd h.2 (by decide)) (zz_ro qS13 (fun h => absurd h.2 (by decide)) (zz_rc fS11 rfl rfl (fun h => h) (zz_ro qS10 (fun h => absurd h.2 (by decide)) (zz_ro qS9 (fun h => absurd h.2 (by decide)) (zz_ro qS8 (fun h => absurd h.2 (by decide)) (zz_ro qS7 (fun h => absurd h.2 (by decide)) (zz_ro qS6 (fun h => absurd h.2 (by decide)) (zz_ro qS5 (fun h => absurd h.2 (by decide)) (zz_rs qS4))))))))))
  have e18 : S14 1012 4 = 1 := (zz_ro qS14 (fun h => absurd h.2 (by decide)) (zz_ro qS13 (fun h => absurd h.2 (by decide)) (zz_rc fS11 rfl rfl (fun h => h) (zz_ro qS10 (fun h => absurd h.2 (by decide)) (zz_ro qS9 (fun h => absurd h.2 (by decide)) (zz_ro qS8 (fun h => absurd h.2 (by decide)) (zz_ro qS7 (fun h => absurd h.2 (by decide)) (zz_ro qS6 (fun h => absurd h.2 (by decide)) (zz_rs qS5)))))))))
  exact zz_vret zd_4_2_67 rfl (Nat.le_of_ble_eq_true rfl) (Nat.le_of_ble_eq_true rfl) ⟨_, rfl, G_S14, F_S14, by omega⟩
-- TensorForge$Layer <init> ()V at 1012, 1013
abbrev zr_init_4_1_c1012_1013 : Room := { frames := 2, cells := 0, slots := 0, locals := 30 }
def zp_init_4_1_c1012_1013 (S0 : zz_S) : zz_S → Prop := fun S => zz_Gm [1012, 1012, 1012] [] S ∧ zz_fr [(1012, 0), (1012, 1), (1012, 2), (1012, 3), (1012, 4), (1012, 5), (1012, 6), (1012, 7), (1012, 8), (1012, 9), (1012, 10), (1012, 11), (1012, 12), (1012, 13), (1012, 14)] [] (fun _ _ => False) S0 S ∧ (S 1012 0 = 0 ∧ S 1012 3 = 1 ∧ S 1012 4 = 1 ∧ S 1012 12 = 1)
theorem zc_init_4_1_c1012_1013 {g : mm_G} {l : Launch} (S0 : zz_S) (G_S0 : zz_Gm [1012] [] S0) : mm_Met g l zy_init_4_1 zr_init_4_1_c1012_1013 [.ref 1012] (zz_M S0 1013) 1013 (zz_QV 1013 (zp_init_4_1_c1012_1013 S0)) := by
  refine zz_enter (by decide) (Nat.le_of_ble_eq_true rfl) (zz_less (ls1 := [some (.ref 1012)]) ⟨rfl, trivial⟩ ?_)
  have F_S0 : zz_fr [(1012, 0), (1012, 1), (1012, 2), (1012, 3), (1012, 4), (1012, 5), (1012, 6), (1012, 7), (1012, 8), (1012, 9), (1012, 10), (1012, 11), (1012, 12), (1012, 13), (1012, 14)] [] (fun _ _ => False) S0 S0 := zz_fr.refl
  refine zz_aload_n (x := 1012) rfl zd_4_1_0 ?_
  refine zz_objI zd_4_1_1 zoi_Layer_1 zoi.1 zoi.2 (Nat.le_of_ble_eq_true rfl) (Nat.le_of_ble_eq_true rfl) ?_
  refine zz_aload_n (x := 1012) rfl zd_4_1_4 ?_
  refine zz_iconst zd_4_1_5 ?_
  refine zz_iconst zd_4_1_6 ?_
  refine zz_iconst zd_4_1_7 ?_
  refine zz_callVV [zi 0, zi 0, zi 0] zd_4_1_8 zk_Layer_9 zT_1012 (by decide) rfl rfl ⟨Nat.le_of_ble_eq_true rfl, Nat.le_of_ble_eq_true rfl⟩ ⟨rfl, rfl⟩ (Nat.le_of_ble_eq_true rfl) (Nat.le_of_ble_eq_true rfl) (zc_reset_4_2_c1012_1013 S0 (zz_Gm.sub (C1 := [1012]) (X1 := []) G_S0 (by decide +kernel) (by decide +kernel))) (fun S2 hP => ?_)
  obtain ⟨gS2, fS2, o3⟩ := hP
  have F_S2 := zz_fr.trans F_S0 fS2 (by decide +kernel) zz_nv
  have G_S2 := zz_Gm.call [] G_S0 fS2 gS2 (by decide +kernel) (by decide +kernel) (by decide +kernel) (by decide +kernel)
  have g4 := trivial
  have g5 := trivial
  have g6 := trivial
  have g7 := trivial
  exact zz_vret zd_4_1_11 rfl (Nat.le_of_ble_eq_true rfl) (Nat.le_of_ble_eq_true rfl) ⟨_, rfl, G_S2, F_S2, by omega⟩
def zX_11 : List (Nat × Nat) := [(1002, 10), (1002, 11), (1001, 1)]
-- TensorForge$Layer takeForm (III)V at 1013, 1014
abbrev zr_takeForm_4_3_c1013_1014 : Room := { frames := 0, cells := 0, slots := 0, locals := 0 }
def zp_takeForm_4_3_c1013_1014 (S0 : zz_S) : zz_S → Prop := fun S => zz_Gm [1013] [] S ∧ zz_fr [(1013, 10), (1013, 11), (1013, 12)] [] (fun _ _ => False) S0 S ∧ (S 1013 12 = 1)
theorem zc_takeForm_4_3_c1013_1014 {g : mm_G} {l : Launch} (S0 : zz_S) (G_S0 : zz_Gm [1013] [] S0) : mm_Met g l zy_takeForm_4_3 zr_takeForm_4_3_c1013_1014 [.ref 1013, zi 1, zi 1, zi 1] (zz_M S0 1014) 1014 (zz_QV 1014 (zp_takeForm_4_3_c1013_1014 S0)) := by
  refine zz_enter (by decide) (Nat.le_of_ble_eq_true rfl) (zz_less (ls1 := [some (.ref 1013), some (zi 1), some (zi 1), some (zi 1)]) ⟨rfl, ⟨rfl, ⟨rfl, ⟨rfl, trivial⟩⟩⟩⟩ ?_)
  have F_S0 : zz_fr [(1013, 10), (1013, 11), (1013, 12)] [] (fun _ _ => False) S0 S0 := zz_fr.refl
  refine zz_aload_n (x := 1013) rfl zd_4_3_0 ?_
  refine zz_iload_n (x := 1) rfl zd_4_3_1 ?_
  refine zz_puti zd_4_3_2 zf_Layer_54 zT_1013 rfl (by decide) (fun S1 qS1 => ?_)
  have G_S1 := zz_Gm.put [] G_S0 qS1 (-2147483648) 2147483647 rfl (by decide) (by decide +kernel)
  have F_S1 := zz_fr.puts F_S0 qS1 (by decide +kernel)
  refine zz_aload_n (x := 1013) rfl zd_4_3_5 ?_
  refine zz_iload_n (x := 1) rfl zd_4_3_6 ?_
  refine zz_puti zd_4_3_7 zf_Layer_57 zT_1013 rfl (by decide) (fun S2 qS2 => ?_)
  have G_S2 := zz_Gm.put [] G_S1 qS2 (-2147483648) 2147483647 rfl (by decide) (by decide +kernel)
  have F_S2 := zz_fr.puts F_S1 qS2 (by decide +kernel)
  refine zz_aload_n (x := 1013) rfl zd_4_3_10 ?_
  refine zz_iload_n (x := 1) rfl zd_4_3_11 ?_
  refine zz_puti zd_4_3_12 zf_Layer_60 zT_1013 rfl (by decide) (fun S3 qS3 => ?_)
  have G_S3 := zz_Gm.put [] G_S2 qS3 (-2147483648) 2147483647 rfl (by decide) (by decide +kernel)
  have F_S3 := zz_fr.puts F_S2 qS3 (by decide +kernel)
  have e4 : S3 1013 12 = 1 := (zz_rs qS3)
  exact zz_vret zd_4_3_15 rfl (Nat.le_of_ble_eq_true rfl) (Nat.le_of_ble_eq_true rfl) ⟨_, rfl, G_S3, F_S3, by omega⟩
-- TensorForge$Layer reset (III)V at 1013, 1014
abbrev zr_reset_4_2_c1013_1014 : Room := { frames := 1, cells := 0, slots := 0, locals := 15 }
def zp_reset_4_2_c1013_1014 (S0 : zz_S) : zz_S → Prop := fun S => zz_Gm [1013, 1013] [] S ∧ zz_fr [(1013, 0), (1013, 1), (1013, 2), (1013, 3), (1013, 4), (1013, 5), (1013, 6), (1013, 7), (1013, 8), (1013, 9), (1013, 10), (1013, 11), (1013, 12), (1013, 13), (1013, 14)] [] (fun _ _ => False) S0 S ∧ (S 1013 0 = 0 ∧ S 1013 3 = 1 ∧ S 1013 4 = 1 ∧ S 1013 12 = 1)
theorem zc_reset_4_2_c1013_1014 {g : mm_G} {l : Launch} (S0 : zz_S) (G_S0 : zz_Gm [1013] [] S0) : mm_Met g l zy_reset_4_2 zr_reset_4_2_c1013_1014 [.ref 1013, zi 0, zi 0, zi 0] (zz_M S0 1014) 1014 (zz_QV 1014 (zp_reset_4_2_c1013_1014 S0)) := by
  refine zz_enter (by decide) (Nat.le_of_ble_eq_true rfl) (zz_less (ls1 := [some (.ref 1013), some (zi 0), some (zi 0), some (zi 0)]) ⟨rfl, ⟨rfl, ⟨rfl, ⟨rfl, trivial⟩⟩⟩⟩ ?_)
  have F_S0 : zz_fr [(1013, 0), (1013, 1), (1013, 2), (1013, 3), (1013, 4), (1013, 5), (1013, 6), (1013, 7), (1013, 8), (1013, 9), (1013, 10), (1013, 11), (1013, 12), (1013, 13), (1013, 14)] [] (fun _ _ => False) S0 S0 := zz_fr.refl
  refine zz_aload_n (x := 1013) rfl zd_4_2_0 ?_
  refine zz_iload_n (x := 0) rfl zd_4_2_1 ?_
  refine zz_puti zd_4_2_2 zf_Layer_13 zT_1013 rfl (by decide) (fun S1 qS1 => ?_)
  have G_S1 := zz_Gm.put [] G_S0 qS1 (-2147483648) 2147483647 rfl (by decide) (by decide +kernel)
  have F_S1 := zz_fr.puts F_S0 qS1 (by decide +kernel)
  refine zz_aload_n (x := 1013) rfl zd_4_2_5 ?_
  refine zz_iload_n (x := 0) rfl zd_4_2_6 ?_
  refine zz_puti zd_4_2_7 zf_Layer_17 zT_1013 rfl (by decide) (fun S2 qS2 => ?_)
  have G_S2 := zz_Gm.put [] G_S1 qS2 (-2147483648) 2147483647 rfl (by decide) (by decide +kernel)
  have F_S2 := zz_fr.puts F_S1 qS2 (by decide +kernel)
  refine zz_aload_n (x := 1013) rfl zd_4_2_10 ?_
  refine zz_iload_n (x := 0) rfl zd_4_2_11 ?_
  refine zz_puti zd_4_2_12 zf_Layer_20 zT_1013 rfl (by decide) (fun S3 qS3 => ?_)
  have G_S3 := zz_Gm.put [] G_S2 qS3 (-2147483648) 2147483647 rfl (by decide) (by decide +kernel)
  have F_S3 := zz_fr.puts F_S2 qS3 (by decide +kernel)
  refine zz_aload_n (x := 1013) rfl zd_4_2_15 ?_
  refine zz_iconst zd_4_2_16 ?_
  refine zz_puti zd_4_2_17 zf_Layer_23 zT_1013 rfl (by decide) (fun S4 qS4 => ?_)
  have G_S4 := zz_Gm.put [] G_S3 qS4 (-2147483648) 2147483647 rfl (by decide) (by decide +kernel)
  have F_S4 := zz_fr.puts F_S3 qS4 (by decide +kernel)
  refine zz_aload_n (x := 1013) rfl zd_4_2_20 ?_
  refine zz_iconst zd_4_2_21 ?_
  refine zz_puti zd_4_2_22 zf_Layer_26 zT_1013 rfl (by decide) (fun S5 qS5 => ?_)
  have G_S5 := zz_Gm.put [] G_S4 qS5 (-2147483648) 2147483647 rfl (by decide) (by decide +kernel)
  have F_S5 := zz_fr.puts F_S4 qS5 (by decide +kernel)
  refine zz_aload_n (x := 1013) rfl zd_4_2_25 ?_
  refine zz_iconst zd_4_2_26 ?_
  refine zz_puti zd_4_2_27 zf_Layer_29 zT_1013 rfl (by decide) (fun S6 qS6 => ?_)
  have G_S6 := zz_Gm.put [] G_S5 qS6 (-2147483648) 2147483647 rfl (by decide) (by decide +kernel)
  have F_S6 := zz_fr.puts F_S5 qS6 (by decide +kernel)
  refine zz_aload_n (x := 1013) rfl zd_4_2_30 ?_
  refine zz_iconst zd_4_2_31 ?_
  refine zz_puti zd_4_2_32 zf_Layer_32 zT_1013 rfl (by decide) (fun S7 qS7 => ?_)
  have G_S7 := zz_Gm.put [] G_S6 qS7 (-2147483648) 2147483647 rfl (by decide) (by decide +kernel)
  have F_S7 := zz_fr.puts F_S6 qS7 (by decide +kernel)
  refine zz_aload_n (x := 1013) rfl zd_4_2_35 ?_
  refine zz_iconst zd_4_2_36 ?_
  refine zz_puti zd_4_2_37 zf_Layer_35 zT_1013 rfl (by decide) (fun S8 qS8 => ?_)
  have G_S8 := zz_Gm.put [] G_S7 qS8 (-2147483648) 2147483647 rfl (by decide) (by decide +kernel)
  have F_S8 := zz_fr.puts F_S7 qS8 (by decide +kernel)
  refine zz_aload_n (x := 1013) rfl zd_4_2_40 ?_
  refine zz_iconst zd_4_2_41 ?_
  refine zz_putz zd_4_2_42 zf_Layer_38 zT_1013 rfl (by decide) (by decide) (fun S9 qS9 => ?_)
  have G_S9 := zz_Gm.put [] G_S8 qS9 0 1 rfl (by decide) (by decide +kernel)
  have F_S9 := zz_fr.puts F_S8 qS9 (by decide +kernel)
  refine zz_aload_n (x := 1013) rfl zd_4_2_45 ?_
  refine zz_iconst zd_4_2_46 ?_
  refine zz_puti zd_4_2_47 zf_Layer_42 zT_1013 rfl (by decide) (fun S10 qS10 => ?_)
  have G_S10 := zz_Gm.put [] G_S9 qS10 (-2147483648) 2147483647 rfl (by decide) (by decide +kernel)
  have F_S10 := zz_fr.puts F_S9 qS10 (by decide +kernel)
  refine zz_aload_n (x := 1013) rfl zd_4_2_50 ?_
  refine zz_iconst zd_4_2_51 ?_
  refine zz_iconst zd_4_2_52 ?_
  refine zz_iconst zd_4_2_53 ?_
  refine zz_callVV [zi 1, zi 1, zi 1] zd_4_2_54 zk_Layer_45 zT_1013 (by decide) rfl rfl ⟨Nat.le_of_ble_eq_true rfl, Nat.le_of_ble_eq_true rfl⟩ ⟨rfl, rfl⟩ (Nat.le_of_ble_eq_true rfl) (Nat.le_of_ble_eq_true rfl) (zc_takeForm_4_3_c1013_1014 S10 (zz_Gm.sub (C1 := [1013]) (X1 := []) G_S10 (by decide +kernel) (by decide +kernel))) (fun S11 hP => ?_)
  obtain ⟨gS11, fS11, o12⟩ := hP
  have F_S11 := zz_fr.trans F_S10 fS11 (by decide +kernel) zz_nv
  have G_S11 := zz_Gm.call [] G_S10 fS11 gS11 (by decide +kernel) (by decide +kernel) (by decide +kernel) (by decide +kernel)
  refine zz_aload_n (x := 1013) rfl zd_4_2_57 ?_
  refine zz_iconst zd_4_2_58 ?_
  refine zz_puti zd_4_2_59 zf_Layer_48 zT_1013 rfl (by decide) (fun S13 qS13 => ?_)
  have G_S13 := zz_Gm.put [] G_S11 qS13 (-2147483648) 2147483647 rfl (by decide) (by decide +kernel)
  have F_S13 := zz_fr.puts F_S11 qS13 (by decide +kernel)
  refine zz_aload_n (x := 1013) rfl zd_4_2_62 ?_
  refine zz_iconst zd_4_2_63 ?_
  refine zz_puti zd_4_2_64 zf_Layer_51 zT_1013 rfl (by decide) (fun S14 qS14 => ?_)
  have G_S14 := zz_Gm.put [] G_S13 qS14 (-2147483648) 2147483647 rfl (by decide) (by decide +kernel)
  have F_S14 := zz_fr.puts F_S13 qS14 (by decide +kernel)
  have e15 : S14 1013 0 = 0 := (zz_ro qS14 (fun h => absurd h.2 (by decide)) (zz_ro qS13 (fun h => absurd h.2 (by decide)) (zz_rc fS11 rfl rfl (fun h => h) (zz_ro qS10 (fun h => absurd h.2 (by decide)) (zz_ro qS9 (fun h => absurd h.2 (by decide)) (zz_ro qS8 (fun h => absurd h.2 (by decide)) (zz_ro qS7 (fun h => absurd h.2 (by decide)) (zz_ro qS6 (fun h => absurd h.2 (by decide)) (zz_ro qS5 (fun h => absurd h.2 (by decide)) (zz_ro qS4 (fun h => absurd h.2 (by decide)) (zz_ro qS3 (fun h => absurd h.2 (by decide)) (zz_ro qS2 (fun h => absurd h.2 (by decide)) (zz_rs qS1)))))))))))))
  have e16 : S14 1013 12 = 1 := (zz_ro qS14 (fun h => absurd h.2 (by decide)) (zz_ro qS13 (fun h => absurd h.2 (by decide)) o12))
  have e17 : S14 1013 3 = 1 := (zz_ro qS14 (fun h => absurd h.2 (by decide)) (zz_ro qS13 (fun h => absurd h.2 (by decide)) (zz_rc fS11 rfl rfl (fun h => h) (zz_ro qS10 (fun h => absurd h.2 (by decide)) (zz_ro qS9 (fun h => absurd h.2 (by decide)) (zz_ro qS8 (fun h => absurd h.2 (by decide)) (zz_ro qS7 (fun h => absurd h.2 (by decide)) (zz_ro qS6 (fun h => absurd h.2 (by decide)) (zz_ro qS5 (fun h => absurd h.2 (by decide)) (zz_rs qS4))))))))))
  have e18 : S14 1013 4 = 1 := (zz_ro qS14 (fun h => absurd h.2 (by decide)) (zz_ro qS13 (fun h => absurd h.2 (by decide)) (zz_rc fS11 rfl rfl (fun h => h) (zz_ro qS10 (fun h => absurd h.2 (by decide)) (zz_ro qS9 (fun h => absurd h.2 (by decide)) (zz_ro qS8 (fun h => absurd h.2 (by decide)) (zz_ro qS7 (fun h => absurd h.2 (by decide)) (zz_ro qS6 (fun h => absurd h.2 (by decide)) (zz_rs qS5)))))))))
  exact zz_vret zd_4_2_67 rfl (Nat.le_of_ble_eq_true rfl) (Nat.le_of_ble_eq_true rfl) ⟨_, rfl, G_S14, F_S14, by omega⟩
-- TensorForge$Layer <init> ()V at 1013, 1014
abbrev zr_init_4_1_c1013_1014 : Room := { frames := 2, cells := 0, slots := 0, locals := 30 }
def zp_init_4_1_c1013_1014 (S0 : zz_S) : zz_S → Prop := fun S => zz_Gm [1013, 1013, 1013] [] S ∧ zz_fr [(1013, 0), (1013, 1), (1013, 2), (1013, 3), (1013, 4), (1013, 5), (1013, 6), (1013, 7), (1013, 8), (1013, 9), (1013, 10), (1013, 11), (1013, 12), (1013, 13), (1013, 14)] [] (fun _ _ => False) S0 S ∧ (S 1013 0 = 0 ∧ S 1013 3 = 1 ∧ S 1013 4 = 1 ∧ S 1013 12 = 1)
theorem zc_init_4_1_c1013_1014 {g : mm_G} {l : Launch} (S0 : zz_S) (G_S0 : zz_Gm [1013] [] S0) : mm_Met g l zy_init_4_1 zr_init_4_1_c1013_1014 [.ref 1013] (zz_M S0 1014) 1014 (zz_QV 1014 (zp_init_4_1_c1013_1014 S0)) := by
  refine zz_enter (by decide) (Nat.le_of_ble_eq_true rfl) (zz_less (ls1 := [some (.ref 1013)]) ⟨rfl, trivial⟩ ?_)
  have F_S0 : zz_fr [(1013, 0), (1013, 1), (1013, 2), (1013, 3), (1013, 4), (1013, 5), (1013, 6), (1013, 7), (1013, 8), (1013, 9), (1013, 10), (1013, 11), (1013, 12), (1013, 13), (1013, 14)] [] (fun _ _ => False) S0 S0 := zz_fr.refl
  refine zz_aload_n (x := 1013) rfl zd_4_1_0 ?_
  refine zz_objI zd_4_1_1 zoi_Layer_1 zoi.1 zoi.2 (Nat.le_of_ble_eq_true rfl) (Nat.le_of_ble_eq_true rfl) ?_
  refine zz_aload_n (x := 1013) rfl zd_4_1_4 ?_
  refine zz_iconst zd_4_1_5 ?_
  refine zz_iconst zd_4_1_6 ?_
  refine zz_iconst zd_4_1_7 ?_
  refine zz_callVV [zi 0, zi 0, zi 0] zd_4_1_8 zk_Layer_9 zT_1013 (by decide) rfl rfl ⟨Nat.le_of_ble_eq_true rfl, Nat.le_of_ble_eq_true rfl⟩ ⟨rfl, rfl⟩ (Nat.le_of_ble_eq_true rfl) (Nat.le_of_ble_eq_true rfl) (zc_reset_4_2_c1013_1014 S0 (zz_Gm.sub (C1 := [1013]) (X1 := []) G_S0 (by decide +kernel) (by decide +kernel))) (fun S2 hP => ?_)
  obtain ⟨gS2, fS2, o3⟩ := hP
  have F_S2 := zz_fr.trans F_S0 fS2 (by decide +kernel) zz_nv
  have G_S2 := zz_Gm.call [] G_S0 fS2 gS2 (by decide +kernel) (by decide +kernel) (by decide +kernel) (by decide +kernel)
  have g4 := trivial
  have g5 := trivial
  have g6 := trivial
  have g7 := trivial
  exact zz_vret zd_4_1_11 rfl (Nat.le_of_ble_eq_true rfl) (Nat.le_of_ble_eq_true rfl) ⟨_, rfl, G_S2, F_S2, by omega⟩

-- TensorForge$Layer weightAt (LTensorForge$Layer;IIII)I
abbrev zr_weightAt_4_14 : Room := { frames := 0, cells := 0, slots := 0, locals := 0 }
def zp_weightAt_4_14 (t : Int) (p0 : Int) (p1 : Int) (p2 : Int) (p3 : Int) (p4 : Int) (S0 : zz_S) : Int → zz_S → Prop := fun r S => S0 = S ∧ ((-2147483648) ≤ r ∧ r ≤ 2147483647)
theorem zc_weightAt_4_14 {g : mm_G} {l : Launch} (t : Int) (p0 : Int) (p1 : Int) (p2 : Int) (p3 : Int) (p4 : Int) (S0 : zz_S) (n : Nat) (hn : zz_end ≤ n) (G_S0 : zz_G S0) (ht : 0 ≤ t ∧ t ≤ 23) (hp0 : 0 ≤ p0 ∧ p0 ≤ 23) (hp1 : (-2147483648) ≤ p1 ∧ p1 ≤ 2147483647) (hp2 : (-2147483648) ≤ p2 ∧ p2 ≤ 2147483647) (hp3 : (-2147483648) ≤ p3 ∧ p3 ≤ 2147483647) (hp4 : (-2147483648) ≤ p4 ∧ p4 ≤ 2147483647) : mm_Met g l zy_weightAt_4_14 zr_weightAt_4_14 [.ref (zz_rf 6 t), .ref (zz_rf 6 p0), zi p1, zi p2, zi p3, zi p4] (zz_M S0 n) n (zz_QI n (zp_weightAt_4_14 t p0 p1 p2 p3 p4 S0)) := by
  refine zz_enter (by decide) (Nat.le_of_ble_eq_true rfl) (zz_less (ls1 := [some (.ref (zz_rf 6 t)), some (.ref (zz_rf 6 p0)), some (zi p1), some (zi p2), some (zi p3), some (zi p4)]) ⟨rfl, ⟨rfl, ⟨rfl, ⟨rfl, ⟨rfl, ⟨rfl, trivial⟩⟩⟩⟩⟩⟩ ?_)
  have b_p0 := zz_rf6 (z := p0) (by omega)
  have b_t := zz_rf6 (z := t) (by omega)
  refine zz_iload_n (x := p1) rfl zd_4_14_0 ?_
  refine zz_aload_n (x := zz_rf 6 t) rfl zd_4_14_1 ?_
  have g1 := zz_G.r G_S0 (zz_rf 6 t) 4 (-2147483648) 2147483647 (zR_k6_4 (by omega)) (zB_k6 (by omega))
  refine zz_geti (z := S0 (zz_rf 6 t) 4) zd_4_14_2 zf_Layer_26 (zT_k6 (by omega)) rfl (zN_k6 hn (by omega)) rfl ?_
  refine zz_imul zd_4_14_5 ?_
  refine zz_nrm (fun v2 hv2 ev2 => ?_)
  refine zz_iload_n (x := p2) rfl zd_4_14_6 ?_
  refine zz_iadd zd_4_14_7 ?_
  refine zz_nrm (fun v3 hv3 ev3 => ?_)
  refine zz_aload_n (x := zz_rf 6 p0) rfl zd_4_14_8 ?_
  have g4 := zz_G.r G_S0 (zz_rf 6 p0) 12 (-2147483648) 2147483647 (zR_k6_12 (by omega)) (zB_k6 (by omega))
  refine zz_geti (z := S0 (zz_rf 6 p0) 12) zd_4_14_9 zf_Layer_60 (zT_k6 (by omega)) rfl (zN_k6 hn (by omega)) rfl ?_
  refine zz_imul zd_4_14_12 ?_
  refine zz_nrm (fun v5 hv5 ev5 => ?_)
  refine zz_iload (x := p3) rfl zd_4_14_13 ?_
  refine zz_iadd zd_4_14_15 ?_
  refine zz_nrm (fun v6 hv6 ev6 => ?_)
  refine zz_istore [some (.ref (zz_rf 6 t)), some (.ref (zz_rf 6 p0)), some (zi p1), some (zi p2), some (zi p3), some (zi p4), some (zi v6)] zd_4_14_16 (by decide) rfl ?_
  refine zz_aload_n (x := zz_rf 6 t) rfl zd_4_14_18 ?_
  have g7 := zz_G.r G_S0 (zz_rf 6 t) 9 (-2147483648) 2147483647 (zR_k6_9 (by omega)) (zB_k6 (by omega))
  refine zz_geti (z := S0 (zz_rf 6 t) 9) zd_4_14_19 zf_Layer_42 (zT_k6 (by omega)) rfl (zN_k6 hn (by omega)) rfl ?_
  refine zz_iconst zd_4_14_22 ?_
  refine zz_aload_n (x := zz_rf 6 t) rfl zd_4_14_23 ?_
  have g8 := zz_G.r G_S0 (zz_rf 6 t) 12 (-2147483648) 2147483647 (zR_k6_12 (by omega)) (zB_k6 (by omega))
  refine zz_geti (z := S0 (zz_rf 6 t) 12) zd_4_14_24 zf_Layer_60 (zT_k6 (by omega)) rfl (zN_k6 hn (by omega)) rfl ?_
  refine zz_imul zd_4_14_27 ?_
  refine zz_nrm (fun v9 hv9 ev9 => ?_)
  refine zz_iadd zd_4_14_28 ?_
  refine zz_nrm (fun v10 hv10 ev10 => ?_)
  refine zz_iload (x := v6) rfl zd_4_14_29 ?_
  refine zz_aload_n (x := zz_rf 6 t) rfl zd_4_14_31 ?_
  refine zz_geti (z := S0 (zz_rf 6 t) 12) zd_4_14_32 zf_Layer_60 (zT_k6 (by omega)) rfl (zN_k6 hn (by omega)) rfl ?_
  refine zz_imul zd_4_14_35 ?_
  refine zz_nrm (fun v11 hv11 ev11 => ?_)
  refine zz_iadd zd_4_14_36 ?_
  refine zz_nrm (fun v12 hv12 ev12 => ?_)
  refine zz_iload (x := p4) rfl zd_4_14_37 ?_
  refine zz_iadd zd_4_14_39 ?_
  refine zz_nrm (fun v13 hv13 ev13 => ?_)
  exact zz_iret zd_4_14_40 rfl (Nat.zero_le _) (Nat.zero_le _) ⟨_, _, rfl, rfl, by omega⟩
theorem zk_Compiler_178 : mm_Vl "TensorForge$Compiler" 178 2 5 zy_weightAt_4_14 := ⟨zyw_weightAt_4_14, (R_Layer, F_Layer, 15), rfl, mm_tb_1 1445 (by decide +kernel) rfl, mm_tb_1 888 (by decide +kernel) rfl, mm_tb_1 889 (by decide +kernel) rfl⟩
abbrev zy_biasAt_4_13 : mm_Y := (⟨"TensorForge$Layer", "biasAt", "(I)I"⟩, prog_4_method_13_code, 2, (some .int))
theorem zyw_biasAt_4_13 : mm_Yw zy_biasAt_4_13 1 := ⟨mm_tb_1 881 (by decide +kernel) rfl, mm_tb_1 3 (by decide +kernel) rfl, ⟨by decide, by decide⟩, by decide +kernel⟩
theorem zg_3_6_97 : zq_at zy_loadParameters_3_6.2.1 97 184 ∧ zq_at zy_loadParameters_3_6.2.1 98 0 ∧ zq_at zy_loadParameters_3_6.2.1 99 132 ∧ zq_at zy_loadParameters_3_6.2.1 100 129 ∧ zq_at zy_loadParameters_3_6.2.1 101 16 ∧ zq_at zy_loadParameters_3_6.2.1 102 10 ∧ zq_at zy_loadParameters_3_6.2.1 103 42 ∧ zq_at zy_loadParameters_3_6.2.1 104 180 ∧ zq_at zy_loadParameters_3_6.2.1 105 0 ∧ zq_at zy_loadParameters_3_6.2.1 106 51 ∧ zq_at zy_loadParameters_3_6.2.1 107 180 ∧ zq_at zy_loadParameters_3_6.2.1 108 0 ∧ zq_at zy_loadParameters_3_6.2.1 109 79 ∧ zq_at zy_loadParameters_3_6.2.1 110 184 ∧ zq_at zy_loadParameters_3_6.2.1 111 0 ∧ zq_at zy_loadParameters_3_6.2.1 112 132 ∧ zq_at zy_loadParameters_3_6.2.1 113 129 ∧ zq_at zy_loadParameters_3_6.2.1 114 182 ∧ zq_at zy_loadParameters_3_6.2.1 115 0 ∧ zq_at zy_loadParameters_3_6.2.1 116 143 ∧ zq_at zy_loadParameters_3_6.2.1 117 177 ∧ zq_at zy_loadParameters_3_6.2.1 4 42 ∧ zq_at zy_loadParameters_3_6.2.1 5 7 ∧ zq_at zy_loadParameters_3_6.2.1 6 42 := by decide +kernel
theorem zd_3_6_97 : zz_D zy_loadParameters_3_6 97 (.invokestatic 132) 3 100 := ⟨zq_184 zg_3_6_97.1 zg_3_6_97.2.1 zg_3_6_97.2.2.1 rfl, rfl⟩
theorem zd_3_6_100 : zz_D zy_loadParameters_3_6 100 (.lor) 1 101 := ⟨zq_129 zg_3_6_97.2.2.2.1, rfl⟩
theorem zd_3_6_101 : zz_D zy_loadParameters_3_6 101 (.bipush 10) 2 103 := ⟨zq_16 zg_3_6_97.2.2.2.2.1 zg_3_6_97.2.2.2.2.2.1 (by decide), rfl⟩
theorem zd_3_6_103 : zz_D zy_loadParameters_3_6 103 (.aload_n 0) 1 104 := ⟨zq_42 zg_3_6_97.2.2.2.2.2.2.1, rfl⟩
theorem zd_3_6_104 : zz_D zy_loadParameters_3_6 104 (.getfield 51) 3 107 := ⟨zq_180 zg_3_6_97.2.2.2.2.2.2.2.1 zg_3_6_97.2.2.2.2.2.2.2.2.1 zg_3_6_97.2.2.2.2.2.2.2.2.2.1 rfl, rfl⟩
theorem zd_3_6_107 : zz_D zy_loadParameters_3_6 107 (.getfield 79) 3 110 := ⟨zq_180 zg_3_6_97.2.2.2.2.2.2.2.2.2.2.1 zg_3_6_97.2.2.2.2.2.2.2.2.2.2.2.1 zg_3_6_97.2.2.2.2.2.2.2.2.2.2.2.2.1 rfl, rfl⟩
theorem zd_3_6_110 : zz_D zy_loadParameters_3_6 110 (.invokestatic 132) 3 113 := ⟨zq_184 zg_3_6_97.2.2.2.2.2.2.2.2.2.2.2.2.2.1 zg_3_6_97.2.2.2.2.2.2.2.2.2.2.2.2.2.2.1 zg_3_6_97.2.2.2.2.2.2.2.2.2.2.2.2.2.2.2.1 rfl, rfl⟩
theorem zd_3_6_113 : zz_D zy_loadParameters_3_6 113 (.lor) 1 114 := ⟨zq_129 zg_3_6_97.2.2.2.2.2.2.2.2.2.2.2.2.2.2.2.2.1, rfl⟩
theorem zd_3_6_114 : zz_D zy_loadParameters_3_6 114 (.invokevirtual 143) 3 117 := ⟨zq_182 zg_3_6_97.2.2.2.2.2.2.2.2.2.2.2.2.2.2.2.2.2.1 zg_3_6_97.2.2.2.2.2.2.2.2.2.2.2.2.2.2.2.2.2.2.1 zg_3_6_97.2.2.2.2.2.2.2.2.2.2.2.2.2.2.2.2.2.2.2.1 rfl, rfl⟩
theorem zd_3_6_117 : zz_D zy_loadParameters_3_6 117 (.return_) 1 118 := ⟨zq_177 zg_3_6_97.2.2.2.2.2.2.2.2.2.2.2.2.2.2.2.2.2.2.2.2.1, rfl⟩
theorem zd_3_6_4 : zz_D zy_loadParameters_3_6 4 (.aload_n 0) 1 5 := ⟨zq_42 zg_3_6_97.2.2.2.2.2.2.2.2.2.2.2.2.2.2.2.2.2.2.2.2.2.1, rfl⟩
theorem zd_3_6_5 : zz_D zy_loadParameters_3_6 5 (.iconst 4) 1 6 := ⟨zq_7 zg_3_6_97.2.2.2.2.2.2.2.2.2.2.2.2.2.2.2.2.2.2.2.2.2.2.1, rfl⟩
theorem zd_3_6_6 : zz_D zy_loadParameters_3_6 6 (.aload_n 0) 1 7 := ⟨zq_42 zg_3_6_97.2.2.2.2.2.2.2.2.2.2.2.2.2.2.2.2.2.2.2.2.2.2.2, rfl⟩
theorem zg_3_6_7 : zq_at zy_loadParameters_3_6.2.1 7 180 ∧ zq_at zy_loadParameters_3_6.2.1 8 0 ∧ zq_at zy_loadParameters_3_6.2.1 9 91 ∧ zq_at zy_loadParameters_3_6.2.1 10 42 ∧ zq_at zy_loadParameters_3_6.2.1 11 180 ∧ zq_at zy_loadParameters_3_6.2.1 12 0 ∧ zq_at zy_loadParameters_3_6.2.1 13 82 ∧ zq_at zy_loadParameters_3_6.2.1 14 184 ∧ zq_at zy_loadParameters_3_6.2.1 15 0 ∧ zq_at zy_loadParameters_3_6.2.1 16 128 ∧ zq_at zy_loadParameters_3_6.2.1 17 16 ∧ zq_at zy_loadParameters_3_6.2.1 18 8 ∧ zq_at zy_loadParameters_3_6.2.1 19 42 ∧ zq_at zy_loadParameters_3_6.2.1 20 182 ∧ zq_at zy_loadParameters_3_6.2.1 21 0 ∧ zq_at zy_loadParameters_3_6.2.1 22 122 ∧ zq_at zy_loadParameters_3_6.2.1 23 184 ∧ zq_at zy_loadParameters_3_6.2.1 24 0 ∧ zq_at zy_loadParameters_3_6.2.1 25 132 ∧ zq_at zy_loadParameters_3_6.2.1 26 129 ∧ zq_at zy_loadParameters_3_6.2.1 27 8 ∧ zq_at zy_loadParameters_3_6.2.1 28 42 := by decide +kernel
theorem zd_3_6_7 : zz_D zy_loadParameters_3_6 7 (.getfield 91) 3 10 := ⟨zq_180 zg_3_6_7.1 zg_3_6_7.2.1 zg_3_6_7.2.2.1 rfl, rfl⟩
theorem zd_3_6_10 : zz_D zy_loadParameters_3_6 10 (.aload_n 0) 1 11 := ⟨zq_42 zg_3_6_7.2.2.2.1, rfl⟩
theorem zd_3_6_11 : zz_D zy_loadParameters_3_6 11 (.getfield 82) 3 14 := ⟨zq_180 zg_3_6_7.2.2.2.2.1 zg_3_6_7.2.2.2.2.2.1 zg_3_6_7.2.2.2.2.2.2.1 rfl, rfl⟩
theorem zd_3_6_14 : zz_D zy_loadParameters_3_6 14 (.invokestatic 128) 3 17 := ⟨zq_184 zg_3_6_7.2.2.2.2.2.2.2.1 zg_3_6_7.2.2.2.2.2.2.2.2.1 zg_3_6_7.2.2.2.2.2.2.2.2.2.1 rfl, rfl⟩
theorem zd_3_6_17 : zz_D zy_loadParameters_3_6 17 (.bipush 8) 2 19 := ⟨zq_16 zg_3_6_7.2.2.2.2.2.2.2.2.2.2.1 zg_3_6_7.2.2.2.2.2.2.2.2.2.2.2.1 (by decide), rfl⟩
theorem zd_3_6_19 : zz_D zy_loadParameters_3_6 19 (.aload_n 0) 1 20 := ⟨zq_42 zg_3_6_7.2.2.2.2.2.2.2.2.2.2.2.2.1, rfl⟩
theorem zd_3_6_20 : zz_D zy_loadParameters_3_6 20 (.invokevirtual 122) 3 23 := ⟨zq_182 zg_3_6_7.2.2.2.2.2.2.2.2.2.2.2.2.2.1 zg_3_6_7.2.2.2.2.2.2.2.2.2.2.2.2.2.2.1 zg_3_6_7.2.2.2.2.2.2.2.2.2.2.2.2.2.2.2.1 rfl, rfl⟩
theorem zd_3_6_23 : zz_D zy_loadParameters_3_6 23 (.invokestatic 132) 3 26 := ⟨zq_184 zg_3_6_7.2.2.2.2.2.2.2.2.2.2.2.2.2.2.2.2.1 zg_3_6_7.2.2.2.2.2.2.2.2.2.2.2.2.2.2.2.2.2.1 zg_3_6_7.2.2.2.2.2.2.2.2.2.2.2.2.2.2.2.2.2.2.1 rfl, rfl⟩
theorem zd_3_6_26 : zz_D zy_loadParameters_3_6 26 (.lor) 1 27 := ⟨zq_129 zg_3_6_7.2.2.2.2.2.2.2.2.2.2.2.2.2.2.2.2.2.2.2.1, rfl⟩
theorem zd_3_6_27 : zz_D zy_loadParameters_3_6 27 (.iconst 5) 1 28 := ⟨zq_8 zg_3_6_7.2.2.2.2.2.2.2.2.2.2.2.2.2.2.2.2.2.2.2.2.1, rfl⟩
theorem zd_3_6_28 : zz_D zy_loadParameters_3_6 28 (.aload_n 0) 1 29 := ⟨zq_42 zg_3_6_7.2.2.2.2.2.2.2.2.2.2.2.2.2.2.2.2.2.2.2.2.2, rfl⟩
theorem zg_3_6_29 : zq_at zy_loadParameters_3_6.2.1 29 180 ∧ zq_at zy_loadParameters_3_6.2.1 30 0 ∧ zq_at zy_loadParameters_3_6.2.1 31 51 ∧ zq_at zy_loadParameters_3_6.2.1 32 42 ∧ zq_at zy_loadParameters_3_6.2.1 33 180 ∧ zq_at zy_loadParameters_3_6.2.1 34 0 ∧ zq_at zy_loadParameters_3_6.2.1 35 76 ∧ zq_at zy_loadParameters_3_6.2.1 36 182 ∧ zq_at zy_loadParameters_3_6.2.1 37 0 ∧ zq_at zy_loadParameters_3_6.2.1 38 171 := by decide +kernel
theorem zd_3_6_29 : zz_D zy_loadParameters_3_6 29 (.getfield 51) 3 32 := ⟨zq_180 zg_3_6_29.1 zg_3_6_29.2.1 zg_3_6_29.2.2.1 rfl, rfl⟩
theorem zd_3_6_32 : zz_D zy_loadParameters_3_6 32 (.aload_n 0) 1 33 := ⟨zq_42 zg_3_6_29.2.2.2.1, rfl⟩
theorem zd_3_6_33 : zz_D zy_loadParameters_3_6 33 (.getfield 76) 3 36 := ⟨zq_180 zg_3_6_29.2.2.2.2.1 zg_3_6_29.2.2.2.2.2.1 zg_3_6_29.2.2.2.2.2.2.1 rfl, rfl⟩
theorem zd_3_6_36 : zz_D zy_loadParameters_3_6 36 (.invokevirtual 171) 3 39 := ⟨zq_182 zg_3_6_29.2.2.2.2.2.2.2.1 zg_3_6_29.2.2.2.2.2.2.2.2.1 zg_3_6_29.2.2.2.2.2.2.2.2.2 rfl, rfl⟩
theorem zg_4_13_0 : zq_at zy_biasAt_4_13.2.1 0 42 ∧ zq_at zy_biasAt_4_13.2.1 1 180 ∧ zq_at zy_biasAt_4_13.2.1 2 0 ∧ zq_at zy_biasAt_4_13.2.1 3 42 ∧ zq_at zy_biasAt_4_13.2.1 4 7 ∧ zq_at zy_biasAt_4_13.2.1 5 27 ∧ zq_at zy_biasAt_4_13.2.1 6 104 ∧ zq_at zy_biasAt_4_13.2.1 7 96 ∧ zq_at zy_biasAt_4_13.2.1 8 172 := by decide +kernel
theorem zd_4_13_0 : zz_D zy_biasAt_4_13 0 (.aload_n 0) 1 1 := ⟨zq_42 zg_4_13_0.1, rfl⟩
theorem zd_4_13_1 : zz_D zy_biasAt_4_13 1 (.getfield 42) 3 4 := ⟨zq_180 zg_4_13_0.2.1 zg_4_13_0.2.2.1 zg_4_13_0.2.2.2.1 rfl, rfl⟩
theorem zd_4_13_4 : zz_D zy_biasAt_4_13 4 (.iconst 4) 1 5 := ⟨zq_7 zg_4_13_0.2.2.2.2.1, rfl⟩
theorem zd_4_13_5 : zz_D zy_biasAt_4_13 5 (.iload_n 1) 1 6 := ⟨zq_27 zg_4_13_0.2.2.2.2.2.1, rfl⟩
theorem zd_4_13_6 : zz_D zy_biasAt_4_13 6 (.imul) 1 7 := ⟨zq_104 zg_4_13_0.2.2.2.2.2.2.1, rfl⟩
theorem zd_4_13_7 : zz_D zy_biasAt_4_13 7 (.iadd) 1 8 := ⟨zq_96 zg_4_13_0.2.2.2.2.2.2.2.1, rfl⟩
theorem zd_4_13_8 : zz_D zy_biasAt_4_13 8 (.ireturn) 1 9 := ⟨zq_172 zg_4_13_0.2.2.2.2.2.2.2.2, rfl⟩
-- TensorForge$Layer biasAt (I)I
abbrev zr_biasAt_4_13 : Room := { frames := 0, cells := 0, slots := 0, locals := 0 }
def zp_biasAt_4_13 (t : Int) (p0 : Int) (S0 : zz_S) : Int → zz_S → Prop := fun r S => S0 = S ∧ ((-2147483648) ≤ r ∧ r ≤ 2147483647)
theorem zc_biasAt_4_13 {g : mm_G} {l : Launch} (t : Int) (p0 : Int) (S0 : zz_S) (n : Nat) (hn : zz_end ≤ n) (G_S0 : zz_G S0) (ht : 0 ≤ t ∧ t ≤ 23) (hp0 : (-2147483648) ≤ p0 ∧ p0 ≤ 2147483647) : mm_Met g l zy_biasAt_4_13 zr_biasAt_4_13 [.ref (zz_rf 6 t), zi p0] (zz_M S0 n) n (zz_QI n (zp_biasAt_4_13 t p0 S0)) := by
  refine zz_enter (by decide) (Nat.le_of_ble_eq_true rfl) (zz_less (ls1 := [some (.ref (zz_rf 6 t)), some (zi p0)]) ⟨rfl, ⟨rfl, trivial⟩⟩ ?_)
  have b_t := zz_rf6 (z := t) (by omega)
  refine zz_aload_n (x := zz_rf 6 t) rfl zd_4_13_0 ?_
  have g1 := zz_G.r G_S0 (zz_rf 6 t) 9 (-2147483648) 2147483647 (zR_k6_9 (by omega)) (zB_k6 (by omega))
  refine zz_geti (z := S0 (zz_rf 6 t) 9) zd_4_13_1 zf_Layer_42 (zT_k6 (by omega)) rfl (zN_k6 hn (by omega)) rfl ?_
  refine zz_iconst zd_4_13_4 ?_
  refine zz_iload_n (x := p0) rfl zd_4_13_5 ?_
  refine zz_imul zd_4_13_6 ?_
  refine zz_nrm (fun v2 hv2 ev2 => ?_)
  refine zz_iadd zd_4_13_7 ?_
  refine zz_nrm (fun v3 hv3 ev3 => ?_)
  exact zz_iret zd_4_13_8 rfl (Nat.zero_le _) (Nat.zero_le _) ⟨_, _, rfl, rfl, by omega⟩
theorem zk_Compiler_171 : mm_Vl "TensorForge$Compiler" 171 2 1 zy_biasAt_4_13 := ⟨zyw_biasAt_4_13, (R_Layer, F_Layer, 15), rfl, mm_tb_1 1436 (by decide +kernel) rfl, mm_tb_1 879 (by decide +kernel) rfl, mm_tb_1 880 (by decide +kernel) rfl⟩
theorem zg_3_6_39 : zq_at zy_loadParameters_3_6.2.1 39 184 ∧ zq_at zy_loadParameters_3_6.2.1 40 0 ∧ zq_at zy_loadParameters_3_6.2.1 41 132 ∧ zq_at zy_loadParameters_3_6.2.1 42 129 ∧ zq_at zy_loadParameters_3_6.2.1 43 182 ∧ zq_at zy_loadParameters_3_6.2.1 44 0 ∧ zq_at zy_loadParameters_3_6.2.1 45 143 := by decide +kernel
theorem zd_3_6_39 : zz_D zy_loadParameters_3_6 39 (.invokestatic 132) 3 42 := ⟨zq_184 zg_3_6_39.1 zg_3_6_39.2.1 zg_3_6_39.2.2.1 rfl, rfl⟩
theorem zd_3_6_42 : zz_D zy_loadParameters_3_6 42 (.lor) 1 43 := ⟨zq_129 zg_3_6_39.2.2.2.1, rfl⟩
theorem zd_3_6_43 : zz_D zy_loadParameters_3_6 43 (.invokevirtual 143) 3 46 := ⟨zq_182 zg_3_6_39.2.2.2.2.1 zg_3_6_39.2.2.2.2.2.1 zg_3_6_39.2.2.2.2.2.2 rfl, rfl⟩
-- TensorForge$Compiler loadParameters (Z)V
abbrev zr_loadParameters_3_6 : Room := { frames := 1, cells := 0, slots := 0, locals := 22 }
def zp_loadParameters_3_6 (p0 : Int) (S0 : zz_S) : zz_S → Prop := fun S => zz_G S ∧ zz_fr [(1076, 1)] [1029, 1030] (fun _ _ => False) S0 S ∧ (S0 1076 1 ≤ S 1076 1 ∧ S 1076 1 ≤ S0 1076 1 + 2)
theorem zc_loadParameters_3_6 {g : mm_G} {l : Launch} (p0 : Int) (S0 : zz_S) (n : Nat) (hn : zz_end ≤ n) (G_S0 : zz_G S0) (hp0 : 0 ≤ p0 ∧ p0 ≤ 1) (hq : S0 1076 1 ≤ 970000) (hl : 0 ≤ S0 1076 3 ∧ 0 ≤ S0 1076 4 ∧ 0 ≤ S0 1076 5) : mm_Met g l zy_loadParameters_3_6 zr_loadParameters_3_6 [.ref 1076, zi p0] (zz_M S0 n) n (zz_QV n (zp_loadParameters_3_6 p0 S0)) := by
  refine zz_enter (by decide) (Nat.le_of_ble_eq_true rfl) (zz_less (ls1 := [some (.ref 1076), some (zi p0)]) ⟨rfl, ⟨rfl, trivial⟩⟩ ?_)
  have F_S0 : zz_fr [(1076, 1)] [1029, 1030] (fun _ _ => False) S0 S0 := zz_fr.refl
  refine zz_iload_n (x := p0) rfl zd_3_6_0 ?_
  refine zz_if_eq (by omega) zd_3_6_1 (fun c1 => ?_) (fun c1 => ?_)
  · refine zz_aload_n (x := 1076) rfl zd_3_6_46 ?_
    refine zz_iconst zd_3_6_47 ?_
    refine zz_aload_n (x := 1076) rfl zd_3_6_48 ?_
    have g2 := zz_G.r G_S0 1076 16 (-2147483648) 2147483647 rfl rfl
    refine zz_geti (z := S0 1076 16) zd_3_6_49 zf_Compiler_115 zT_1076 rfl (zz_ltn hn rfl) rfl ?_
    refine zz_aload_n (x := 1076) rfl zd_3_6_52 ?_
    have g3 := zz_G.r G_S0 1076 8 (-2147483648) 2147483647 rfl rfl
    refine zz_geti (z := S0 1076 8) zd_3_6_53 zf_Compiler_82 zT_1076 rfl (zz_ltn hn rfl) rfl ?_
    refine zz_callSJ [zi 2, zi (S0 1076 16), zi (S0 1076 8)] zd_3_6_56 zk_Compiler_128 rfl rfl ⟨Nat.le_of_ble_eq_true rfl, Nat.le_of_ble_eq_true rfl⟩ ⟨rfl, rfl⟩ (Nat.zero_le _) (Nat.zero_le _) (zc_shaped_12_6 2 (S0 1076 16) (S0 1076 8) S0 n hn G_S0 (by omega) (by omega) (by omega)) (fun v5 S4 hP => ?_)
    obtain ⟨rfl, o6⟩ := hP
    refine zz_bipush (by decide) zd_3_6_59 ?_
    refine zz_aload_n (x := 1076) rfl zd_3_6_61 ?_
    refine zz_callVI [] zd_3_6_62 zk_Compiler_175 zT_1076 (zz_ltn hn rfl) rfl rfl ⟨Nat.le_of_ble_eq_true rfl, Nat.le_of_ble_eq_true rfl⟩ ⟨rfl, rfl⟩ (Nat.zero_le _) (Nat.zero_le _) (zc_groupHalf_3_14  S0 n hn G_S0 ) (fun v8 S7 hP => ?_)
    obtain ⟨rfl, o9⟩ := hP
    refine zz_callSJ [zi 8, zi v8] zd_3_6_65 zk_Compiler_132 rfl rfl ⟨Nat.le_of_ble_eq_true rfl, Nat.le_of_ble_eq_true rfl⟩ ⟨rfl, rfl⟩ (Nat.zero_le _) (Nat.zero_le _) (zc_bits_12_4 8 v8 S0 n hn G_S0 (by omega) (by omega)) (fun v11 S10 hP => ?_)
    obtain ⟨rfl, o12⟩ := hP
    refine zz_lor zd_3_6_68 (fun v13 hv13 ev13 => ?_)
    refine zz_iconst zd_3_6_69 ?_
    refine zz_aload_n (x := 1076) rfl zd_3_6_70 ?_
    have g14 := zz_G.r G_S0 1076 3 (-1) 23 rfl rfl
    refine zz_getr (kd := 4) (z := S0 1076 3) zd_3_6_71 zf_Compiler_51 zT_1076 rfl (zz_ltn hn rfl) rfl (by omega) (zz_rf 6 (S0 1076 3)) rfl ?_
    refine zz_aload_n (x := 1076) rfl zd_3_6_74 ?_
    have g15 := zz_G.r G_S0 1076 4 (-1) 23 rfl rfl
    refine zz_getr (kd := 4) (z := S0 1076 4) zd_3_6_75 zf_Compiler_55 zT_1076 rfl (zz_ltn hn rfl) rfl (by omega) (zz_rf 6 (S0 1076 4)) rfl ?_
    refine zz_aload_n (x := 1076) rfl zd_3_6_78 ?_
    have g16 := zz_G.r G_S0 1076 13 (-2147483648) 2147483647 rfl rfl
    refine zz_geti (z := S0 1076 13) zd_3_6_79 zf_Compiler_106 zT_1076 rfl (zz_ltn hn rfl) rfl ?_
    refine zz_aload_n (x := 1076) rfl zd_3_6_82 ?_
    have g17 := zz_G.r G_S0 1076 14 (-2147483648) 2147483647 rfl rfl
    refine zz_geti (z := S0 1076 14) zd_3_6_83 zf_Compiler_109 zT_1076 rfl (zz_ltn hn rfl) rfl ?_
    refine zz_aload_n (x := 1076) rfl zd_3_6_86 ?_
    have g18 := zz_G.r G_S0 1076 15 (-2147483648) 2147483647 rfl rfl
    refine zz_geti (z := S0 1076 15) zd_3_6_87 zf_Compiler_112 zT_1076 rfl (zz_ltn hn rfl) rfl ?_
    refine zz_aload_n (x := 1076) rfl zd_3_6_90 ?_
    have g19 := zz_G.r G_S0 1076 7 (-2147483648) 2147483647 rfl rfl
    refine zz_geti (z := S0 1076 7) zd_3_6_91 zf_Compiler_76 zT_1076 rfl (zz_ltn hn rfl) rfl ?_
    refine zz_callVI [.ref (zz_rf 6 (S0 1076 4)), zi (S0 1076 13), zi (S0 1076 14), zi (S0 1076 15), zi (S0 1076 7)] zd_3_6_94 zk_Compiler_178 (zT_k6 (by omega)) (zN_k6 hn (by omega)) rfl rfl ⟨Nat.le_of_ble_eq_true rfl, Nat.le_of_ble_eq_true rfl⟩ ⟨rfl, rfl⟩ (Nat.zero_le _) (Nat.zero_le _) (zc_weightAt_4_14 (S0 1076 3) (S0 1076 4) (S0 1076 13) (S0 1076 14) (S0 1076 15) (S0 1076 7) S0 n hn G_S0 (by omega) (by omega) (by omega) (by omega) (by omega) (by omega)) (fun v21 S20 hP => ?_)
    obtain ⟨rfl, o22⟩ := hP
    refine zz_callSJ [zi 5, zi v21] zd_3_6_97 zk_Compiler_132 rfl rfl ⟨Nat.le_of_ble_eq_true rfl, Nat.le_of_ble_eq_true rfl⟩ ⟨rfl, rfl⟩ (Nat.zero_le _) (Nat.zero_le _) (zc_bits_12_4 5 v21 S0 n hn G_S0 (by omega) (by omega)) (fun v24 S23 hP => ?_)
    obtain ⟨rfl, o25⟩ := hP
    refine zz_lor zd_3_6_100 (fun v26 hv26 ev26 => ?_)
    refine zz_bipush (by decide) zd_3_6_101 ?_
    refine zz_aload_n (x := 1076) rfl zd_3_6_103 ?_
    refine zz_getr (kd := 4) (z := S0 1076 3) zd_3_6_104 zf_Compiler_51 zT_1076 rfl (zz_ltn hn rfl) rfl (by omega) (zz_rf 6 (S0 1076 3)) rfl ?_
    have g27 := zz_G.r G_S0 (zz_rf 6 (S0 1076 3)) 12 (-2147483648) 2147483647 (zR_k6_12 (by omega)) (zB_k6 (by omega))
    refine zz_geti (z := S0 (zz_rf 6 (S0 1076 3)) 12) zd_3_6_107 zf_Compiler_79 (zT_k6 (by omega)) rfl (zN_k6 hn (by omega)) rfl ?_
    refine zz_callSJ [zi 10, zi (S0 (zz_rf 6 (S0 1076 3)) 12)] zd_3_6_110 zk_Compiler_132 rfl rfl ⟨Nat.le_of_ble_eq_true rfl, Nat.le_of_ble_eq_true rfl⟩ ⟨rfl, rfl⟩ (Nat.zero_le _) (Nat.zero_le _) (zc_bits_12_4 10 (S0 (zz_rf 6 (S0 1076 3)) 12) S0 n hn G_S0 (by omega) (by omega)) (fun v29 S28 hP => ?_)
    obtain ⟨rfl, o30⟩ := hP
    refine zz_lor zd_3_6_113 (fun v31 hv31 ev31 => ?_)
    have g32 := zz_G.r G_S0 1076 1 0 1000000 rfl rfl
    refine zz_callVV [zl v31] zd_3_6_114 zk_Compiler_143 zT_1076 (zz_ltn hn rfl) rfl rfl ⟨Nat.le_of_ble_eq_true rfl, Nat.le_of_ble_eq_true rfl⟩ ⟨rfl, rfl⟩ (Nat.zero_le _) (Nat.zero_le _) (zc_emit_3_15 v31 S0 n hn G_S0 (by omega) (by omega)) (fun S33 hP => ?_)
    obtain ⟨G_S33, fS33, o35⟩ := hP
    have g36 := zz_G.r G_S0 1076 0 0 1 rfl rfl
    have F_S33 := zz_fr.trans F_S0 fS33 rfl (fun a i h => Or.inr (Or.inl (h ▸ zM_k4 (z := (S0 1076 0)) (by omega) rfl)))
    have b37 := zz_rf4 (z := (S0 1076 0)) (by omega)
    have g38 := zz_G.r G_S33 1076 1 0 1000000 rfl rfl
    exact zz_vret zd_3_6_117 rfl (Nat.zero_le _) (Nat.zero_le _) ⟨_, rfl, G_S33, F_S33, by omega⟩
  · refine zz_aload_n (x := 1076) rfl zd_3_6_4 ?_
    refine zz_iconst zd_3_6_5 ?_
    refine zz_aload_n (x := 1076) rfl zd_3_6_6 ?_
    have g39 := zz_G.r G_S0 1076 11 (-2147483648) 2147483647 rfl rfl
    refine zz_geti (z := S0 1076 11) zd_3_6_7 zf_Compiler_91 zT_1076 rfl (zz_ltn hn rfl) rfl ?_
    refine zz_aload_n (x := 1076) rfl zd_3_6_10 ?_
    have g40 := zz_G.r G_S0 1076 8 (-2147483648) 2147483647 rfl rfl
    refine zz_geti (z := S0 1076 8) zd_3_6_11 zf_Compiler_82 zT_1076 rfl (zz_ltn hn rfl) rfl ?_
    refine zz_callSJ [zi 4, zi (S0 1076 11), zi (S0 1076 8)] zd_3_6_14 zk_Compiler_128 rfl rfl ⟨Nat.le_of_ble_eq_true rfl, Nat.le_of_ble_eq_true rfl⟩ ⟨rfl, rfl⟩ (Nat.zero_le _) (Nat.zero_le _) (zc_shaped_12_6 4 (S0 1076 11) (S0 1076 8) S0 n hn G_S0 (by omega) (by omega) (by omega)) (fun v42 S41 hP => ?_)
    obtain ⟨rfl, o43⟩ := hP
    refine zz_bipush (by decide) zd_3_6_17 ?_
    refine zz_aload_n (x := 1076) rfl zd_3_6_19 ?_
    refine zz_callVI [] zd_3_6_20 zk_Compiler_122 zT_1076 (zz_ltn hn rfl) rfl rfl ⟨Nat.le_of_ble_eq_true rfl, Nat.le_of_ble_eq_true rfl⟩ ⟨rfl, rfl⟩ (Nat.zero_le _) (Nat.zero_le _) (zc_tileHalf_3_13  S0 n hn G_S0 ) (fun v45 S44 hP => ?_)
    obtain ⟨rfl, o46⟩ := hP
    refine zz_callSJ [zi 8, zi v45] zd_3_6_23 zk_Compiler_132 rfl rfl ⟨Nat.le_of_ble_eq_true rfl, Nat.le_of_ble_eq_true rfl⟩ ⟨rfl, rfl⟩ (Nat.zero_le _) (Nat.zero_le _) (zc_bits_12_4 8 v45 S0 n hn G_S0 (by omega) (by omega)) (fun v48 S47 hP => ?_)
    obtain ⟨rfl, o49⟩ := hP
    refine zz_lor zd_3_6_26 (fun v50 hv50 ev50 => ?_)
    refine zz_iconst zd_3_6_27 ?_
    refine zz_aload_n (x := 1076) rfl zd_3_6_28 ?_
    have g51 := zz_G.r G_S0 1076 3 (-1) 23 rfl rfl
    refine zz_getr (kd := 4) (z := S0 1076 3) zd_3_6_29 zf_Compiler_51 zT_1076 rfl (zz_ltn hn rfl) rfl (by omega) (zz_rf 6 (S0 1076 3)) rfl ?_
    refine zz_aload_n (x := 1076) rfl zd_3_6_32 ?_
    have g52 := zz_G.r G_S0 1076 7 (-2147483648) 2147483647 rfl rfl
    refine zz_geti (z := S0 1076 7) zd_3_6_33 zf_Compiler_76 zT_1076 rfl (zz_ltn hn rfl) rfl ?_
    refine zz_callVI [zi (S0 1076 7)] zd_3_6_36 zk_Compiler_171 (zT_k6 (by omega)) (zN_k6 hn (by omega)) rfl rfl ⟨Nat.le_of_ble_eq_true rfl, Nat.le_of_ble_eq_true rfl⟩ ⟨rfl, rfl⟩ (Nat.zero_le _) (Nat.zero_le _) (zc_biasAt_4_13 (S0 1076 3) (S0 1076 7) S0 n hn G_S0 (by omega) (by omega)) (fun v54 S53 hP => ?_)
    obtain ⟨rfl, o55⟩ := hP
    refine zz_callSJ [zi 5, zi v54] zd_3_6_39 zk_Compiler_132 rfl rfl ⟨Nat.le_of_ble_eq_true rfl, Nat.le_of_ble_eq_true rfl⟩ ⟨rfl, rfl⟩ (Nat.zero_le _) (Nat.zero_le _) (zc_bits_12_4 5 v54 S0 n hn G_S0 (by omega) (by omega)) (fun v57 S56 hP => ?_)
    obtain ⟨rfl, o58⟩ := hP
    refine zz_lor zd_3_6_42 (fun v59 hv59 ev59 => ?_)
    have g60 := zz_G.r G_S0 1076 1 0 1000000 rfl rfl
    refine zz_callVV [zl v59] zd_3_6_43 zk_Compiler_143 zT_1076 (zz_ltn hn rfl) rfl rfl ⟨Nat.le_of_ble_eq_true rfl, Nat.le_of_ble_eq_true rfl⟩ ⟨rfl, rfl⟩ (Nat.zero_le _) (Nat.zero_le _) (zc_emit_3_15 v59 S0 n hn G_S0 (by omega) (by omega)) (fun S61 hP => ?_)
    obtain ⟨G_S61, fS61, o63⟩ := hP
    have g64 := zz_G.r G_S0 1076 0 0 1 rfl rfl
    have F_S61 := zz_fr.trans F_S0 fS61 rfl (fun a i h => Or.inr (Or.inl (h ▸ zM_k4 (z := (S0 1076 0)) (by omega) rfl)))
    have b65 := zz_rf4 (z := (S0 1076 0)) (by omega)
    refine zz_aload_n (x := 1076) rfl zd_3_6_46 ?_
    refine zz_iconst zd_3_6_47 ?_
    refine zz_aload_n (x := 1076) rfl zd_3_6_48 ?_
    have g66 := zz_G.r G_S0 1076 16 (-2147483648) 2147483647 rfl rfl
    refine zz_geti (z := S0 1076 16) zd_3_6_49 zf_Compiler_115 zT_1076 rfl (zz_ltn hn rfl) (zz_rc fS61 rfl rfl (by first | decide | omega) rfl) ?_
    refine zz_aload_n (x := 1076) rfl zd_3_6_52 ?_
    refine zz_geti (z := S0 1076 8) zd_3_6_53 zf_Compiler_82 zT_1076 rfl (zz_ltn hn rfl) (zz_rc fS61 rfl rfl (by first | decide | omega) rfl) ?_
    refine zz_callSJ [zi 2, zi (S0 1076 16), zi (S0 1076 8)] zd_3_6_56 zk_Compiler_128 rfl rfl ⟨Nat.le_of_ble_eq_true rfl, Nat.le_of_ble_eq_true rfl⟩ ⟨rfl, rfl⟩ (Nat.zero_le _) (Nat.zero_le _) (zc_shaped_12_6 2 (S0 1076 16) (S0 1076 8) S61 n hn G_S61 (by omega) (by omega) (by omega)) (fun v68 S67 hP => ?_)
    obtain ⟨rfl, o69⟩ := hP
    refine zz_bipush (by decide) zd_3_6_59 ?_
    refine zz_aload_n (x := 1076) rfl zd_3_6_61 ?_
    refine zz_callVI [] zd_3_6_62 zk_Compiler_175 zT_1076 (zz_ltn hn rfl) rfl rfl ⟨Nat.le_of_ble_eq_true rfl, Nat.le_of_ble_eq_true rfl⟩ ⟨rfl, rfl⟩ (Nat.zero_le _) (Nat.zero_le _) (zc_groupHalf_3_14  S61 n hn G_S61 ) (fun v71 S70 hP => ?_)
    obtain ⟨rfl, o72⟩ := hP
    refine zz_callSJ [zi 8, zi v71] zd_3_6_65 zk_Compiler_132 rfl rfl ⟨Nat.le_of_ble_eq_true rfl, Nat.le_of_ble_eq_true rfl⟩ ⟨rfl, rfl⟩ (Nat.zero_le _) (Nat.zero_le _) (zc_bits_12_4 8 v71 S61 n hn G_S61 (by omega) (by omega)) (fun v74 S73 hP => ?_)
    obtain ⟨rfl, o75⟩ := hP
    refine zz_lor zd_3_6_68 (fun v76 hv76 ev76 => ?_)
    refine zz_iconst zd_3_6_69 ?_
    refine zz_aload_n (x := 1076) rfl zd_3_6_70 ?_
    refine zz_getr (kd := 4) (z := S0 1076 3) zd_3_6_71 zf_Compiler_51 zT_1076 rfl (zz_ltn hn rfl) (zz_rc fS61 rfl rfl (by first | decide | omega) rfl) (by omega) (zz_rf 6 (S0 1076 3)) rfl ?_
    refine zz_aload_n (x := 1076) rfl zd_3_6_74 ?_
    have g77 := zz_G.r G_S0 1076 4 (-1) 23 rfl rfl
    refine zz_getr (kd := 4) (z := S0 1076 4) zd_3_6_75 zf_Compiler_55 zT_1076 rfl (zz_ltn hn rfl) (zz_rc fS61 rfl rfl (by first | decide | omega) rfl) (by omega) (zz_rf 6 (S0 1076 4)) rfl ?_
    refine zz_aload_n (x := 1076) rfl zd_3_6_78 ?_
    have g78 := zz_G.r G_S0 1076 13 (-2147483648) 2147483647 rfl rfl
    refine zz_geti (z := S0 1076 13) zd_3_6_79 zf_Compiler_106 zT_1076 rfl (zz_ltn hn rfl) (zz_rc fS61 rfl rfl (by first | decide | omega) rfl) ?_
    refine zz_aload_n (x := 1076) rfl zd_3_6_82 ?_
    have g79 := zz_G.r G_S0 1076 14 (-2147483648) 2147483647 rfl rfl
    refine zz_geti (z := S0 1076 14) zd_3_6_83 zf_Compiler_109 zT_1076 rfl (zz_ltn hn rfl) (zz_rc fS61 rfl rfl (by first | decide | omega) rfl) ?_
    refine zz_aload_n (x := 1076) rfl zd_3_6_86 ?_
    have g80 := zz_G.r G_S0 1076 15 (-2147483648) 2147483647 rfl rfl
    refine zz_geti (z := S0 1076 15) zd_3_6_87 zf_Compiler_112 zT_1076 rfl (zz_ltn hn rfl) (zz_rc fS61 rfl rfl (by first | decide | omega) rfl) ?_
    refine zz_aload_n (x := 1076) rfl zd_3_6_90 ?_
    refine zz_geti (z := S0 1076 7) zd_3_6_91 zf_Compiler_76 zT_1076 rfl (zz_ltn hn rfl) (zz_rc fS61 rfl rfl (by first | decide | omega) rfl) ?_
    refine zz_callVI [.ref (zz_rf 6 (S0 1076 4)), zi (S0 1076 13), zi (S0 1076 14), zi (S0 1076 15), zi (S0 1076 7)] zd_3_6_94 zk_Compiler_178 (zT_k6 (by omega)) (zN_k6 hn (by omega)) rfl rfl ⟨Nat.le_of_ble_eq_true rfl, Nat.le_of_ble_eq_true rfl⟩ ⟨rfl, rfl⟩ (Nat.zero_le _) (Nat.zero_le _) (zc_weightAt_4_14 (S0 1076 3) (S0 1076 4) (S0 1076 13) (S0 1076 14) (S0 1076 15) (S0 1076 7) S61 n hn G_S61 (by omega) (by omega) (by omega) (by omega) (by omega) (by omega)) (fun v82 S81 hP => ?_)
    obtain ⟨rfl, o83⟩ := hP
    refine zz_callSJ [zi 5, zi v82] zd_3_6_97 zk_Compiler_132 rfl rfl ⟨Nat.le_of_ble_eq_true rfl, Nat.le_of_ble_eq_true rfl⟩ ⟨rfl, rfl⟩ (Nat.zero_le _) (Nat.zero_le _) (zc_bits_12_4 5 v82 S61 n hn G_S61 (by omega) (by omega)) (fun v85 S84 hP => ?_)
    obtain ⟨rfl, o86⟩ := hP
    refine zz_lor zd_3_6_100 (fun v87 hv87 ev87 => ?_)
    refine zz_bipush (by decide) zd_3_6_101 ?_
    refine zz_aload_n (x := 1076) rfl zd_3_6_103 ?_
    refine zz_getr (kd := 4) (z := S0 1076 3) zd_3_6_104 zf_Compiler_51 zT_1076 rfl (zz_ltn hn rfl) (zz_rc fS61 rfl rfl (by first | decide | omega) rfl) (by omega) (zz_rf 6 (S0 1076 3)) rfl ?_
    have g88 := zz_G.r G_S0 (zz_rf 6 (S0 1076 3)) 12 (-2147483648) 2147483647 (zR_k6_12 (by omega)) (zB_k6 (by omega))
    refine zz_geti (z := S0 (zz_rf 6 (S0 1076 3)) 12) zd_3_6_107 zf_Compiler_79 (zT_k6 (by omega)) rfl (zN_k6 hn (by omega)) (zz_rc fS61 (zP_k6 (by omega) rfl) (zQ_k6 (by omega) rfl) (by have hz_ := zz_rf6 (z := S0 1076 3) (by omega); omega) rfl) ?_
    refine zz_callSJ [zi 10, zi (S0 (zz_rf 6 (S0 1076 3)) 12)] zd_3_6_110 zk_Compiler_132 rfl rfl ⟨Nat.le_of_ble_eq_true rfl, Nat.le_of_ble_eq_true rfl⟩ ⟨rfl, rfl⟩ (Nat.zero_le _) (Nat.zero_le _) (zc_bits_12_4 10 (S0 (zz_rf 6 (S0 1076 3)) 12) S61 n hn G_S61 (by omega) (by omega)) (fun v90 S89 hP => ?_)
    obtain ⟨rfl, o91⟩ := hP
    refine zz_lor zd_3_6_113 (fun v92 hv92 ev92 => ?_)
    have g93 := zz_G.r G_S61 1076 1 0 1000000 rfl rfl
    refine zz_callVV [zl v92] zd_3_6_114 zk_Compiler_143 zT_1076 (zz_ltn hn rfl) rfl rfl ⟨Nat.le_of_ble_eq_true rfl, Nat.le_of_ble_eq_true rfl⟩ ⟨rfl, rfl⟩ (Nat.zero_le _) (Nat.zero_le _) (zc_emit_3_15 v92 S61 n hn G_S61 (by omega) (by omega)) (fun S94 hP => ?_)
    obtain ⟨G_S94, fS94, o96⟩ := hP
    have g97 := zz_G.r G_S61 1076 0 0 1 rfl rfl
    have F_S94 := zz_fr.trans F_S61 fS94 rfl (fun a i h => Or.inr (Or.inl (h ▸ zM_k4 (z := (S61 1076 0)) (by omega) rfl)))
    have b98 := zz_rf4 (z := (S61 1076 0)) (by omega)
    have g99 := zz_G.r G_S94 1076 1 0 1000000 rfl rfl
    exact zz_vret zd_3_6_117 rfl (Nat.zero_le _) (Nat.zero_le _) ⟨_, rfl, G_S94, F_S94, by omega⟩
theorem zk_Compiler_151 : mm_Vl "TensorForge$Compiler" 151 9 1 zy_loadParameters_3_6 := ⟨zyw_loadParameters_3_6, (R_Compiler, F_Compiler, 17), rfl, mm_tb_1 1424 (by decide +kernel) rfl, mm_tb_1 1426 (by decide +kernel) rfl, mm_tb_s 65 (by decide +kernel) rfl⟩
theorem zg_3_5_21 : zq_at zy_makeGroup_3_5.2.1 21 42 ∧ zq_at zy_makeGroup_3_5.2.1 22 42 ∧ zq_at zy_makeGroup_3_5.2.1 23 180 ∧ zq_at zy_makeGroup_3_5.2.1 24 0 ∧ zq_at zy_makeGroup_3_5.2.1 25 112 ∧ zq_at zy_makeGroup_3_5.2.1 26 182 ∧ zq_at zy_makeGroup_3_5.2.1 27 0 ∧ zq_at zy_makeGroup_3_5.2.1 28 155 ∧ zq_at zy_makeGroup_3_5.2.1 29 167 ∧ zq_at zy_makeGroup_3_5.2.1 30 0 ∧ zq_at zy_makeGroup_3_5.2.1 31 73 := by decide +kernel
theorem zd_3_5_21 : zz_D zy_makeGroup_3_5 21 (.aload_n 0) 1 22 := ⟨zq_42 zg_3_5_21.1, rfl⟩
theorem zd_3_5_22 : zz_D zy_makeGroup_3_5 22 (.aload_n 0) 1 23 := ⟨zq_42 zg_3_5_21.2.1, rfl⟩
theorem zd_3_5_23 : zz_D zy_makeGroup_3_5 23 (.getfield 112) 3 26 := ⟨zq_180 zg_3_5_21.2.2.1 zg_3_5_21.2.2.2.1 zg_3_5_21.2.2.2.2.1 rfl, rfl⟩
theorem zd_3_5_26 : zz_D zy_makeGroup_3_5 26 (.invokevirtual 155) 3 29 := ⟨zq_182 zg_3_5_21.2.2.2.2.2.1 zg_3_5_21.2.2.2.2.2.2.1 zg_3_5_21.2.2.2.2.2.2.2.1 rfl, rfl⟩
theorem zd_3_5_29 : zz_B zy_makeGroup_3_5 29 Instr.goto 102 32 := ⟨73, zq_167 zg_3_5_21.2.2.2.2.2.2.2.2.1 zg_3_5_21.2.2.2.2.2.2.2.2.2.1 zg_3_5_21.2.2.2.2.2.2.2.2.2.2 (by decide), rfl, rfl⟩
-- TensorForge$Compiler makeGroup (ZZ)V
abbrev zr_makeGroup_3_5 : Room := { frames := 3, cells := 0, slots := 0, locals := 48 }
def zp_makeGroup_3_5 (p0 : Int) (p1 : Int) (S0 : zz_S) : zz_S → Prop := fun S => zz_G S ∧ zz_fr [(1076, 1)] [1029, 1030] (fun _ _ => False) S0 S ∧ (S0 1076 1 ≤ S 1076 1 ∧ S 1076 1 ≤ S0 1076 1 + 7)
theorem zc_makeGroup_3_5 {g : mm_G} {l : Launch} (p0 : Int) (p1 : Int) (S0 : zz_S) (n : Nat) (hn : zz_end ≤ n) (G_S0 : zz_G S0) (hp0 : 0 ≤ p0 ∧ p0 ≤ 1) (hp1 : 0 ≤ p1 ∧ p1 ≤ 1) (hq : S0 1076 1 ≤ 950000) (hl : 0 ≤ S0 1076 3 ∧ 0 ≤ S0 1076 4 ∧ 0 ≤ S0 1076 5) : mm_Met g l zy_makeGroup_3_5 zr_makeGroup_3_5 [.ref 1076, zi p0, zi p1] (zz_M S0 n) n (zz_QV n (zp_makeGroup_3_5 p0 p1 S0)) := by
  refine zz_enter (by decide) (Nat.le_of_ble_eq_true rfl) (zz_less (ls1 := [some (.ref 1076), some (zi p0), some (zi p1)]) ⟨rfl, ⟨rfl, ⟨rfl, trivial⟩⟩⟩ ?_)
  have F_S0 : zz_fr [(1076, 1)] [1029, 1030] (fun _ _ => False) S0 S0 := zz_fr.refl
  refine zz_aload_n (x := 1076) rfl zd_3_5_0 ?_
  have g1 := zz_G.r G_S0 1076 1 0 1000000 rfl rfl
  refine zz_geti (z := S0 1076 1) zd_3_5_1 zf_Compiler_15 zT_1076 rfl (zz_ltn hn rfl) rfl ?_
  refine zz_istore_n [some (.ref 1076), some (zi p0), some (zi p1), some (zi (S0 1076 1))] zd_3_5_4 (by decide) rfl ?_
  refine zz_aload_n (x := 1076) rfl zd_3_5_5 ?_
  have g2 := zz_G.r G_S0 1076 3 (-1) 23 rfl rfl
  refine zz_getr (kd := 4) (z := S0 1076 3) zd_3_5_6 zf_Compiler_51 zT_1076 rfl (zz_ltn hn rfl) rfl (by omega) (zz_rf 6 (S0 1076 3)) rfl ?_
  have g3 := zz_G.r G_S0 (zz_rf 6 (S0 1076 3)) 0 (-2147483648) 2147483647 (zR_k6_0 (by omega)) (zB_k6 (by omega))
  refine zz_geti (z := S0 (zz_rf 6 (S0 1076 3)) 0) zd_3_5_9 zf_Compiler_61 (zT_k6 (by omega)) rfl (zN_k6 hn (by omega)) rfl ?_
  refine zz_iconst zd_3_5_12 ?_
  refine zz_icmp_ne (by omega) (by omega) zd_3_5_13 (fun c4 => ?_) (fun c4 => ?_)
  · refine zz_aload_n (x := 1076) rfl zd_3_5_32 ?_
    refine zz_getr (kd := 4) (z := S0 1076 3) zd_3_5_33 zf_Compiler_51 zT_1076 rfl (zz_ltn hn rfl) rfl (by omega) (zz_rf 6 (S0 1076 3)) rfl ?_
    refine zz_geti (z := S0 (zz_rf 6 (S0 1076 3)) 0) zd_3_5_36 zf_Compiler_61 (zT_k6 (by omega)) rfl (zN_k6 hn (by omega)) rfl ?_
    refine zz_iconst zd_3_5_39 ?_
    refine zz_icmp_ne (by omega) (by omega) zd_3_5_40 (fun c5 => ?_) (fun c5 => ?_)
    · refine zz_aload_n (x := 1076) rfl zd_3_5_54 ?_
      have g6 := zz_G.r G_S0 1076 14 (-2147483648) 2147483647 rfl rfl
      refine zz_geti (z := S0 1076 14) zd_3_5_55 zf_Compiler_109 zT_1076 rfl (zz_ltn hn rfl) rfl ?_
      refine zz_if_ne (by omega) zd_3_5_58 (fun c7 => ?_) (fun c7 => ?_)
      · refine zz_aload_n (x := 1076) rfl zd_3_5_68 ?_
        have g8 := zz_G.r G_S0 1076 5 (-1) 23 rfl rfl
        refine zz_getr (kd := 4) (z := S0 1076 5) zd_3_5_69 zf_Compiler_58 zT_1076 rfl (zz_ltn hn rfl) rfl (by omega) (zz_rf 6 (S0 1076 5)) rfl ?_
        refine zz_astore [some (.ref 1076), some (zi p0), some (zi p1), some (zi (S0 1076 1)), some (.ref (zz_rf 6 (S0 1076 5)))] zd_3_5_72 (by decide) rfl ?_
        refine zz_aload_n (x := 1076) rfl zd_3_5_74 ?_
        refine zz_iconst zd_3_5_75 ?_
        refine zz_aload_n (x := 1076) rfl zd_3_5_76 ?_
        have g9 := zz_G.r G_S0 1076 11 (-2147483648) 2147483647 rfl rfl
        refine zz_geti (z := S0 1076 11) zd_3_5_77 zf_Compiler_91 zT_1076 rfl (zz_ltn hn rfl) rfl ?_
        refine zz_aload (x := zz_rf 6 (S0 1076 5)) rfl zd_3_5_80 ?_
        refine zz_iconst zd_3_5_82 ?_
        refine zz_aload_n (x := 1076) rfl zd_3_5_83 ?_
        have g10 := zz_G.r G_S0 1076 10 (-2147483648) 2147483647 rfl rfl
        refine zz_geti (z := S0 1076 10) zd_3_5_84 zf_Compiler_88 zT_1076 rfl (zz_ltn hn rfl) rfl ?_
        refine zz_aload_n (x := 1076) rfl zd_3_5_87 ?_
        have g11 := zz_G.r G_S0 1076 7 (-2147483648) 2147483647 rfl rfl
        refine zz_geti (z := S0 1076 7) zd_3_5_88 zf_Compiler_76 zT_1076 rfl (zz_ltn hn rfl) rfl ?_
        refine zz_callVI [zi 0, zi (S0 1076 10), zi (S0 1076 7)] zd_3_5_91 zk_Compiler_147 (zT_k6 (by omega)) (zN_k6 hn (by omega)) rfl rfl ⟨Nat.le_of_ble_eq_true rfl, Nat.le_of_ble_eq_true rfl⟩ ⟨rfl, rfl⟩ (Nat.zero_le _) (Nat.zero_le _) (zc_cellAt_4_15 (S0 1076 5) 0 (S0 1076 10) (S0 1076 7) S0 n hn G_S0 (by omega) (by omega) (by omega) (by omega)) (fun v13 S12 hP => ?_)
        obtain ⟨rfl, o14⟩ := hP
        refine zz_aload (x := zz_rf 6 (S0 1076 5)) rfl zd_3_5_94 ?_
        have g15 := zz_G.r G_S0 (zz_rf 6 (S0 1076 5)) 12 (-2147483648) 2147483647 (zR_k6_12 (by omega)) (zB_k6 (by omega))
        refine zz_geti (z := S0 (zz_rf 6 (S0 1076 5)) 12) zd_3_5_96 zf_Compiler_79 (zT_k6 (by omega)) rfl (zN_k6 hn (by omega)) rfl ?_
        have g16 := zz_G.r G_S0 1076 4 (-1) 23 rfl rfl
        refine zz_callVV [zi 0, zi (S0 1076 11), zi v13, zi (S0 (zz_rf 6 (S0 1076 5)) 12)] zd_3_5_99 zk_Compiler_159 zT_1076 (zz_ltn hn rfl) rfl rfl ⟨Nat.le_of_ble_eq_true rfl, Nat.le_of_ble_eq_true rfl⟩ ⟨rfl, rfl⟩ (Nat.zero_le _) (Nat.zero_le _) (zc_loadPlaces_3_10 0 (S0 1076 11) v13 (S0 (zz_rf 6 (S0 1076 5)) 12) S0 n hn G_S0 (by omega) (by omega) (by omega) (by omega) (by omega) (by omega)) (fun S17 hP => ?_)
        obtain ⟨G_S17, fS17, o19⟩ := hP
        have g20 := zz_G.r G_S0 1076 0 0 1 rfl rfl
        have F_S17 := zz_fr.trans F_S0 fS17 rfl (fun a i h => Or.inr (Or.inl (h ▸ zM_k4 (z := (S0 1076 0)) (by omega) rfl)))
        have b21 := zz_rf4 (z := (S0 1076 0)) (by omega)
        refine zz_aload_n (x := 1076) rfl zd_3_5_102 ?_
        have g22 := zz_G.r G_S0 1076 12 (-2147483648) 2147483647 rfl rfl
        refine zz_geti (z := S0 1076 12) zd_3_5_103 zf_Compiler_73 zT_1076 rfl (zz_ltn hn rfl) (zz_rc fS17 rfl rfl (by first | decide | omega) rfl) ?_
        refine zz_iconst zd_3_5_106 ?_
        refine zz_icmp_le (by omega) (by omega) zd_3_5_107 (fun c23 => ?_) (fun c23 => ?_)
        · refine zz_aload_n (x := 1076) rfl zd_3_5_116 ?_
          refine zz_aload_n (x := 1076) rfl zd_3_5_117 ?_
          have g24 := zz_G.r G_S17 1076 1 0 1000000 rfl rfl
          refine zz_geti (z := S17 1076 1) zd_3_5_118 zf_Compiler_15 zT_1076 rfl (zz_ltn hn rfl) rfl ?_
          refine zz_iconst zd_3_5_121 ?_
          refine zz_isub zd_3_5_122 ?_
          refine zz_iconst zd_3_5_123 ?_
          refine zz_callVV [zi ((S17 1076 1) - 1), zi 4] zd_3_5_124 zk_Compiler_163 zT_1076 (zz_ltn hn rfl) rfl rfl ⟨Nat.le_of_ble_eq_true rfl, Nat.le_of_ble_eq_true rfl⟩ ⟨rfl, rfl⟩ (Nat.zero_le _) (Nat.zero_le _) (zc_mark_3_16 ((S17 1076 1) - 1) 4 S17 n hn G_S17 (by omega) (by omega)) (fun S25 hP => ?_)
          obtain ⟨G_S25, fS25⟩ := hP
          have g27 := zz_G.r G_S17 1076 0 0 1 rfl rfl
          have F_S25 := zz_fr.trans F_S17 fS25 rfl (fun a i h => Or.inr (Or.inl (h ▸ zM_k4 (z := (S17 1076 0)) (by omega) rfl)))
          have b28 := zz_rf4 (z := (S17 1076 0)) (by omega)
          refine zz_aload_n (x := 1076) rfl zd_3_5_127 ?_
          refine zz_iload_n (x := p0) rfl zd_3_5_128 ?_
          have e29 : S25 1076 3 = S0 1076 3 := (zz_rc fS25 rfl rfl (by first | decide | omega) (zz_rc fS17 rfl rfl (by first | decide | omega) rfl))
          have e30 : S25 1076 4 = S0 1076 4 := (zz_rc fS25 rfl rfl (by first | decide | omega) (zz_rc fS17 rfl rfl (by first | decide | omega) rfl))
          have e31 : S25 1076 5 = S0 1076 5 := (zz_rc fS25 rfl rfl (by first | decide | omega) (zz_rc fS17 rfl rfl (by first | decide | omega) rfl))
          refine zz_callVJ [zi p0] zd_3_5_129 zk_Compiler_167 zT_1076 (zz_ltn hn rfl) rfl rfl ⟨Nat.le_of_ble_eq_true rfl, Nat.le_of_ble_eq_true rfl⟩ ⟨rfl, rfl⟩ (Nat.zero_le _) (Nat.zero_le _) (zc_workOf_3_11 p0 S25 n hn G_S25 (by omega) (by omega)) (fun v33 S32 hP => ?_)
          obtain ⟨rfl, o34⟩ := hP
          refine zz_iconst zd_3_5_132 ?_
          refine zz_callSJ [zi 1] zd_3_5_133 zk_Compiler_139 rfl rfl ⟨Nat.le_of_ble_eq_true rfl, Nat.le_of_ble_eq_true rfl⟩ ⟨rfl, rfl⟩ (Nat.zero_le _) (Nat.zero_le _) (zc_flag_12_5 1 S25 n hn G_S25 (by omega)) (fun v36 S35 hP => ?_)
          obtain ⟨rfl, o37⟩ := hP
          refine zz_lor zd_3_5_136 (fun v38 hv38 ev38 => ?_)
          refine zz_lstore [some (.ref 1076), some (zi p0), some (zi p1), some (zi (S0 1076 1)), some (zl v38), none] zd_3_5_137 (by decide) rfl ?_
          refine zz_aload_n (x := 1076) rfl zd_3_5_139 ?_
          refine zz_iload_n (x := p1) rfl zd_3_5_140 ?_
          refine zz_if_eq (by omega) zd_3_5_141 (fun c39 => ?_) (fun c39 => ?_)
          · refine zz_lload (x := v38) rfl zd_3_5_149 ?_
            refine zz_iconst zd_3_5_151 ?_
            refine zz_callSJ [zi 3] zd_3_5_152 zk_Compiler_139 rfl rfl ⟨Nat.le_of_ble_eq_true rfl, Nat.le_of_ble_eq_true rfl⟩ ⟨rfl, rfl⟩ (Nat.zero_le _) (Nat.zero_le _) (zc_flag_12_5 3 S25 n hn G_S25 (by omega)) (fun v41 S40 hP => ?_)
            obtain ⟨rfl, o42⟩ := hP
            refine zz_lor zd_3_5_155 (fun v43 hv43 ev43 => ?_)
            have e44 : S25 1076 1 = S17 1076 1 := (zz_rc fS25 rfl rfl (by first | decide | omega) rfl)
            refine zz_callVV [zl v43] zd_3_5_156 zk_Compiler_143 zT_1076 (zz_ltn hn rfl) rfl rfl ⟨Nat.le_of_ble_eq_true rfl, Nat.le_of_ble_eq_true rfl⟩ ⟨rfl, rfl⟩ (Nat.zero_le _) (Nat.zero_le _) (zc_emit_3_15 v43 S25 n hn G_S25 (by omega) (by omega)) (fun S45 hP => ?_)
            obtain ⟨G_S45, fS45, o47⟩ := hP
            have g48 := zz_G.r G_S25 1076 0 0 1 rfl rfl
            have F_S45 := zz_fr.trans F_S25 fS45 rfl (fun a i h => Or.inr (Or.inl (h ▸ zM_k4 (z := (S25 1076 0)) (by omega) rfl)))
            have b49 := zz_rf4 (z := (S25 1076 0)) (by omega)
            have g50 := zz_G.r G_S45 1076 1 0 1000000 rfl rfl
            exact zz_vret zd_3_5_159 rfl (Nat.zero_le _) (Nat.zero_le _) ⟨_, rfl, G_S45, F_S45, by omega⟩
          · refine zz_lload (x := v38) rfl zd_3_5_144 ?_
            refine zz_goto zd_3_5_146 ?_
            have e51 : S25 1076 1 = S17 1076 1 := (zz_rc fS25 rfl rfl (by first | decide | omega) rfl)
            refine zz_callVV [zl v38] zd_3_5_156 zk_Compiler_143 zT_1076 (zz_ltn hn rfl) rfl rfl ⟨Nat.le_of_ble_eq_true rfl, Nat.le_of_ble_eq_true rfl⟩ ⟨rfl, rfl⟩ (Nat.zero_le _) (Nat.zero_le _) (zc_emit_3_15 v38 S25 n hn G_S25 (by omega) (by omega)) (fun S52 hP => ?_)
            obtain ⟨G_S52, fS52, o54⟩ := hP
            have g55 := zz_G.r G_S25 1076 0 0 1 rfl rfl
            have F_S52 := zz_fr.trans F_S25 fS52 rfl (fun a i h => Or.inr (Or.inl (h ▸ zM_k4 (z := (S25 1076 0)) (by omega) rfl)))
            have b56 := zz_rf4 (z := (S25 1076 0)) (by omega)
            have g57 := zz_G.r G_S52 1076 1 0 1000000 rfl rfl
            exact zz_vret zd_3_5_159 rfl (Nat.zero_le _) (Nat.zero_le _) ⟨_, rfl, G_S52, F_S52, by omega⟩
        · refine zz_aload_n (x := 1076) rfl zd_3_5_110 ?_
          refine zz_iload_n (x := S0 1076 1) rfl zd_3_5_111 ?_
          refine zz_iconst zd_3_5_112 ?_
          refine zz_callVV [zi (S0 1076 1), zi 2] zd_3_5_113 zk_Compiler_163 zT_1076 (zz_ltn hn rfl) rfl rfl ⟨Nat.le_of_ble_eq_true rfl, Nat.le_of_ble_eq_true rfl⟩ ⟨rfl, rfl⟩ (Nat.zero_le _) (Nat.zero_le _) (zc_mark_3_16 (S0 1076 1) 2 S17 n hn G_S17 (by omega) (by omega)) (fun S58 hP => ?_)
          obtain ⟨G_S58, fS58⟩ := hP
          have g60 := zz_G.r G_S17 1076 0 0 1 rfl rfl
          have F_S58 := zz_fr.trans F_S17 fS58 rfl (fun a i h => Or.inr (Or.inl (h ▸ zM_k4 (z := (S17 1076 0)) (by omega) rfl)))
          have b61 := zz_rf4 (z := (S17 1076 0)) (by omega)
          refine zz_aload_n (x := 1076) rfl zd_3_5_116 ?_
          refine zz_aload_n (x := 1076) rfl zd_3_5_117 ?_
          have g62 := zz_G.r G_S17 1076 1 0 1000000 rfl rfl
          refine zz_geti (z := S17 1076 1) zd_3_5_118 zf_Compiler_15 zT_1076 rfl (zz_ltn hn rfl) (zz_rc fS58 rfl rfl (by first | decide | omega) rfl) ?_
          refine zz_iconst zd_3_5_121 ?_
          refine zz_isub zd_3_5_122 ?_
          refine zz_iconst zd_3_5_123 ?_
          refine zz_callVV [zi ((S17 1076 1) - 1), zi 4] zd_3_5_124 zk_Compiler_163 zT_1076 (zz_ltn hn rfl) rfl rfl ⟨Nat.le_of_ble_eq_true rfl, Nat.le_of_ble_eq_true rfl⟩ ⟨rfl, rfl⟩ (Nat.zero_le _) (Nat.zero_le _) (zc_mark_3_16 ((S17 1076 1) - 1) 4 S58 n hn G_S58 (by omega) (by omega)) (fun S63 hP => ?_)
          obtain ⟨G_S63, fS63⟩ := hP
          have g65 := zz_G.r G_S58 1076 0 0 1 rfl rfl
          have F_S63 := zz_fr.trans F_S58 fS63 rfl (fun a i h => Or.inr (Or.inl (h ▸ zM_k4 (z := (S58 1076 0)) (by omega) rfl)))
          have b66 := zz_rf4 (z := (S58 1076 0)) (by omega)
          refine zz_aload_n (x := 1076) rfl zd_3_5_127 ?_
          refine zz_iload_n (x := p0) rfl zd_3_5_128 ?_
          have e67 : S63 1076 3 = S0 1076 3 := (zz_rc fS63 rfl rfl (by first | decide | omega) (zz_rc fS58 rfl rfl (by first | decide | omega) (zz_rc fS17 rfl rfl (by first | decide | omega) rfl)))
          have e68 : S63 1076 4 = S0 1076 4 := (zz_rc fS63 rfl rfl (by first | decide | omega) (zz_rc fS58 rfl rfl (by first | decide | omega) (zz_rc fS17 rfl rfl (by first | decide | omega) rfl)))
          have e69 : S63 1076 5 = S0 1076 5 := (zz_rc fS63 rfl rfl (by first | decide | omega) (zz_rc fS58 rfl rfl (by first | decide | omega) (zz_rc fS17 rfl rfl (by first | decide | omega) rfl)))
          refine zz_callVJ [zi p0] zd_3_5_129 zk_Compiler_167 zT_1076 (zz_ltn hn rfl) rfl rfl ⟨Nat.le_of_ble_eq_true rfl, Nat.le_of_ble_eq_true rfl⟩ ⟨rfl, rfl⟩ (Nat.zero_le _) (Nat.zero_le _) (zc_workOf_3_11 p0 S63 n hn G_S63 (by omega) (by omega)) (fun v71 S70 hP => ?_)
          obtain ⟨rfl, o72⟩ := hP
          refine zz_iconst zd_3_5_132 ?_
          refine zz_callSJ [zi 1] zd_3_5_133 zk_Compiler_139 rfl rfl ⟨Nat.le_of_ble_eq_true rfl, Nat.le_of_ble_eq_true rfl⟩ ⟨rfl, rfl⟩ (Nat.zero_le _) (Nat.zero_le _) (zc_flag_12_5 1 S63 n hn G_S63 (by omega)) (fun v74 S73 hP => ?_)
          obtain ⟨rfl, o75⟩ := hP
          refine zz_lor zd_3_5_136 (fun v76 hv76 ev76 => ?_)
          refine zz_lstore [some (.ref 1076), some (zi p0), some (zi p1), some (zi (S0 1076 1)), some (zl v76), none] zd_3_5_137 (by decide) rfl ?_
          refine zz_aload_n (x := 1076) rfl zd_3_5_139 ?_
          refine zz_iload_n (x := p1) rfl zd_3_5_140 ?_
          refine zz_if_eq (by omega) zd_3_5_141 (fun c77 => ?_) (fun c77 => ?_)
          · refine zz_lload (x := v76) rfl zd_3_5_149 ?_
            refine zz_iconst zd_3_5_151 ?_
            refine zz_callSJ [zi 3] zd_3_5_152 zk_Compiler_139 rfl rfl ⟨Nat.le_of_ble_eq_true rfl, Nat.le_of_ble_eq_true rfl⟩ ⟨rfl, rfl⟩ (Nat.zero_le _) (Nat.zero_le _) (zc_flag_12_5 3 S63 n hn G_S63 (by omega)) (fun v79 S78 hP => ?_)
            obtain ⟨rfl, o80⟩ := hP
            refine zz_lor zd_3_5_155 (fun v81 hv81 ev81 => ?_)
            have e82 : S63 1076 1 = S17 1076 1 := (zz_rc fS63 rfl rfl (by first | decide | omega) (zz_rc fS58 rfl rfl (by first | decide | omega) rfl))
            refine zz_callVV [zl v81] zd_3_5_156 zk_Compiler_143 zT_1076 (zz_ltn hn rfl) rfl rfl ⟨Nat.le_of_ble_eq_true rfl, Nat.le_of_ble_eq_true rfl⟩ ⟨rfl, rfl⟩ (Nat.zero_le _) (Nat.zero_le _) (zc_emit_3_15 v81 S63 n hn G_S63 (by omega) (by omega)) (fun S83 hP => ?_)
            obtain ⟨G_S83, fS83, o85⟩ := hP
            have g86 := zz_G.r G_S63 1076 0 0 1 rfl rfl
            have F_S83 := zz_fr.trans F_S63 fS83 rfl (fun a i h => Or.inr (Or.inl (h ▸ zM_k4 (z := (S63 1076 0)) (by omega) rfl)))
            have b87 := zz_rf4 (z := (S63 1076 0)) (by omega)
            have g88 := zz_G.r G_S83 1076 1 0 1000000 rfl rfl
            exact zz_vret zd_3_5_159 rfl (Nat.zero_le _) (Nat.zero_le _) ⟨_, rfl, G_S83, F_S83, by omega⟩
          · refine zz_lload (x := v76) rfl zd_3_5_144 ?_
            refine zz_goto zd_3_5_146 ?_
            have e89 : S63 1076 1 = S17 1076 1 := (zz_rc fS63 rfl rfl (by first | decide | omega) (zz_rc fS58 rfl rfl (by first | decide | omega) rfl))
            refine zz_callVV [zl v76] zd_3_5_156 zk_Compiler_143 zT_1076 (zz_ltn hn rfl) rfl rfl ⟨Nat.le_of_ble_eq_true rfl, Nat.le_of_ble_eq_true rfl⟩ ⟨rfl, rfl⟩ (Nat.zero_le _) (Nat.zero_le _) (zc_emit_3_15 v76 S63 n hn G_S63 (by omega) (by omega)) (fun S90 hP => ?_)
            obtain ⟨G_S90, fS90, o92⟩ := hP
            have g93 := zz_G.r G_S63 1076 0 0 1 rfl rfl
            have F_S90 := zz_fr.trans F_S63 fS90 rfl (fun a i h => Or.inr (Or.inl (h ▸ zM_k4 (z := (S63 1076 0)) (by omega) rfl)))
            have b94 := zz_rf4 (z := (S63 1076 0)) (by omega)
            have g95 := zz_G.r G_S90 1076 1 0 1000000 rfl rfl
            exact zz_vret zd_3_5_159 rfl (Nat.zero_le _) (Nat.zero_le _) ⟨_, rfl, G_S90, F_S90, by omega⟩
      · refine zz_aload_n (x := 1076) rfl zd_3_5_61 ?_
        have g96 := zz_G.r G_S0 1076 4 (-1) 23 rfl rfl
        refine zz_getr (kd := 4) (z := S0 1076 4) zd_3_5_62 zf_Compiler_55 zT_1076 rfl (zz_ltn hn rfl) rfl (by omega) (zz_rf 6 (S0 1076 4)) rfl ?_
        refine zz_goto zd_3_5_65 ?_
        refine zz_astore [some (.ref 1076), some (zi p0), some (zi p1), some (zi (S0 1076 1)), some (.ref (zz_rf 6 (S0 1076 4)))] zd_3_5_72 (by decide) rfl ?_
        refine zz_aload_n (x := 1076) rfl zd_3_5_74 ?_
        refine zz_iconst zd_3_5_75 ?_
        refine zz_aload_n (x := 1076) rfl zd_3_5_76 ?_
        have g97 := zz_G.r G_S0 1076 11 (-2147483648) 2147483647 rfl rfl
        refine zz_geti (z := S0 1076 11) zd_3_5_77 zf_Compiler_91 zT_1076 rfl (zz_ltn hn rfl) rfl ?_
        refine zz_aload (x := zz_rf 6 (S0 1076 4)) rfl zd_3_5_80 ?_
        refine zz_iconst zd_3_5_82 ?_
        refine zz_aload_n (x := 1076) rfl zd_3_5_83 ?_
        have g98 := zz_G.r G_S0 1076 10 (-2147483648) 2147483647 rfl rfl
        refine zz_geti (z := S0 1076 10) zd_3_5_84 zf_Compiler_88 zT_1076 rfl (zz_ltn hn rfl) rfl ?_
        refine zz_aload_n (x := 1076) rfl zd_3_5_87 ?_
        have g99 := zz_G.r G_S0 1076 7 (-2147483648) 2147483647 rfl rfl
        refine zz_geti (z := S0 1076 7) zd_3_5_88 zf_Compiler_76 zT_1076 rfl (zz_ltn hn rfl) rfl ?_
        refine zz_callVI [zi 0, zi (S0 1076 10), zi (S0 1076 7)] zd_3_5_91 zk_Compiler_147 (zT_k6 (by omega)) (zN_k6 hn (by omega)) rfl rfl ⟨Nat.le_of_ble_eq_true rfl, Nat.le_of_ble_eq_true rfl⟩ ⟨rfl, rfl⟩ (Nat.zero_le _) (Nat.zero_le _) (zc_cellAt_4_15 (S0 1076 4) 0 (S0 1076 10) (S0 1076 7) S0 n hn G_S0 (by omega) (by omega) (by omega) (by omega)) (fun v101 S100 hP => ?_)
        obtain ⟨rfl, o102⟩ := hP
        refine zz_aload (x := zz_rf 6 (S0 1076 4)) rfl zd_3_5_94 ?_
        have g103 := zz_G.r G_S0 (zz_rf 6 (S0 1076 4)) 12 (-2147483648) 2147483647 (zR_k6_12 (by omega)) (zB_k6 (by omega))
        refine zz_geti (z := S0 (zz_rf 6 (S0 1076 4)) 12) zd_3_5_96 zf_Compiler_79 (zT_k6 (by omega)) rfl (zN_k6 hn (by omega)) rfl ?_
        have g104 := zz_G.r G_S0 1076 5 (-1) 23 rfl rfl
        refine zz_callVV [zi 0, zi (S0 1076 11), zi v101, zi (S0 (zz_rf 6 (S0 1076 4)) 12)] zd_3_5_99 zk_Compiler_159 zT_1076 (zz_ltn hn rfl) rfl rfl ⟨Nat.le_of_ble_eq_true rfl, Nat.le_of_ble_eq_true rfl⟩ ⟨rfl, rfl⟩ (Nat.zero_le _) (Nat.zero_le _) (zc_loadPlaces_3_10 0 (S0 1076 11) v101 (S0 (zz_rf 6 (S0 1076 4)) 12) S0 n hn G_S0 (by omega) (by omega) (by omega) (by omega) (by omega) (by omega)) (fun S105 hP => ?_)
        obtain ⟨G_S105, fS105, o107⟩ := hP
        have g108 := zz_G.r G_S0 1076 0 0 1 rfl rfl
        have F_S105 := zz_fr.trans F_S0 fS105 rfl (fun a i h => Or.inr (Or.inl (h ▸ zM_k4 (z := (S0 1076 0)) (by omega) rfl)))
        have b109 := zz_rf4 (z := (S0 1076 0)) (by omega)
        refine zz_aload_n (x := 1076) rfl zd_3_5_102 ?_
        have g110 := zz_G.r G_S0 1076 12 (-2147483648) 2147483647 rfl rfl
        refine zz_geti (z := S0 1076 12) zd_3_5_103 zf_Compiler_73 zT_1076 rfl (zz_ltn hn rfl) (zz_rc fS105 rfl rfl (by first | decide | omega) rfl) ?_
        refine zz_iconst zd_3_5_106 ?_
        refine zz_icmp_le (by omega) (by omega) zd_3_5_107 (fun c111 => ?_) (fun c111 => ?_)
        · refine zz_aload_n (x := 1076) rfl zd_3_5_116 ?_
          refine zz_aload_n (x := 1076) rfl zd_3_5_117 ?_
          have g112 := zz_G.r G_S105 1076 1 0 1000000 rfl rfl
          refine zz_geti (z := S105 1076 1) zd_3_5_118 zf_Compiler_15 zT_1076 rfl (zz_ltn hn rfl) rfl ?_
          refine zz_iconst zd_3_5_121 ?_
          refine zz_isub zd_3_5_122 ?_
          refine zz_iconst zd_3_5_123 ?_
          refine zz_callVV [zi ((S105 1076 1) - 1), zi 4] zd_3_5_124 zk_Compiler_163 zT_1076 (zz_ltn hn rfl) rfl rfl ⟨Nat.le_of_ble_eq_true rfl, Nat.le_of_ble_eq_true rfl⟩ ⟨rfl, rfl⟩ (Nat.zero_le _) (Nat.zero_le _) (zc_mark_3_16 ((S105 1076 1) - 1) 4 S105 n hn G_S105 (by omega) (by omega)) (fun S113 hP => ?_)
          obtain ⟨G_S113, fS113⟩ := hP
          have g115 := zz_G.r G_S105 1076 0 0 1 rfl rfl
          have F_S113 := zz_fr.trans F_S105 fS113 rfl (fun a i h => Or.inr (Or.inl (h ▸ zM_k4 (z := (S105 1076 0)) (by omega) rfl)))
          have b116 := zz_rf4 (z := (S105 1076 0)) (by omega)
          refine zz_aload_n (x := 1076) rfl zd_3_5_127 ?_
          refine zz_iload_n (x := p0) rfl zd_3_5_128 ?_
          have e117 : S113 1076 3 = S0 1076 3 := (zz_rc fS113 rfl rfl (by first | decide | omega) (zz_rc fS105 rfl rfl (by first | decide | omega) rfl))
          have e118 : S113 1076 4 = S0 1076 4 := (zz_rc fS113 rfl rfl (by first | decide | omega) (zz_rc fS105 rfl rfl (by first | decide | omega) rfl))
          have e119 : S113 1076 5 = S0 1076 5 := (zz_rc fS113 rfl rfl (by first | decide | omega) (zz_rc fS105 rfl rfl (by first | decide | omega) rfl))
          refine zz_callVJ [zi p0] zd_3_5_129 zk_Compiler_167 zT_1076 (zz_ltn hn rfl) rfl rfl ⟨Nat.le_of_ble_eq_true rfl, Nat.le_of_ble_eq_true rfl⟩ ⟨rfl, rfl⟩ (Nat.zero_le _) (Nat.zero_le _) (zc_workOf_3_11 p0 S113 n hn G_S113 (by omega) (by omega)) (fun v121 S120 hP => ?_)
          obtain ⟨rfl, o122⟩ := hP
          refine zz_iconst zd_3_5_132 ?_
          refine zz_callSJ [zi 1] zd_3_5_133 zk_Compiler_139 rfl rfl ⟨Nat.le_of_ble_eq_true rfl, Nat.le_of_ble_eq_true rfl⟩ ⟨rfl, rfl⟩ (Nat.zero_le _) (Nat.zero_le _) (zc_flag_12_5 1 S113 n hn G_S113 (by omega)) (fun v124 S123 hP => ?_)
          obtain ⟨rfl, o125⟩ := hP
          refine zz_lor zd_3_5_136 (fun v126 hv126 ev126 => ?_)
          refine zz_lstore [some (.ref 1076), some (zi p0), some (zi p1), some (zi (S0 1076 1)), some (zl v126), none] zd_3_5_137 (by decide) rfl ?_
          refine zz_aload_n (x := 1076) rfl zd_3_5_139 ?_
          refine zz_iload_n (x := p1) rfl zd_3_5_140 ?_
          refine zz_if_eq (by omega) zd_3_5_141 (fun c127 => ?_) (fun c127 => ?_)
          · refine zz_lload (x := v126) rfl zd_3_5_149 ?_
            refine zz_iconst zd_3_5_151 ?_
            refine zz_callSJ [zi 3] zd_3_5_152 zk_Compiler_139 rfl rfl ⟨Nat.le_of_ble_eq_true rfl, Nat.le_of_ble_eq_true rfl⟩ ⟨rfl, rfl⟩ (Nat.zero_le _) (Nat.zero_le _) (zc_flag_12_5 3 S113 n hn G_S113 (by omega)) (fun v129 S128 hP => ?_)
            obtain ⟨rfl, o130⟩ := hP
            refine zz_lor zd_3_5_155 (fun v131 hv131 ev131 => ?_)
            have e132 : S113 1076 1 = S105 1076 1 := (zz_rc fS113 rfl rfl (by first | decide | omega) rfl)
            refine zz_callVV [zl v131] zd_3_5_156 zk_Compiler_143 zT_1076 (zz_ltn hn rfl) rfl rfl ⟨Nat.le_of_ble_eq_true rfl, Nat.le_of_ble_eq_true rfl⟩ ⟨rfl, rfl⟩ (Nat.zero_le _) (Nat.zero_le _) (zc_emit_3_15 v131 S113 n hn G_S113 (by omega) (by omega)) (fun S133 hP => ?_)
            obtain ⟨G_S133, fS133, o135⟩ := hP
            have g136 := zz_G.r G_S113 1076 0 0 1 rfl rfl
            have F_S133 := zz_fr.trans F_S113 fS133 rfl (fun a i h => Or.inr (Or.inl (h ▸ zM_k4 (z := (S113 1076 0)) (by omega) rfl)))
            have b137 := zz_rf4 (z := (S113 1076 0)) (by omega)
            have g138 := zz_G.r G_S133 1076 1 0 1000000 rfl rfl
            exact zz_vret zd_3_5_159 rfl (Nat.zero_le _) (Nat.zero_le _) ⟨_, rfl, G_S133, F_S133, by omega⟩
          · refine zz_lload (x := v126) rfl zd_3_5_144 ?_
            refine zz_goto zd_3_5_146 ?_
            have e139 : S113 1076 1 = S105 1076 1 := (zz_rc fS113 rfl rfl (by first | decide | omega) rfl)
            refine zz_callVV [zl v126] zd_3_5_156 zk_Compiler_143 zT_1076 (zz_ltn hn rfl) rfl rfl ⟨Nat.le_of_ble_eq_true rfl, Nat.le_of_ble_eq_true rfl⟩ ⟨rfl, rfl⟩ (Nat.zero_le _) (Nat.zero_le _) (zc_emit_3_15 v126 S113 n hn G_S113 (by omega) (by omega)) (fun S140 hP => ?_)
            obtain ⟨G_S140, fS140, o142⟩ := hP
            have g143 := zz_G.r G_S113 1076 0 0 1 rfl rfl
            have F_S140 := zz_fr.trans F_S113 fS140 rfl (fun a i h => Or.inr (Or.inl (h ▸ zM_k4 (z := (S113 1076 0)) (by omega) rfl)))
            have b144 := zz_rf4 (z := (S113 1076 0)) (by omega)
            have g145 := zz_G.r G_S140 1076 1 0 1000000 rfl rfl
            exact zz_vret zd_3_5_159 rfl (Nat.zero_le _) (Nat.zero_le _) ⟨_, rfl, G_S140, F_S140, by omega⟩
        · refine zz_aload_n (x := 1076) rfl zd_3_5_110 ?_
          refine zz_iload_n (x := S0 1076 1) rfl zd_3_5_111 ?_
          refine zz_iconst zd_3_5_112 ?_
          refine zz_callVV [zi (S0 1076 1), zi 2] zd_3_5_113 zk_Compiler_163 zT_1076 (zz_ltn hn rfl) rfl rfl ⟨Nat.le_of_ble_eq_true rfl, Nat.le_of_ble_eq_true rfl⟩ ⟨rfl, rfl⟩ (Nat.zero_le _) (Nat.zero_le _) (zc_mark_3_16 (S0 1076 1) 2 S105 n hn G_S105 (by omega) (by omega)) (fun S146 hP => ?_)
          obtain ⟨G_S146, fS146⟩ := hP
          have g148 := zz_G.r G_S105 1076 0 0 1 rfl rfl
          have F_S146 := zz_fr.trans F_S105 fS146 rfl (fun a i h => Or.inr (Or.inl (h ▸ zM_k4 (z := (S105 1076 0)) (by omega) rfl)))
          have b149 := zz_rf4 (z := (S105 1076 0)) (by omega)
          refine zz_aload_n (x := 1076) rfl zd_3_5_116 ?_
          refine zz_aload_n (x := 1076) rfl zd_3_5_117 ?_
          have g150 := zz_G.r G_S105 1076 1 0 1000000 rfl rfl
          refine zz_geti (z := S105 1076 1) zd_3_5_118 zf_Compiler_15 zT_1076 rfl (zz_ltn hn rfl) (zz_rc fS146 rfl rfl (by first | decide | omega) rfl) ?_
          refine zz_iconst zd_3_5_121 ?_
          refine zz_isub zd_3_5_122 ?_
          refine zz_iconst zd_3_5_123 ?_
          refine zz_callVV [zi ((S105 1076 1) - 1), zi 4] zd_3_5_124 zk_Compiler_163 zT_1076 (zz_ltn hn rfl) rfl rfl ⟨Nat.le_of_ble_eq_true rfl, Nat.le_of_ble_eq_true rfl⟩ ⟨rfl, rfl⟩ (Nat.zero_le _) (Nat.zero_le _) (zc_mark_3_16 ((S105 1076 1) - 1) 4 S146 n hn G_S146 (by omega) (by omega)) (fun S151 hP => ?_)
          obtain ⟨G_S151, fS151⟩ := hP
          have g153 := zz_G.r G_S146 1076 0 0 1 rfl rfl
          have F_S151 := zz_fr.trans F_S146 fS151 rfl (fun a i h => Or.inr (Or.inl (h ▸ zM_k4 (z := (S146 1076 0)) (by omega) rfl)))
          have b154 := zz_rf4 (z := (S146 1076 0)) (by omega)
          refine zz_aload_n (x := 1076) rfl zd_3_5_127 ?_
          refine zz_iload_n (x := p0) rfl zd_3_5_128 ?_
          have e155 : S151 1076 3 = S0 1076 3 := (zz_rc fS151 rfl rfl (by first | decide | omega) (zz_rc fS146 rfl rfl (by first | decide | omega) (zz_rc fS105 rfl rfl (by first | decide | omega) rfl)))
          have e156 : S151 1076 4 = S0 1076 4 := (zz_rc fS151 rfl rfl (by first | decide | omega) (zz_rc fS146 rfl rfl (by first | decide | omega) (zz_rc fS105 rfl rfl (by first | decide | omega) rfl)))
          have e157 : S151 1076 5 = S0 1076 5 := (zz_rc fS151 rfl rfl (by first | decide | omega) (zz_rc fS146 rfl rfl (by first | decide | omega) (zz_rc fS105 rfl rfl (by first | decide | omega) rfl)))
          refine zz_callVJ [zi p0] zd_3_5_129 zk_Compiler_167 zT_1076 (zz_ltn hn rfl) rfl rfl ⟨Nat.le_of_ble_eq_true rfl, Nat.le_of_ble_eq_true rfl⟩ ⟨rfl, rfl⟩ (Nat.zero_le _) (Nat.zero_le _) (zc_workOf_3_11 p0 S151 n hn G_S151 (by omega) (by omega)) (fun v159 S158 hP => ?_)
          obtain ⟨rfl, o160⟩ := hP
          refine zz_iconst zd_3_5_132 ?_
          refine zz_callSJ [zi 1] zd_3_5_133 zk_Compiler_139 rfl rfl ⟨Nat.le_of_ble_eq_true rfl, Nat.le_of_ble_eq_true rfl⟩ ⟨rfl, rfl⟩ (Nat.zero_le _) (Nat.zero_le _) (zc_flag_12_5 1 S151 n hn G_S151 (by omega)) (fun v162 S161 hP => ?_)
          obtain ⟨rfl, o163⟩ := hP
          refine zz_lor zd_3_5_136 (fun v164 hv164 ev164 => ?_)
          refine zz_lstore [some (.ref 1076), some (zi p0), some (zi p1), some (zi (S0 1076 1)), some (zl v164), none] zd_3_5_137 (by decide) rfl ?_
          refine zz_aload_n (x := 1076) rfl zd_3_5_139 ?_
          refine zz_iload_n (x := p1) rfl zd_3_5_140 ?_
          refine zz_if_eq (by omega) zd_3_5_141 (fun c165 => ?_) (fun c165 => ?_)
          · refine zz_lload (x := v164) rfl zd_3_5_149 ?_
            refine zz_iconst zd_3_5_151 ?_
            refine zz_callSJ [zi 3] zd_3_5_152 zk_Compiler_139 rfl rfl ⟨Nat.le_of_ble_eq_true rfl, Nat.le_of_ble_eq_true rfl⟩ ⟨rfl, rfl⟩ (Nat.zero_le _) (Nat.zero_le _) (zc_flag_12_5 3 S151 n hn G_S151 (by omega)) (fun v167 S166 hP => ?_)
            obtain ⟨rfl, o168⟩ := hP
            refine zz_lor zd_3_5_155 (fun v169 hv169 ev169 => ?_)
            have e170 : S151 1076 1 = S105 1076 1 := (zz_rc fS151 rfl rfl (by first | decide | omega) (zz_rc fS146 rfl rfl (by first | decide | omega) rfl))
            refine zz_callVV [zl v169] zd_3_5_156 zk_Compiler_143 zT_1076 (zz_ltn hn rfl) rfl rfl ⟨Nat.le_of_ble_eq_true rfl, Nat.le_of_ble_eq_true rfl⟩ ⟨rfl, rfl⟩ (Nat.zero_le _) (Nat.zero_le _) (zc_emit_3_15 v169 S151 n hn G_S151 (by omega) (by omega)) (fun S171 hP => ?_)
            obtain ⟨G_S171, fS171, o173⟩ := hP
            have g174 := zz_G.r G_S151 1076 0 0 1 rfl rfl
            have F_S171 := zz_fr.trans F_S151 fS171 rfl (fun a i h => Or.inr (Or.inl (h ▸ zM_k4 (z := (S151 1076 0)) (by omega) rfl)))
            have b175 := zz_rf4 (z := (S151 1076 0)) (by omega)
            have g176 := zz_G.r G_S171 1076 1 0 1000000 rfl rfl
            exact zz_vret zd_3_5_159 rfl (Nat.zero_le _) (Nat.zero_le _) ⟨_, rfl, G_S171, F_S171, by omega⟩
          · refine zz_lload (x := v164) rfl zd_3_5_144 ?_
            refine zz_goto zd_3_5_146 ?_
            have e177 : S151 1076 1 = S105 1076 1 := (zz_rc fS151 rfl rfl (by first | decide | omega) (zz_rc fS146 rfl rfl (by first | decide | omega) rfl))
            refine zz_callVV [zl v164] zd_3_5_156 zk_Compiler_143 zT_1076 (zz_ltn hn rfl) rfl rfl ⟨Nat.le_of_ble_eq_true rfl, Nat.le_of_ble_eq_true rfl⟩ ⟨rfl, rfl⟩ (Nat.zero_le _) (Nat.zero_le _) (zc_emit_3_15 v164 S151 n hn G_S151 (by omega) (by omega)) (fun S178 hP => ?_)
            obtain ⟨G_S178, fS178, o180⟩ := hP
            have g181 := zz_G.r G_S151 1076 0 0 1 rfl rfl
            have F_S178 := zz_fr.trans F_S151 fS178 rfl (fun a i h => Or.inr (Or.inl (h ▸ zM_k4 (z := (S151 1076 0)) (by omega) rfl)))
            have b182 := zz_rf4 (z := (S151 1076 0)) (by omega)
            have g183 := zz_G.r G_S178 1076 1 0 1000000 rfl rfl
            exact zz_vret zd_3_5_159 rfl (Nat.zero_le _) (Nat.zero_le _) ⟨_, rfl, G_S178, F_S178, by omega⟩
    · refine zz_aload_n (x := 1076) rfl zd_3_5_43 ?_
      refine zz_aload_n (x := 1076) rfl zd_3_5_44 ?_
      have g184 := zz_G.r G_S0 1076 7 (-2147483648) 2147483647 rfl rfl
      refine zz_geti (z := S0 1076 7) zd_3_5_45 zf_Compiler_76 zT_1076 rfl (zz_ltn hn rfl) rfl ?_
      have g185 := zz_G.r G_S0 1076 4 (-1) 23 rfl rfl
      have g186 := zz_G.r G_S0 1076 5 (-1) 23 rfl rfl
      refine zz_callVV [zi (S0 1076 7)] zd_3_5_48 zk_Compiler_155 zT_1076 (zz_ltn hn rfl) rfl rfl ⟨Nat.le_of_ble_eq_true rfl, Nat.le_of_ble_eq_true rfl⟩ ⟨rfl, rfl⟩ (Nat.zero_le _) (Nat.zero_le _) (zc_loadMet_3_7 (S0 1076 7) S0 n hn G_S0 (by omega) (by omega) (by omega)) (fun S187 hP => ?_)
      obtain ⟨G_S187, fS187, o189⟩ := hP
      have F_S187 := zz_fr.trans F_S0 fS187 rfl zz_nv
      refine zz_goto zd_3_5_51 ?_
      refine zz_aload_n (x := 1076) rfl zd_3_5_102 ?_
      have g190 := zz_G.r G_S0 1076 12 (-2147483648) 2147483647 rfl rfl
      refine zz_geti (z := S0 1076 12) zd_3_5_103 zf_Compiler_73 zT_1076 rfl (zz_ltn hn rfl) (zz_rc fS187 rfl rfl (fun h => h) rfl) ?_
      refine zz_iconst zd_3_5_106 ?_
      refine zz_icmp_le (by omega) (by omega) zd_3_5_107 (fun c191 => ?_) (fun c191 => ?_)
      · refine zz_aload_n (x := 1076) rfl zd_3_5_116 ?_
        refine zz_aload_n (x := 1076) rfl zd_3_5_117 ?_
        have g192 := zz_G.r G_S187 1076 1 0 1000000 rfl rfl
        refine zz_geti (z := S187 1076 1) zd_3_5_118 zf_Compiler_15 zT_1076 rfl (zz_ltn hn rfl) rfl ?_
        refine zz_iconst zd_3_5_121 ?_
        refine zz_isub zd_3_5_122 ?_
        refine zz_iconst zd_3_5_123 ?_
        refine zz_callVV [zi ((S187 1076 1) - 1), zi 4] zd_3_5_124 zk_Compiler_163 zT_1076 (zz_ltn hn rfl) rfl rfl ⟨Nat.le_of_ble_eq_true rfl, Nat.le_of_ble_eq_true rfl⟩ ⟨rfl, rfl⟩ (Nat.zero_le _) (Nat.zero_le _) (zc_mark_3_16 ((S187 1076 1) - 1) 4 S187 n hn G_S187 (by omega) (by omega)) (fun S193 hP => ?_)
        obtain ⟨G_S193, fS193⟩ := hP
        have g195 := zz_G.r G_S187 1076 0 0 1 rfl rfl
        have F_S193 := zz_fr.trans F_S187 fS193 rfl (fun a i h => Or.inr (Or.inl (h ▸ zM_k4 (z := (S187 1076 0)) (by omega) rfl)))
        have b196 := zz_rf4 (z := (S187 1076 0)) (by omega)
        refine zz_aload_n (x := 1076) rfl zd_3_5_127 ?_
        refine zz_iload_n (x := p0) rfl zd_3_5_128 ?_
        have e197 : S193 1076 3 = S0 1076 3 := (zz_rc fS193 rfl rfl (by first | decide | omega) (zz_rc fS187 rfl rfl (fun h => h) rfl))
        have e198 : S193 1076 4 = S0 1076 4 := (zz_rc fS193 rfl rfl (by first | decide | omega) (zz_rc fS187 rfl rfl (fun h => h) rfl))
        have e199 : S193 1076 5 = S0 1076 5 := (zz_rc fS193 rfl rfl (by first | decide | omega) (zz_rc fS187 rfl rfl (fun h => h) rfl))
        refine zz_callVJ [zi p0] zd_3_5_129 zk_Compiler_167 zT_1076 (zz_ltn hn rfl) rfl rfl ⟨Nat.le_of_ble_eq_true rfl, Nat.le_of_ble_eq_true rfl⟩ ⟨rfl, rfl⟩ (Nat.zero_le _) (Nat.zero_le _) (zc_workOf_3_11 p0 S193 n hn G_S193 (by omega) (by omega)) (fun v201 S200 hP => ?_)
        obtain ⟨rfl, o202⟩ := hP
        refine zz_iconst zd_3_5_132 ?_
        refine zz_callSJ [zi 1] zd_3_5_133 zk_Compiler_139 rfl rfl ⟨Nat.le_of_ble_eq_true rfl, Nat.le_of_ble_eq_true rfl⟩ ⟨rfl, rfl⟩ (Nat.zero_le _) (Nat.zero_le _) (zc_flag_12_5 1 S193 n hn G_S193 (by omega)) (fun v204 S203 hP => ?_)
        obtain ⟨rfl, o205⟩ := hP
        refine zz_lor zd_3_5_136 (fun v206 hv206 ev206 => ?_)
        refine zz_lstore [some (.ref 1076), some (zi p0), some (zi p1), some (zi (S0 1076 1)), some (zl v206), none] zd_3_5_137 (by decide) rfl ?_
        refine zz_aload_n (x := 1076) rfl zd_3_5_139 ?_
        refine zz_iload_n (x := p1) rfl zd_3_5_140 ?_
        refine zz_if_eq (by omega) zd_3_5_141 (fun c207 => ?_) (fun c207 => ?_)
        · refine zz_lload (x := v206) rfl zd_3_5_149 ?_
          refine zz_iconst zd_3_5_151 ?_
          refine zz_callSJ [zi 3] zd_3_5_152 zk_Compiler_139 rfl rfl ⟨Nat.le_of_ble_eq_true rfl, Nat.le_of_ble_eq_true rfl⟩ ⟨rfl, rfl⟩ (Nat.zero_le _) (Nat.zero_le _) (zc_flag_12_5 3 S193 n hn G_S193 (by omega)) (fun v209 S208 hP => ?_)
          obtain ⟨rfl, o210⟩ := hP
          refine zz_lor zd_3_5_155 (fun v211 hv211 ev211 => ?_)
          have e212 : S193 1076 1 = S187 1076 1 := (zz_rc fS193 rfl rfl (by first | decide | omega) rfl)
          refine zz_callVV [zl v211] zd_3_5_156 zk_Compiler_143 zT_1076 (zz_ltn hn rfl) rfl rfl ⟨Nat.le_of_ble_eq_true rfl, Nat.le_of_ble_eq_true rfl⟩ ⟨rfl, rfl⟩ (Nat.zero_le _) (Nat.zero_le _) (zc_emit_3_15 v211 S193 n hn G_S193 (by omega) (by omega)) (fun S213 hP => ?_)
          obtain ⟨G_S213, fS213, o215⟩ := hP
          have g216 := zz_G.r G_S193 1076 0 0 1 rfl rfl
          have F_S213 := zz_fr.trans F_S193 fS213 rfl (fun a i h => Or.inr (Or.inl (h ▸ zM_k4 (z := (S193 1076 0)) (by omega) rfl)))
          have b217 := zz_rf4 (z := (S193 1076 0)) (by omega)
          have g218 := zz_G.r G_S213 1076 1 0 1000000 rfl rfl
          exact zz_vret zd_3_5_159 rfl (Nat.zero_le _) (Nat.zero_le _) ⟨_, rfl, G_S213, F_S213, by omega⟩
        · refine zz_lload (x := v206) rfl zd_3_5_144 ?_
          refine zz_goto zd_3_5_146 ?_
          have e219 : S193 1076 1 = S187 1076 1 := (zz_rc fS193 rfl rfl (by first | decide | omega) rfl)
          refine zz_callVV [zl v206] zd_3_5_156 zk_Compiler_143 zT_1076 (zz_ltn hn rfl) rfl rfl ⟨Nat.le_of_ble_eq_true rfl, Nat.le_of_ble_eq_true rfl⟩ ⟨rfl, rfl⟩ (Nat.zero_le _) (Nat.zero_le _) (zc_emit_3_15 v206 S193 n hn G_S193 (by omega) (by omega)) (fun S220 hP => ?_)
          obtain ⟨G_S220, fS220, o222⟩ := hP
          have g223 := zz_G.r G_S193 1076 0 0 1 rfl rfl
          have F_S220 := zz_fr.trans F_S193 fS220 rfl (fun a i h => Or.inr (Or.inl (h ▸ zM_k4 (z := (S193 1076 0)) (by omega) rfl)))
          have b224 := zz_rf4 (z := (S193 1076 0)) (by omega)
          have g225 := zz_G.r G_S220 1076 1 0 1000000 rfl rfl
          exact zz_vret zd_3_5_159 rfl (Nat.zero_le _) (Nat.zero_le _) ⟨_, rfl, G_S220, F_S220, by omega⟩
      · refine zz_aload_n (x := 1076) rfl zd_3_5_110 ?_
        refine zz_iload_n (x := S0 1076 1) rfl zd_3_5_111 ?_
        refine zz_iconst zd_3_5_112 ?_
        refine zz_callVV [zi (S0 1076 1), zi 2] zd_3_5_113 zk_Compiler_163 zT_1076 (zz_ltn hn rfl) rfl rfl ⟨Nat.le_of_ble_eq_true rfl, Nat.le_of_ble_eq_true rfl⟩ ⟨rfl, rfl⟩ (Nat.zero_le _) (Nat.zero_le _) (zc_mark_3_16 (S0 1076 1) 2 S187 n hn G_S187 (by omega) (by omega)) (fun S226 hP => ?_)
        obtain ⟨G_S226, fS226⟩ := hP
        have g228 := zz_G.r G_S187 1076 0 0 1 rfl rfl
        have F_S226 := zz_fr.trans F_S187 fS226 rfl (fun a i h => Or.inr (Or.inl (h ▸ zM_k4 (z := (S187 1076 0)) (by omega) rfl)))
        have b229 := zz_rf4 (z := (S187 1076 0)) (by omega)
        refine zz_aload_n (x := 1076) rfl zd_3_5_116 ?_
        refine zz_aload_n (x := 1076) rfl zd_3_5_117 ?_
        have g230 := zz_G.r G_S187 1076 1 0 1000000 rfl rfl
        refine zz_geti (z := S187 1076 1) zd_3_5_118 zf_Compiler_15 zT_1076 rfl (zz_ltn hn rfl) (zz_rc fS226 rfl rfl (by first | decide | omega) rfl) ?_
        refine zz_iconst zd_3_5_121 ?_
        refine zz_isub zd_3_5_122 ?_
        refine zz_iconst zd_3_5_123 ?_
        refine zz_callVV [zi ((S187 1076 1) - 1), zi 4] zd_3_5_124 zk_Compiler_163 zT_1076 (zz_ltn hn rfl) rfl rfl ⟨Nat.le_of_ble_eq_true rfl, Nat.le_of_ble_eq_true rfl⟩ ⟨rfl, rfl⟩ (Nat.zero_le _) (Nat.zero_le _) (zc_mark_3_16 ((S187 1076 1) - 1) 4 S226 n hn G_S226 (by omega) (by omega)) (fun S231 hP => ?_)
        obtain ⟨G_S231, fS231⟩ := hP
        have g233 := zz_G.r G_S226 1076 0 0 1 rfl rfl
        have F_S231 := zz_fr.trans F_S226 fS231 rfl (fun a i h => Or.inr (Or.inl (h ▸ zM_k4 (z := (S226 1076 0)) (by omega) rfl)))
        have b234 := zz_rf4 (z := (S226 1076 0)) (by omega)
        refine zz_aload_n (x := 1076) rfl zd_3_5_127 ?_
        refine zz_iload_n (x := p0) rfl zd_3_5_128 ?_
        have e235 : S231 1076 3 = S0 1076 3 := (zz_rc fS231 rfl rfl (by first | decide | omega) (zz_rc fS226 rfl rfl (by first | decide | omega) (zz_rc fS187 rfl rfl (fun h => h) rfl)))
        have e236 : S231 1076 4 = S0 1076 4 := (zz_rc fS231 rfl rfl (by first | decide | omega) (zz_rc fS226 rfl rfl (by first | decide | omega) (zz_rc fS187 rfl rfl (fun h => h) rfl)))
        have e237 : S231 1076 5 = S0 1076 5 := (zz_rc fS231 rfl rfl (by first | decide | omega) (zz_rc fS226 rfl rfl (by first | decide | omega) (zz_rc fS187 rfl rfl (fun h => h) rfl)))
        refine zz_callVJ [zi p0] zd_3_5_129 zk_Compiler_167 zT_1076 (zz_ltn hn rfl) rfl rfl ⟨Nat.le_of_ble_eq_true rfl, Nat.le_of_ble_eq_true rfl⟩ ⟨rfl, rfl⟩ (Nat.zero_le _) (Nat.zero_le _) (zc_workOf_3_11 p0 S231 n hn G_S231 (by omega) (by omega)) (fun v239 S238 hP => ?_)
        obtain ⟨rfl, o240⟩ := hP
        refine zz_iconst zd_3_5_132 ?_
        refine zz_callSJ [zi 1] zd_3_5_133 zk_Compiler_139 rfl rfl ⟨Nat.le_of_ble_eq_true rfl, Nat.le_of_ble_eq_true rfl⟩ ⟨rfl, rfl⟩ (Nat.zero_le _) (Nat.zero_le _) (zc_flag_12_5 1 S231 n hn G_S231 (by omega)) (fun v242 S241 hP => ?_)
        obtain ⟨rfl, o243⟩ := hP
        refine zz_lor zd_3_5_136 (fun v244 hv244 ev244 => ?_)
        refine zz_lstore [some (.ref 1076), some (zi p0), some (zi p1), some (zi (S0 1076 1)), some (zl v244), none] zd_3_5_137 (by decide) rfl ?_
        refine zz_aload_n (x := 1076) rfl zd_3_5_139 ?_
        refine zz_iload_n (x := p1) rfl zd_3_5_140 ?_
        refine zz_if_eq (by omega) zd_3_5_141 (fun c245 => ?_) (fun c245 => ?_)
        · refine zz_lload (x := v244) rfl zd_3_5_149 ?_
          refine zz_iconst zd_3_5_151 ?_
          refine zz_callSJ [zi 3] zd_3_5_152 zk_Compiler_139 rfl rfl ⟨Nat.le_of_ble_eq_true rfl, Nat.le_of_ble_eq_true rfl⟩ ⟨rfl, rfl⟩ (Nat.zero_le _) (Nat.zero_le _) (zc_flag_12_5 3 S231 n hn G_S231 (by omega)) (fun v247 S246 hP => ?_)
          obtain ⟨rfl, o248⟩ := hP
          refine zz_lor zd_3_5_155 (fun v249 hv249 ev249 => ?_)
          have e250 : S231 1076 1 = S187 1076 1 := (zz_rc fS231 rfl rfl (by first | decide | omega) (zz_rc fS226 rfl rfl (by first | decide | omega) rfl))
          refine zz_callVV [zl v249] zd_3_5_156 zk_Compiler_143 zT_1076 (zz_ltn hn rfl) rfl rfl ⟨Nat.le_of_ble_eq_true rfl, Nat.le_of_ble_eq_true rfl⟩ ⟨rfl, rfl⟩ (Nat.zero_le _) (Nat.zero_le _) (zc_emit_3_15 v249 S231 n hn G_S231 (by omega) (by omega)) (fun S251 hP => ?_)
          obtain ⟨G_S251, fS251, o253⟩ := hP
          have g254 := zz_G.r G_S231 1076 0 0 1 rfl rfl
          have F_S251 := zz_fr.trans F_S231 fS251 rfl (fun a i h => Or.inr (Or.inl (h ▸ zM_k4 (z := (S231 1076 0)) (by omega) rfl)))
          have b255 := zz_rf4 (z := (S231 1076 0)) (by omega)
          have g256 := zz_G.r G_S251 1076 1 0 1000000 rfl rfl
          exact zz_vret zd_3_5_159 rfl (Nat.zero_le _) (Nat.zero_le _) ⟨_, rfl, G_S251, F_S251, by omega⟩
        · refine zz_lload (x := v244) rfl zd_3_5_144 ?_
          refine zz_goto zd_3_5_146 ?_
          have e257 : S231 1076 1 = S187 1076 1 := (zz_rc fS231 rfl rfl (by first | decide | omega) (zz_rc fS226 rfl rfl (by first | decide | omega) rfl))
          refine zz_callVV [zl v244] zd_3_5_156 zk_Compiler_143 zT_1076 (zz_ltn hn rfl) rfl rfl ⟨Nat.le_of_ble_eq_true rfl, Nat.le_of_ble_eq_true rfl⟩ ⟨rfl, rfl⟩ (Nat.zero_le _) (Nat.zero_le _) (zc_emit_3_15 v244 S231 n hn G_S231 (by omega) (by omega)) (fun S258 hP => ?_)
          obtain ⟨G_S258, fS258, o260⟩ := hP
          have g261 := zz_G.r G_S231 1076 0 0 1 rfl rfl
          have F_S258 := zz_fr.trans F_S231 fS258 rfl (fun a i h => Or.inr (Or.inl (h ▸ zM_k4 (z := (S231 1076 0)) (by omega) rfl)))
          have b262 := zz_rf4 (z := (S231 1076 0)) (by omega)
          have g263 := zz_G.r G_S258 1076 1 0 1000000 rfl rfl
          exact zz_vret zd_3_5_159 rfl (Nat.zero_le _) (Nat.zero_le _) ⟨_, rfl, G_S258, F_S258, by omega⟩
  · refine zz_aload_n (x := 1076) rfl zd_3_5_16 ?_
    refine zz_iload_n (x := p0) rfl zd_3_5_17 ?_
    have g264 := zz_G.r G_S0 1076 4 (-1) 23 rfl rfl
    have g265 := zz_G.r G_S0 1076 5 (-1) 23 rfl rfl
    refine zz_callVV [zi p0] zd_3_5_18 zk_Compiler_151 zT_1076 (zz_ltn hn rfl) rfl rfl ⟨Nat.le_of_ble_eq_true rfl, Nat.le_of_ble_eq_true rfl⟩ ⟨rfl, rfl⟩ (Nat.zero_le _) (Nat.zero_le _) (zc_loadParameters_3_6 p0 S0 n hn G_S0 (by omega) (by omega) (by omega)) (fun S266 hP => ?_)
    obtain ⟨G_S266, fS266, o268⟩ := hP
    have F_S266 := zz_fr.trans F_S0 fS266 rfl zz_nv
    refine zz_aload_n (x := 1076) rfl zd_3_5_21 ?_
    refine zz_aload_n (x := 1076) rfl zd_3_5_22 ?_
    have g269 := zz_G.r G_S0 1076 15 (-2147483648) 2147483647 rfl rfl
    refine zz_geti (z := S0 1076 15) zd_3_5_23 zf_Compiler_112 zT_1076 rfl (zz_ltn hn rfl) (zz_rc fS266 rfl rfl (fun h => h) rfl) ?_
    have g270 := zz_G.r G_S266 1076 1 0 1000000 rfl rfl
    have e271 : S266 1076 3 = S0 1076 3 := (zz_rc fS266 rfl rfl (fun h => h) rfl)
    have e272 : S266 1076 4 = S0 1076 4 := (zz_rc fS266 rfl rfl (fun h => h) rfl)
    have e273 : S266 1076 5 = S0 1076 5 := (zz_rc fS266 rfl rfl (fun h => h) rfl)
    refine zz_callVV [zi (S0 1076 15)] zd_3_5_26 zk_Compiler_155 zT_1076 (zz_ltn hn rfl) rfl rfl ⟨Nat.le_of_ble_eq_true rfl, Nat.le_of_ble_eq_true rfl⟩ ⟨rfl, rfl⟩ (Nat.zero_le _) (Nat.zero_le _) (zc_loadMet_3_7 (S0 1076 15) S266 n hn G_S266 (by omega) (by omega) (by omega)) (fun S274 hP => ?_)
    obtain ⟨G_S274, fS274, o276⟩ := hP
    have F_S274 := zz_fr.trans F_S266 fS274 rfl zz_nv
    refine zz_goto zd_3_5_29 ?_
    refine zz_aload_n (x := 1076) rfl zd_3_5_102 ?_
    have g277 := zz_G.r G_S0 1076 12 (-2147483648) 2147483647 rfl rfl
    refine zz_geti (z := S0 1076 12) zd_3_5_103 zf_Compiler_73 zT_1076 rfl (zz_ltn hn rfl) (zz_rc fS274 rfl rfl (fun h => h) (zz_rc fS266 rfl rfl (fun h => h) rfl)) ?_
    refine zz_iconst zd_3_5_106 ?_
    refine zz_icmp_le (by omega) (by omega) zd_3_5_107 (fun c278 => ?_) (fun c278 => ?_)
    · refine zz_aload_n (x := 1076) rfl zd_3_5_116 ?_
      refine zz_aload_n (x := 1076) rfl zd_3_5_117 ?_
      have g279 := zz_G.r G_S274 1076 1 0 1000000 rfl rfl
      refine zz_geti (z := S274 1076 1) zd_3_5_118 zf_Compiler_15 zT_1076 rfl (zz_ltn hn rfl) rfl ?_
      refine zz_iconst zd_3_5_121 ?_
      refine zz_isub zd_3_5_122 ?_
      refine zz_iconst zd_3_5_123 ?_
      refine zz_callVV [zi ((S274 1076 1) - 1), zi 4] zd_3_5_124 zk_Compiler_163 zT_1076 (zz_ltn hn rfl) rfl rfl ⟨Nat.le_of_ble_eq_true rfl, Nat.le_of_ble_eq_true rfl⟩ ⟨rfl, rfl⟩ (Nat.zero_le _) (Nat.zero_le _) (zc_mark_3_16 ((S274 1076 1) - 1) 4 S274 n hn G_S274 (by omega) (by omega)) (fun S280 hP => ?_)
      obtain ⟨G_S280, fS280⟩ := hP
      have g282 := zz_G.r G_S274 1076 0 0 1 rfl rfl
      have F_S280 := zz_fr.trans F_S274 fS280 rfl (fun a i h => Or.inr (Or.inl (h ▸ zM_k4 (z := (S274 1076 0)) (by omega) rfl)))
      have b283 := zz_rf4 (z := (S274 1076 0)) (by omega)
      refine zz_aload_n (x := 1076) rfl zd_3_5_127 ?_
      refine zz_iload_n (x := p0) rfl zd_3_5_128 ?_
      have e284 : S280 1076 3 = S0 1076 3 := (zz_rc fS280 rfl rfl (by first | decide | omega) (zz_rc fS274 rfl rfl (fun h => h) (zz_rc fS266 rfl rfl (fun h => h) rfl)))
      have e285 : S280 1076 4 = S0 1076 4 := (zz_rc fS280 rfl rfl (by first | decide | omega) (zz_rc fS274 rfl rfl (fun h => h) (zz_rc fS266 rfl rfl (fun h => h) rfl)))
      have e286 : S280 1076 5 = S0 1076 5 := (zz_rc fS280 rfl rfl (by first | decide | omega) (zz_rc fS274 rfl rfl (fun h => h) (zz_rc fS266 rfl rfl (fun h => h) rfl)))
      refine zz_callVJ [zi p0] zd_3_5_129 zk_Compiler_167 zT_1076 (zz_ltn hn rfl) rfl rfl ⟨Nat.le_of_ble_eq_true rfl, Nat.le_of_ble_eq_true rfl⟩ ⟨rfl, rfl⟩ (Nat.zero_le _) (Nat.zero_le _) (zc_workOf_3_11 p0 S280 n hn G_S280 (by omega) (by omega)) (fun v288 S287 hP => ?_)
      obtain ⟨rfl, o289⟩ := hP
      refine zz_iconst zd_3_5_132 ?_
      refine zz_callSJ [zi 1] zd_3_5_133 zk_Compiler_139 rfl rfl ⟨Nat.le_of_ble_eq_true rfl, Nat.le_of_ble_eq_true rfl⟩ ⟨rfl, rfl⟩ (Nat.zero_le _) (Nat.zero_le _) (zc_flag_12_5 1 S280 n hn G_S280 (by omega)) (fun v291 S290 hP => ?_)
      obtain ⟨rfl, o292⟩ := hP
      refine zz_lor zd_3_5_136 (fun v293 hv293 ev293 => ?_)
      refine zz_lstore [some (.ref 1076), some (zi p0), some (zi p1), some (zi (S0 1076 1)), some (zl v293), none] zd_3_5_137 (by decide) rfl ?_
      refine zz_aload_n (x := 1076) rfl zd_3_5_139 ?_
      refine zz_iload_n (x := p1) rfl zd_3_5_140 ?_
      refine zz_if_eq (by omega) zd_3_5_141 (fun c294 => ?_) (fun c294 => ?_)
      · refine zz_lload (x := v293) rfl zd_3_5_149 ?_
        refine zz_iconst zd_3_5_151 ?_
        refine zz_callSJ [zi 3] zd_3_5_152 zk_Compiler_139 rfl rfl ⟨Nat.le_of_ble_eq_true rfl, Nat.le_of_ble_eq_true rfl⟩ ⟨rfl, rfl⟩ (Nat.zero_le _) (Nat.zero_le _) (zc_flag_12_5 3 S280 n hn G_S280 (by omega)) (fun v296 S295 hP => ?_)
        obtain ⟨rfl, o297⟩ := hP
        refine zz_lor zd_3_5_155 (fun v298 hv298 ev298 => ?_)
        have e299 : S280 1076 1 = S274 1076 1 := (zz_rc fS280 rfl rfl (by first | decide | omega) rfl)
        refine zz_callVV [zl v298] zd_3_5_156 zk_Compiler_143 zT_1076 (zz_ltn hn rfl) rfl rfl ⟨Nat.le_of_ble_eq_true rfl, Nat.le_of_ble_eq_true rfl⟩ ⟨rfl, rfl⟩ (Nat.zero_le _) (Nat.zero_le _) (zc_emit_3_15 v298 S280 n hn G_S280 (by omega) (by omega)) (fun S300 hP => ?_)
        obtain ⟨G_S300, fS300, o302⟩ := hP
        have g303 := zz_G.r G_S280 1076 0 0 1 rfl rfl
        have F_S300 := zz_fr.trans F_S280 fS300 rfl (fun a i h => Or.inr (Or.inl (h ▸ zM_k4 (z := (S280 1076 0)) (by omega) rfl)))
        have b304 := zz_rf4 (z := (S280 1076 0)) (by omega)
        have g305 := zz_G.r G_S300 1076 1 0 1000000 rfl rfl
        exact zz_vret zd_3_5_159 rfl (Nat.zero_le _) (Nat.zero_le _) ⟨_, rfl, G_S300, F_S300, by omega⟩
      · refine zz_lload (x := v293) rfl zd_3_5_144 ?_
        refine zz_goto zd_3_5_146 ?_
        have e306 : S280 1076 1 = S274 1076 1 := (zz_rc fS280 rfl rfl (by first | decide | omega) rfl)
        refine zz_callVV [zl v293] zd_3_5_156 zk_Compiler_143 zT_1076 (zz_ltn hn rfl) rfl rfl ⟨Nat.le_of_ble_eq_true rfl, Nat.le_of_ble_eq_true rfl⟩ ⟨rfl, rfl⟩ (Nat.zero_le _) (Nat.zero_le _) (zc_emit_3_15 v293 S280 n hn G_S280 (by omega) (by omega)) (fun S307 hP => ?_)
        obtain ⟨G_S307, fS307, o309⟩ := hP
        have g310 := zz_G.r G_S280 1076 0 0 1 rfl rfl
        have F_S307 := zz_fr.trans F_S280 fS307 rfl (fun a i h => Or.inr (Or.inl (h ▸ zM_k4 (z := (S280 1076 0)) (by omega) rfl)))
        have b311 := zz_rf4 (z := (S280 1076 0)) (by omega)
        have g312 := zz_G.r G_S307 1076 1 0 1000000 rfl rfl
        exact zz_vret zd_3_5_159 rfl (Nat.zero_le _) (Nat.zero_le _) ⟨_, rfl, G_S307, F_S307, by omega⟩
    · refine zz_aload_n (x := 1076) rfl zd_3_5_110 ?_
      refine zz_iload_n (x := S0 1076 1) rfl zd_3_5_111 ?_
      refine zz_iconst zd_3_5_112 ?_
      refine zz_callVV [zi (S0 1076 1), zi 2] zd_3_5_113 zk_Compiler_163 zT_1076 (zz_ltn hn rfl) rfl rfl ⟨Nat.le_of_ble_eq_true rfl, Nat.le_of_ble_eq_true rfl⟩ ⟨rfl, rfl⟩ (Nat.zero_le _) (Nat.zero_le _) (zc_mark_3_16 (S0 1076 1) 2 S274 n hn G_S274 (by omega) (by omega)) (fun S313 hP => ?_)
      obtain ⟨G_S313, fS313⟩ := hP
      have g315 := zz_G.r G_S274 1076 0 0 1 rfl rfl
      have F_S313 := zz_fr.trans F_S274 fS313 rfl (fun a i h => Or.inr (Or.inl (h ▸ zM_k4 (z := (S274 1076 0)) (by omega) rfl)))
      have b316 := zz_rf4 (z := (S274 1076 0)) (by omega)
      refine zz_aload_n (x := 1076) rfl zd_3_5_116 ?_
      refine zz_aload_n (x := 1076) rfl zd_3_5_117 ?_
      have g317 := zz_G.r G_S274 1076 1 0 1000000 rfl rfl
      refine zz_geti (z := S274 1076 1) zd_3_5_118 zf_Compiler_15 zT_1076 rfl (zz_ltn hn rfl) (zz_rc fS313 rfl rfl (by first | decide | omega) rfl) ?_
      refine zz_iconst zd_3_5_121 ?_
      refine zz_isub zd_3_5_122 ?_
      refine zz_iconst zd_3_5_123 ?_
      refine zz_callVV [zi ((S274 1076 1) - 1), zi 4] zd_3_5_124 zk_Compiler_163 zT_1076 (zz_ltn hn rfl) rfl rfl ⟨Nat.le_of_ble_eq_true rfl, Nat.le_of_ble_eq_true rfl⟩ ⟨rfl, rfl⟩ (Nat.zero_le _) (Nat.zero_le _) (zc_mark_3_16 ((S274 1076 1) - 1) 4 S313 n hn G_S313 (by omega) (by omega)) (fun S318 hP => ?_)
      obtain ⟨G_S318, fS318⟩ := hP
      have g320 := zz_G.r G_S313 1076 0 0 1 rfl rfl
      have F_S318 := zz_fr.trans F_S313 fS318 rfl (fun a i h => Or.inr (Or.inl (h ▸ zM_k4 (z := (S313 1076 0)) (by omega) rfl)))
      have b321 := zz_rf4 (z := (S313 1076 0)) (by omega)
      refine zz_aload_n (x := 1076) rfl zd_3_5_127 ?_
      refine zz_iload_n (x := p0) rfl zd_3_5_128 ?_
      have e322 : S318 1076 3 = S0 1076 3 := (zz_rc fS318 rfl rfl (by first | decide | omega) (zz_rc fS313 rfl rfl (by first | decide | omega) (zz_rc fS274 rfl rfl (fun h => h) (zz_rc fS266 rfl rfl (fun h => h) rfl))))
      have e323 : S318 1076 4 = S0 1076 4 := (zz_rc fS318 rfl rfl (by first | decide | omega) (zz_rc fS313 rfl rfl (by first | decide | omega) (zz_rc fS274 rfl rfl (fun h => h) (zz_rc fS266 rfl rfl (fun h => h) rfl))))
      have e324 : S318 1076 5 = S0 1076 5 := (zz_rc fS318 rfl rfl (by first | decide | omega) (zz_rc fS313 rfl rfl (by first | decide | omega) (zz_rc fS274 rfl rfl (fun h => h) (zz_rc fS266 rfl rfl (fun h => h) rfl))))
      refine zz_callVJ [zi p0] zd_3_5_129 zk_Compiler_167 zT_1076 (zz_ltn hn rfl) rfl rfl ⟨Nat.le_of_ble_eq_true rfl, Nat.le_of_ble_eq_true rfl⟩ ⟨rfl, rfl⟩ (Nat.zero_le _) (Nat.zero_le _) (zc_workOf_3_11 p0 S318 n hn G_S318 (by omega) (by omega)) (fun v326 S325 hP => ?_)
      obtain ⟨rfl, o327⟩ := hP
      refine zz_iconst zd_3_5_132 ?_
      refine zz_callSJ [zi 1] zd_3_5_133 zk_Compiler_139 rfl rfl ⟨Nat.le_of_ble_eq_true rfl, Nat.le_of_ble_eq_true rfl⟩ ⟨rfl, rfl⟩ (Nat.zero_le _) (Nat.zero_le _) (zc_flag_12_5 1 S318 n hn G_S318 (by omega)) (fun v329 S328 hP => ?_)
      obtain ⟨rfl, o330⟩ := hP
      refine zz_lor zd_3_5_136 (fun v331 hv331 ev331 => ?_)
      refine zz_lstore [some (.ref 1076), some (zi p0), some (zi p1), some (zi (S0 1076 1)), some (zl v331), none] zd_3_5_137 (by decide) rfl ?_
      refine zz_aload_n (x := 1076) rfl zd_3_5_139 ?_
      refine zz_iload_n (x := p1) rfl zd_3_5_140 ?_
      refine zz_if_eq (by omega) zd_3_5_141 (fun c332 => ?_) (fun c332 => ?_)
      · refine zz_lload (x := v331) rfl zd_3_5_149 ?_
        refine zz_iconst zd_3_5_151 ?_
        refine zz_callSJ [zi 3] zd_3_5_152 zk_Compiler_139 rfl rfl ⟨Nat.le_of_ble_eq_true rfl, Nat.le_of_ble_eq_true rfl⟩ ⟨rfl, rfl⟩ (Nat.zero_le _) (Nat.zero_le _) (zc_flag_12_5 3 S318 n hn G_S318 (by omega)) (fun v334 S333 hP => ?_)
        obtain ⟨rfl, o335⟩ := hP
        refine zz_lor zd_3_5_155 (fun v336 hv336 ev336 => ?_)
        have e337 : S318 1076 1 = S274 1076 1 := (zz_rc fS318 rfl rfl (by first | decide | omega) (zz_rc fS313 rfl rfl (by first | decide | omega) rfl))
        refine zz_callVV [zl v336] zd_3_5_156 zk_Compiler_143 zT_1076 (zz_ltn hn rfl) rfl rfl ⟨Nat.le_of_ble_eq_true rfl, Nat.le_of_ble_eq_true rfl⟩ ⟨rfl, rfl⟩ (Nat.zero_le _) (Nat.zero_le _) (zc_emit_3_15 v336 S318 n hn G_S318 (by omega) (by omega)) (fun S338 hP => ?_)
        obtain ⟨G_S338, fS338, o340⟩ := hP
        have g341 := zz_G.r G_S318 1076 0 0 1 rfl rfl
        have F_S338 := zz_fr.trans F_S318 fS338 rfl (fun a i h => Or.inr (Or.inl (h ▸ zM_k4 (z := (S318 1076 0)) (by omega) rfl)))
        have b342 := zz_rf4 (z := (S318 1076 0)) (by omega)
        have g343 := zz_G.r G_S338 1076 1 0 1000000 rfl rfl
        exact zz_vret zd_3_5_159 rfl (Nat.zero_le _) (Nat.zero_le _) ⟨_, rfl, G_S338, F_S338, by omega⟩
      · refine zz_lload (x := v331) rfl zd_3_5_144 ?_
        refine zz_goto zd_3_5_146 ?_
        have e344 : S318 1076 1 = S274 1076 1 := (zz_rc fS318 rfl rfl (by first | decide | omega) (zz_rc fS313 rfl rfl (by first | decide | omega) rfl))
        refine zz_callVV [zl v331] zd_3_5_156 zk_Compiler_143 zT_1076 (zz_ltn hn rfl) rfl rfl ⟨Nat.le_of_ble_eq_true rfl, Nat.le_of_ble_eq_true rfl⟩ ⟨rfl, rfl⟩ (Nat.zero_le _) (Nat.zero_le _) (zc_emit_3_15 v331 S318 n hn G_S318 (by omega) (by omega)) (fun S345 hP => ?_)
        obtain ⟨G_S345, fS345, o347⟩ := hP
        have g348 := zz_G.r G_S318 1076 0 0 1 rfl rfl
        have F_S345 := zz_fr.trans F_S318 fS345 rfl (fun a i h => Or.inr (Or.inl (h ▸ zM_k4 (z := (S318 1076 0)) (by omega) rfl)))
        have b349 := zz_rf4 (z := (S318 1076 0)) (by omega)
        have g350 := zz_G.r G_S345 1076 1 0 1000000 rfl rfl
        exact zz_vret zd_3_5_159 rfl (Nat.zero_le _) (Nat.zero_le _) ⟨_, rfl, G_S345, F_S345, by omega⟩
theorem zk_Compiler_118 : mm_Vl "TensorForge$Compiler" 118 9 2 zy_makeGroup_3_5 := ⟨zyw_makeGroup_3_5, (R_Compiler, F_Compiler, 17), rfl, mm_tb_1 1420 (by decide +kernel) rfl, mm_tb_1 1422 (by decide +kernel) rfl, mm_tb_s 64 (by decide +kernel) rfl⟩
theorem zg_3_4_227 : zq_at zy_makeTile_3_4.2.1 227 42 ∧ zq_at zy_makeTile_3_4.2.1 228 89 ∧ zq_at zy_makeTile_3_4.2.1 229 180 ∧ zq_at zy_makeTile_3_4.2.1 230 0 ∧ zq_at zy_makeTile_3_4.2.1 231 73 ∧ zq_at zy_makeTile_3_4.2.1 232 4 ∧ zq_at zy_makeTile_3_4.2.1 233 96 ∧ zq_at zy_makeTile_3_4.2.1 234 181 ∧ zq_at zy_makeTile_3_4.2.1 235 0 ∧ zq_at zy_makeTile_3_4.2.1 236 73 ∧ zq_at zy_makeTile_3_4.2.1 237 42 ∧ zq_at zy_makeTile_3_4.2.1 238 89 ∧ zq_at zy_makeTile_3_4.2.1 239 180 ∧ zq_at zy_makeTile_3_4.2.1 240 0 ∧ zq_at zy_makeTile_3_4.2.1 241 112 ∧ zq_at zy_makeTile_3_4.2.1 242 42 ∧ zq_at zy_makeTile_3_4.2.1 243 180 ∧ zq_at zy_makeTile_3_4.2.1 244 0 ∧ zq_at zy_makeTile_3_4.2.1 245 21 ∧ zq_at zy_makeTile_3_4.2.1 246 96 ∧ zq_at zy_makeTile_3_4.2.1 247 181 ∧ zq_at zy_makeTile_3_4.2.1 248 0 ∧ zq_at zy_makeTile_3_4.2.1 249 112 := by decide +kernel
theorem zd_3_4_227 : zz_D zy_makeTile_3_4 227 (.aload_n 0) 1 228 := ⟨zq_42 zg_3_4_227.1, rfl⟩
theorem zd_3_4_228 : zz_D zy_makeTile_3_4 228 (.dup) 1 229 := ⟨zq_89 zg_3_4_227.2.1, rfl⟩
theorem zd_3_4_229 : zz_D zy_makeTile_3_4 229 (.getfield 73) 3 232 := ⟨zq_180 zg_3_4_227.2.2.1 zg_3_4_227.2.2.2.1 zg_3_4_227.2.2.2.2.1 rfl, rfl⟩
theorem zd_3_4_232 : zz_D zy_makeTile_3_4 232 (.iconst 1) 1 233 := ⟨zq_4 zg_3_4_227.2.2.2.2.2.1, rfl⟩
theorem zd_3_4_233 : zz_D zy_makeTile_3_4 233 (.iadd) 1 234 := ⟨zq_96 zg_3_4_227.2.2.2.2.2.2.1, rfl⟩
theorem zd_3_4_234 : zz_D zy_makeTile_3_4 234 (.putfield 73) 3 237 := ⟨zq_181 zg_3_4_227.2.2.2.2.2.2.2.1 zg_3_4_227.2.2.2.2.2.2.2.2.1 zg_3_4_227.2.2.2.2.2.2.2.2.2.1 rfl, rfl⟩
theorem zd_3_4_237 : zz_D zy_makeTile_3_4 237 (.aload_n 0) 1 238 := ⟨zq_42 zg_3_4_227.2.2.2.2.2.2.2.2.2.2.1, rfl⟩
theorem zd_3_4_238 : zz_D zy_makeTile_3_4 238 (.dup) 1 239 := ⟨zq_89 zg_3_4_227.2.2.2.2.2.2.2.2.2.2.2.1, rfl⟩
theorem zd_3_4_239 : zz_D zy_makeTile_3_4 239 (.getfield 112) 3 242 := ⟨zq_180 zg_3_4_227.2.2.2.2.2.2.2.2.2.2.2.2.1 zg_3_4_227.2.2.2.2.2.2.2.2.2.2.2.2.2.1 zg_3_4_227.2.2.2.2.2.2.2.2.2.2.2.2.2.2.1 rfl, rfl⟩
theorem zd_3_4_242 : zz_D zy_makeTile_3_4 242 (.aload_n 0) 1 243 := ⟨zq_42 zg_3_4_227.2.2.2.2.2.2.2.2.2.2.2.2.2.2.2.1, rfl⟩
theorem zd_3_4_243 : zz_D zy_makeTile_3_4 243 (.getfield 21) 3 246 := ⟨zq_180 zg_3_4_227.2.2.2.2.2.2.2.2.2.2.2.2.2.2.2.2.1 zg_3_4_227.2.2.2.2.2.2.2.2.2.2.2.2.2.2.2.2.2.1 zg_3_4_227.2.2.2.2.2.2.2.2.2.2.2.2.2.2.2.2.2.2.1 rfl, rfl⟩
theorem zd_3_4_246 : zz_D zy_makeTile_3_4 246 (.iadd) 1 247 := ⟨zq_96 zg_3_4_227.2.2.2.2.2.2.2.2.2.2.2.2.2.2.2.2.2.2.2.1, rfl⟩
theorem zd_3_4_247 : zz_D zy_makeTile_3_4 247 (.putfield 112) 3 250 := ⟨zq_181 zg_3_4_227.2.2.2.2.2.2.2.2.2.2.2.2.2.2.2.2.2.2.2.2.1 zg_3_4_227.2.2.2.2.2.2.2.2.2.2.2.2.2.2.2.2.2.2.2.2.2.1 zg_3_4_227.2.2.2.2.2.2.2.2.2.2.2.2.2.2.2.2.2.2.2.2.2.2 rfl, rfl⟩
theorem zg_3_4_250 : zq_at zy_makeTile_3_4.2.1 250 167 ∧ zq_at zy_makeTile_3_4.2.1 251 255 ∧ zq_at zy_makeTile_3_4.2.1 252 128 ∧ zq_at zy_makeTile_3_4.2.1 217 4 ∧ zq_at zy_makeTile_3_4.2.1 218 167 ∧ zq_at zy_makeTile_3_4.2.1 219 0 ∧ zq_at zy_makeTile_3_4.2.1 220 4 ∧ zq_at zy_makeTile_3_4.2.1 175 42 ∧ zq_at zy_makeTile_3_4.2.1 176 180 ∧ zq_at zy_makeTile_3_4.2.1 177 0 ∧ zq_at zy_makeTile_3_4.2.1 178 109 ∧ zq_at zy_makeTile_3_4.2.1 179 21 ∧ zq_at zy_makeTile_3_4.2.1 180 4 ∧ zq_at zy_makeTile_3_4.2.1 181 4 ∧ zq_at zy_makeTile_3_4.2.1 182 100 ∧ zq_at zy_makeTile_3_4.2.1 183 160 ∧ zq_at zy_makeTile_3_4.2.1 184 0 ∧ zq_at zy_makeTile_3_4.2.1 185 21 ∧ zq_at zy_makeTile_3_4.2.1 186 42 ∧ zq_at zy_makeTile_3_4.2.1 187 180 ∧ zq_at zy_makeTile_3_4.2.1 188 0 ∧ zq_at zy_makeTile_3_4.2.1 189 112 ∧ zq_at zy_makeTile_3_4.2.1 190 42 := by decide +kernel
theorem zd_3_4_250 : zz_B zy_makeTile_3_4 250 Instr.goto 122 253 := ⟨(-128), zq_167 zg_3_4_250.1 zg_3_4_250.2.1 zg_3_4_250.2.2.1 (by decide), rfl, rfl⟩
theorem zd_3_4_217 : zz_D zy_makeTile_3_4 217 (.iconst 1) 1 218 := ⟨zq_4 zg_3_4_250.2.2.2.1, rfl⟩
theorem zd_3_4_218 : zz_B zy_makeTile_3_4 218 Instr.goto 222 221 := ⟨4, zq_167 zg_3_4_250.2.2.2.2.1 zg_3_4_250.2.2.2.2.2.1 zg_3_4_250.2.2.2.2.2.2.1 (by decide), rfl, rfl⟩
theorem zd_3_4_175 : zz_D zy_makeTile_3_4 175 (.aload_n 0) 1 176 := ⟨zq_42 zg_3_4_250.2.2.2.2.2.2.2.1, rfl⟩
theorem zd_3_4_176 : zz_D zy_makeTile_3_4 176 (.getfield 109) 3 179 := ⟨zq_180 zg_3_4_250.2.2.2.2.2.2.2.2.1 zg_3_4_250.2.2.2.2.2.2.2.2.2.1 zg_3_4_250.2.2.2.2.2.2.2.2.2.2.1 rfl, rfl⟩
theorem zd_3_4_179 : zz_D zy_makeTile_3_4 179 (.iload 4) 2 181 := ⟨zq_21 zg_3_4_250.2.2.2.2.2.2.2.2.2.2.2.1 zg_3_4_250.2.2.2.2.2.2.2.2.2.2.2.2.1, rfl⟩
theorem zd_3_4_181 : zz_D zy_makeTile_3_4 181 (.iconst 1) 1 182 := ⟨zq_4 zg_3_4_250.2.2.2.2.2.2.2.2.2.2.2.2.2.1, rfl⟩
theorem zd_3_4_182 : zz_D zy_makeTile_3_4 182 (.isub) 1 183 := ⟨zq_100 zg_3_4_250.2.2.2.2.2.2.2.2.2.2.2.2.2.2.1, rfl⟩
theorem zd_3_4_183 : zz_B zy_makeTile_3_4 183 (Instr.if_icmp .ne) 204 186 := ⟨21, zq_160 zg_3_4_250.2.2.2.2.2.2.2.2.2.2.2.2.2.2.2.1 zg_3_4_250.2.2.2.2.2.2.2.2.2.2.2.2.2.2.2.2.1 zg_3_4_250.2.2.2.2.2.2.2.2.2.2.2.2.2.2.2.2.2.1 (by decide), rfl, rfl⟩
theorem zd_3_4_186 : zz_D zy_makeTile_3_4 186 (.aload_n 0) 1 187 := ⟨zq_42 zg_3_4_250.2.2.2.2.2.2.2.2.2.2.2.2.2.2.2.2.2.2.1, rfl⟩
theorem zd_3_4_187 : zz_D zy_makeTile_3_4 187 (.getfield 112) 3 190 := ⟨zq_180 zg_3_4_250.2.2.2.2.2.2.2.2.2.2.2.2.2.2.2.2.2.2.2.1 zg_3_4_250.2.2.2.2.2.2.2.2.2.2.2.2.2.2.2.2.2.2.2.2.1 zg_3_4_250.2.2.2.2.2.2.2.2.2.2.2.2.2.2.2.2.2.2.2.2.2.1 rfl, rfl⟩
theorem zd_3_4_190 : zz_D zy_makeTile_3_4 190 (.aload_n 0) 1 191 := ⟨zq_42 zg_3_4_250.2.2.2.2.2.2.2.2.2.2.2.2.2.2.2.2.2.2.2.2.2.2, rfl⟩
theorem zg_3_4_191 : zq_at zy_makeTile_3_4.2.1 191 180 ∧ zq_at zy_makeTile_3_4.2.1 192 0 ∧ zq_at zy_makeTile_3_4.2.1 193 21 ∧ zq_at zy_makeTile_3_4.2.1 194 96 ∧ zq_at zy_makeTile_3_4.2.1 195 21 ∧ zq_at zy_makeTile_3_4.2.1 196 5 ∧ zq_at zy_makeTile_3_4.2.1 197 161 ∧ zq_at zy_makeTile_3_4.2.1 198 0 ∧ zq_at zy_makeTile_3_4.2.1 199 7 ∧ zq_at zy_makeTile_3_4.2.1 200 4 ∧ zq_at zy_makeTile_3_4.2.1 201 167 ∧ zq_at zy_makeTile_3_4.2.1 202 0 ∧ zq_at zy_makeTile_3_4.2.1 203 4 ∧ zq_at zy_makeTile_3_4.2.1 136 42 ∧ zq_at zy_makeTile_3_4.2.1 137 180 ∧ zq_at zy_makeTile_3_4.2.1 138 0 ∧ zq_at zy_makeTile_3_4.2.1 139 21 ∧ zq_at zy_makeTile_3_4.2.1 140 42 ∧ zq_at zy_makeTile_3_4.2.1 141 180 ∧ zq_at zy_makeTile_3_4.2.1 142 0 ∧ zq_at zy_makeTile_3_4.2.1 143 55 ∧ zq_at zy_makeTile_3_4.2.1 144 180 ∧ zq_at zy_makeTile_3_4.2.1 145 0 ∧ zq_at zy_makeTile_3_4.2.1 146 79 := by decide +kernel
theorem zd_3_4_191 : zz_D zy_makeTile_3_4 191 (.getfield 21) 3 194 := ⟨zq_180 zg_3_4_191.1 zg_3_4_191.2.1 zg_3_4_191.2.2.1 rfl, rfl⟩
theorem zd_3_4_194 : zz_D zy_makeTile_3_4 194 (.iadd) 1 195 := ⟨zq_96 zg_3_4_191.2.2.2.1, rfl⟩
theorem zd_3_4_195 : zz_D zy_makeTile_3_4 195 (.iload 5) 2 197 := ⟨zq_21 zg_3_4_191.2.2.2.2.1 zg_3_4_191.2.2.2.2.2.1, rfl⟩
theorem zd_3_4_197 : zz_B zy_makeTile_3_4 197 (Instr.if_icmp .lt) 204 200 := ⟨7, zq_161 zg_3_4_191.2.2.2.2.2.2.1 zg_3_4_191.2.2.2.2.2.2.2.1 zg_3_4_191.2.2.2.2.2.2.2.2.1 (by decide), rfl, rfl⟩
theorem zd_3_4_200 : zz_D zy_makeTile_3_4 200 (.iconst 1) 1 201 := ⟨zq_4 zg_3_4_191.2.2.2.2.2.2.2.2.2.1, rfl⟩
theorem zd_3_4_201 : zz_B zy_makeTile_3_4 201 Instr.goto 205 204 := ⟨4, zq_167 zg_3_4_191.2.2.2.2.2.2.2.2.2.2.1 zg_3_4_191.2.2.2.2.2.2.2.2.2.2.2.1 zg_3_4_191.2.2.2.2.2.2.2.2.2.2.2.2.1 (by decide), rfl, rfl⟩
theorem zd_3_4_136 : zz_D zy_makeTile_3_4 136 (.aload_n 0) 1 137 := ⟨zq_42 zg_3_4_191.2.2.2.2.2.2.2.2.2.2.2.2.2.1, rfl⟩
theorem zd_3_4_137 : zz_D zy_makeTile_3_4 137 (.getfield 21) 3 140 := ⟨zq_180 zg_3_4_191.2.2.2.2.2.2.2.2.2.2.2.2.2.2.1 zg_3_4_191.2.2.2.2.2.2.2.2.2.2.2.2.2.2.2.1 zg_3_4_191.2.2.2.2.2.2.2.2.2.2.2.2.2.2.2.2.1 rfl, rfl⟩
theorem zd_3_4_140 : zz_D zy_makeTile_3_4 140 (.aload_n 0) 1 141 := ⟨zq_42 zg_3_4_191.2.2.2.2.2.2.2.2.2.2.2.2.2.2.2.2.2.1, rfl⟩
theorem zd_3_4_141 : zz_D zy_makeTile_3_4 141 (.getfield 55) 3 144 := ⟨zq_180 zg_3_4_191.2.2.2.2.2.2.2.2.2.2.2.2.2.2.2.2.2.2.1 zg_3_4_191.2.2.2.2.2.2.2.2.2.2.2.2.2.2.2.2.2.2.2.1 zg_3_4_191.2.2.2.2.2.2.2.2.2.2.2.2.2.2.2.2.2.2.2.2.1 rfl, rfl⟩
theorem zd_3_4_144 : zz_D zy_makeTile_3_4 144 (.getfield 79) 3 147 := ⟨zq_180 zg_3_4_191.2.2.2.2.2.2.2.2.2.2.2.2.2.2.2.2.2.2.2.2.2.1 zg_3_4_191.2.2.2.2.2.2.2.2.2.2.2.2.2.2.2.2.2.2.2.2.2.2.1 zg_3_4_191.2.2.2.2.2.2.2.2.2.2.2.2.2.2.2.2.2.2.2.2.2.2.2 rfl, rfl⟩
theorem zg_3_4_147 : zq_at zy_makeTile_3_4.2.1 147 42 ∧ zq_at zy_makeTile_3_4.2.1 148 180 ∧ zq_at zy_makeTile_3_4.2.1 149 0 ∧ zq_at zy_makeTile_3_4.2.1 150 112 ∧ zq_at zy_makeTile_3_4.2.1 151 100 ∧ zq_at zy_makeTile_3_4.2.1 152 184 ∧ zq_at zy_makeTile_3_4.2.1 153 0 ∧ zq_at zy_makeTile_3_4.2.1 154 24 ∧ zq_at zy_makeTile_3_4.2.1 155 167 ∧ zq_at zy_makeTile_3_4.2.1 156 0 ∧ zq_at zy_makeTile_3_4.2.1 157 7 := by decide +kernel
theorem zd_3_4_147 : zz_D zy_makeTile_3_4 147 (.aload_n 0) 1 148 := ⟨zq_42 zg_3_4_147.1, rfl⟩
theorem zd_3_4_148 : zz_D zy_makeTile_3_4 148 (.getfield 112) 3 151 := ⟨zq_180 zg_3_4_147.2.1 zg_3_4_147.2.2.1 zg_3_4_147.2.2.2.1 rfl, rfl⟩
theorem zd_3_4_151 : zz_D zy_makeTile_3_4 151 (.isub) 1 152 := ⟨zq_100 zg_3_4_147.2.2.2.2.1, rfl⟩
theorem zd_3_4_152 : zz_D zy_makeTile_3_4 152 (.invokestatic 24) 3 155 := ⟨zq_184 zg_3_4_147.2.2.2.2.2.1 zg_3_4_147.2.2.2.2.2.2.1 zg_3_4_147.2.2.2.2.2.2.2.1 rfl, rfl⟩
theorem zd_3_4_155 : zz_B zy_makeTile_3_4 155 Instr.goto 162 158 := ⟨7, zq_167 zg_3_4_147.2.2.2.2.2.2.2.2.1 zg_3_4_147.2.2.2.2.2.2.2.2.2.1 zg_3_4_147.2.2.2.2.2.2.2.2.2.2 (by decide), rfl, rfl⟩

-- TensorForge$Network has (I)Z
abbrev zr_has_7_5 : Room := { frames := 0, cells := 0, slots := 0, locals := 0 }
def zp_has_7_5 (t : Int) (p0 : Int) (S0 : zz_S) : Int → zz_S → Prop := fun r S => S0 = S ∧ (0 ≤ r ∧ r ≤ 1) ∧ ((r = 1 ∧ 0 ≤ p0 ∧ p0 < S0 (zz_rf 3 t) 1) ∨ (r = 0 ∧ (p0 < 0 ∨ p0 ≥ S0 (zz_rf 3 t) 1)))
theorem zc_has_7_5 {g : mm_G} {l : Launch} (t : Int) (p0 : Int) (S0 : zz_S) (n : Nat) (hn : zz_end ≤ n) (G_S0 : zz_G S0) (ht : 0 ≤ t ∧ t ≤ 1) (hp0 : (-2147483648) ≤ p0 ∧ p0 ≤ 2147483647) : mm_Met g l zy_has_7_5 zr_has_7_5 [.ref (zz_rf 3 t), zi p0] (zz_M S0 n) n (zz_QI n (zp_has_7_5 t p0 S0)) := by
  refine zz_enter (by decide) (Nat.le_of_ble_eq_true rfl) (zz_less (ls1 := [some (.ref (zz_rf 3 t)), some (zi p0)]) ⟨rfl, ⟨rfl, trivial⟩⟩ ?_)
  have b_t := zz_rf3 (z := t) (by omega)
  refine zz_iload_n (x := p0) rfl zd_7_5_0 ?_
  refine zz_if_lt (by omega) zd_7_5_1 (fun c1 => ?_) (fun c1 => ?_)
  · refine zz_iconst zd_7_5_16 ?_
    exact zz_zret zd_7_5_17 rfl (by omega) (Nat.zero_le _) (Nat.zero_le _) ⟨_, _, rfl, rfl, by omega, by omega⟩
  · refine zz_iload_n (x := p0) rfl zd_7_5_4 ?_
    refine zz_aload_n (x := zz_rf 3 t) rfl zd_7_5_5 ?_
    have g2 := zz_G.r G_S0 (zz_rf 3 t) 1 1 11 (zR_k3_1 (by omega)) (zB_k3 (by omega))
    refine zz_geti (z := S0 (zz_rf 3 t) 1) zd_7_5_6 zf_Network_16 (zT_k3 (by omega)) rfl (zN_k3 hn (by omega)) rfl ?_
    refine zz_icmp_ge (by omega) (by omega) zd_7_5_9 (fun c3 => ?_) (fun c3 => ?_)
    · refine zz_iconst zd_7_5_16 ?_
      exact zz_zret zd_7_5_17 rfl (by omega) (Nat.zero_le _) (Nat.zero_le _) ⟨_, _, rfl, rfl, by omega, by omega⟩
    · refine zz_iconst zd_7_5_12 ?_
      refine zz_goto zd_7_5_13 ?_
      exact zz_zret zd_7_5_17 rfl (by omega) (Nat.zero_le _) (Nat.zero_le _) ⟨_, _, rfl, rfl, by omega, by omega⟩
theorem zk_Network_41 : mm_Vl "TensorForge$Network" 41 1 1 zy_has_7_5 := ⟨zyw_has_7_5, (R_Network, F_Network, 2), rfl, mm_tb_1 858 (by decide +kernel) rfl, mm_tb_1 859 (by decide +kernel) rfl, mm_tb_1 860 (by decide +kernel) rfl⟩
theorem zf_Network_45 : mm_Fl "TensorForge$Network" 45 2 2 .int false := ⟨R_Layer, F_Layer, 15, t_Layer, rfl, i_Layer, by decide, mm_tb_1 67 (by decide +kernel) rfl, rfl, t_Layer_ok, n_Layer, rfl, by decide +kernel⟩
abbrev zy_numbersFit_4_10 : mm_Y := (⟨"TensorForge$Layer", "numbersFit", "()Z"⟩, prog_4_method_10_code, 1, (some .boolean))
theorem zyw_numbersFit_4_10 : mm_Yw zy_numbersFit_4_10 0 := ⟨mm_tb_1 997 (by decide +kernel) rfl, mm_tb_1 3 (by decide +kernel) rfl, ⟨by decide, by decide⟩, by decide +kernel⟩
theorem zk_Layer_63 : mm_Sl "TensorForge$Layer" 63 3 zy_isWithin_4_9 := ⟨zyw_isWithin_4_9, mm_tb_1 998 (by decide +kernel) rfl, mm_tb_1 999 (by decide +kernel) rfl⟩
theorem zg_7_7_13 : zq_at zy_offer_7_7.2.1 13 153 ∧ zq_at zy_offer_7_7.2.1 14 0 ∧ zq_at zy_offer_7_7.2.1 15 14 ∧ zq_at zy_offer_7_7.2.1 27 4 ∧ zq_at zy_offer_7_7.2.1 28 172 ∧ zq_at zy_offer_7_7.2.1 16 42 ∧ zq_at zy_offer_7_7.2.1 17 43 ∧ zq_at zy_offer_7_7.2.1 18 180 ∧ zq_at zy_offer_7_7.2.1 19 0 ∧ zq_at zy_offer_7_7.2.1 20 45 ∧ zq_at zy_offer_7_7.2.1 21 182 ∧ zq_at zy_offer_7_7.2.1 22 0 ∧ zq_at zy_offer_7_7.2.1 23 41 ∧ zq_at zy_offer_7_7.2.1 24 154 ∧ zq_at zy_offer_7_7.2.1 25 0 ∧ zq_at zy_offer_7_7.2.1 26 5 ∧ zq_at zy_offer_7_7.2.1 29 43 ∧ zq_at zy_offer_7_7.2.1 30 182 ∧ zq_at zy_offer_7_7.2.1 31 0 ∧ zq_at zy_offer_7_7.2.1 32 48 := by decide +kernel
theorem zd_7_7_13 : zz_B zy_offer_7_7 13 (Instr.ifCond .eq) 27 16 := ⟨14, zq_153 zg_7_7_13.1 zg_7_7_13.2.1 zg_7_7_13.2.2.1 (by decide), rfl, rfl⟩
theorem zd_7_7_27 : zz_D zy_offer_7_7 27 (.iconst 1) 1 28 := ⟨zq_4 zg_7_7_13.2.2.2.1, rfl⟩
theorem zd_7_7_28 : zz_D zy_offer_7_7 28 (.ireturn) 1 29 := ⟨zq_172 zg_7_7_13.2.2.2.2.1, rfl⟩
theorem zd_7_7_16 : zz_D zy_offer_7_7 16 (.aload_n 0) 1 17 := ⟨zq_42 zg_7_7_13.2.2.2.2.2.1, rfl⟩
theorem zd_7_7_17 : zz_D zy_offer_7_7 17 (.aload_n 1) 1 18 := ⟨zq_43 zg_7_7_13.2.2.2.2.2.2.1, rfl⟩
theorem zd_7_7_18 : zz_D zy_offer_7_7 18 (.getfield 45) 3 21 := ⟨zq_180 zg_7_7_13.2.2.2.2.2.2.2.1 zg_7_7_13.2.2.2.2.2.2.2.2.1 zg_7_7_13.2.2.2.2.2.2.2.2.2.1 rfl, rfl⟩
theorem zd_7_7_21 : zz_D zy_offer_7_7 21 (.invokevirtual 41) 3 24 := ⟨zq_182 zg_7_7_13.2.2.2.2.2.2.2.2.2.2.1 zg_7_7_13.2.2.2.2.2.2.2.2.2.2.2.1 zg_7_7_13.2.2.2.2.2.2.2.2.2.2.2.2.1 rfl, rfl⟩
theorem zd_7_7_24 : zz_B zy_offer_7_7 24 (Instr.ifCond .ne) 29 27 := ⟨5, zq_154 zg_7_7_13.2.2.2.2.2.2.2.2.2.2.2.2.2.1 zg_7_7_13.2.2.2.2.2.2.2.2.2.2.2.2.2.2.1 zg_7_7_13.2.2.2.2.2.2.2.2.2.2.2.2.2.2.2.1 (by decide), rfl, rfl⟩
theorem zd_7_7_29 : zz_D zy_offer_7_7 29 (.aload_n 1) 1 30 := ⟨zq_43 zg_7_7_13.2.2.2.2.2.2.2.2.2.2.2.2.2.2.2.2.1, rfl⟩
theorem zd_7_7_30 : zz_D zy_offer_7_7 30 (.invokevirtual 48) 3 33 := ⟨zq_182 zg_7_7_13.2.2.2.2.2.2.2.2.2.2.2.2.2.2.2.2.2.1 zg_7_7_13.2.2.2.2.2.2.2.2.2.2.2.2.2.2.2.2.2.2.1 zg_7_7_13.2.2.2.2.2.2.2.2.2.2.2.2.2.2.2.2.2.2.2 rfl, rfl⟩
theorem zg_4_10_0 : zq_at zy_numbersFit_4_10.2.1 0 42 ∧ zq_at zy_numbersFit_4_10.2.1 1 180 ∧ zq_at zy_numbersFit_4_10.2.1 2 0 ∧ zq_at zy_numbersFit_4_10.2.1 3 13 ∧ zq_at zy_numbersFit_4_10.2.1 4 6 ∧ zq_at zy_numbersFit_4_10.2.1 5 160 ∧ zq_at zy_numbersFit_4_10.2.1 6 0 ∧ zq_at zy_numbersFit_4_10.2.1 7 14 ∧ zq_at zy_numbersFit_4_10.2.1 19 42 ∧ zq_at zy_numbersFit_4_10.2.1 20 180 ∧ zq_at zy_numbersFit_4_10.2.1 21 0 ∧ zq_at zy_numbersFit_4_10.2.1 22 23 ∧ zq_at zy_numbersFit_4_10.2.1 23 4 ∧ zq_at zy_numbersFit_4_10.2.1 24 6 ∧ zq_at zy_numbersFit_4_10.2.1 25 184 ∧ zq_at zy_numbersFit_4_10.2.1 26 0 ∧ zq_at zy_numbersFit_4_10.2.1 27 63 ∧ zq_at zy_numbersFit_4_10.2.1 28 153 ∧ zq_at zy_numbersFit_4_10.2.1 29 0 ∧ zq_at zy_numbersFit_4_10.2.1 30 15 ∧ zq_at zy_numbersFit_4_10.2.1 43 3 ∧ zq_at zy_numbersFit_4_10.2.1 44 172 ∧ zq_at zy_numbersFit_4_10.2.1 31 42 := by decide +kernel
theorem zd_4_10_0 : zz_D zy_numbersFit_4_10 0 (.aload_n 0) 1 1 := ⟨zq_42 zg_4_10_0.1, rfl⟩
theorem zd_4_10_1 : zz_D zy_numbersFit_4_10 1 (.getfield 13) 3 4 := ⟨zq_180 zg_4_10_0.2.1 zg_4_10_0.2.2.1 zg_4_10_0.2.2.2.1 rfl, rfl⟩
theorem zd_4_10_4 : zz_D zy_numbersFit_4_10 4 (.iconst 3) 1 5 := ⟨zq_6 zg_4_10_0.2.2.2.2.1, rfl⟩
theorem zd_4_10_5 : zz_B zy_numbersFit_4_10 5 (Instr.if_icmp .ne) 19 8 := ⟨14, zq_160 zg_4_10_0.2.2.2.2.2.1 zg_4_10_0.2.2.2.2.2.2.1 zg_4_10_0.2.2.2.2.2.2.2.1 (by decide), rfl, rfl⟩
theorem zd_4_10_19 : zz_D zy_numbersFit_4_10 19 (.aload_n 0) 1 20 := ⟨zq_42 zg_4_10_0.2.2.2.2.2.2.2.2.1, rfl⟩
theorem zd_4_10_20 : zz_D zy_numbersFit_4_10 20 (.getfield 23) 3 23 := ⟨zq_180 zg_4_10_0.2.2.2.2.2.2.2.2.2.1 zg_4_10_0.2.2.2.2.2.2.2.2.2.2.1 zg_4_10_0.2.2.2.2.2.2.2.2.2.2.2.1 rfl, rfl⟩
theorem zd_4_10_23 : zz_D zy_numbersFit_4_10 23 (.iconst 1) 1 24 := ⟨zq_4 zg_4_10_0.2.2.2.2.2.2.2.2.2.2.2.2.1, rfl⟩
theorem zd_4_10_24 : zz_D zy_numbersFit_4_10 24 (.iconst 3) 1 25 := ⟨zq_6 zg_4_10_0.2.2.2.2.2.2.2.2.2.2.2.2.2.1, rfl⟩
theorem zd_4_10_25 : zz_D zy_numbersFit_4_10 25 (.invokestatic 63) 3 28 := ⟨zq_184 zg_4_10_0.2.2.2.2.2.2.2.2.2.2.2.2.2.2.1 zg_4_10_0.2.2.2.2.2.2.2.2.2.2.2.2.2.2.2.1 zg_4_10_0.2.2.2.2.2.2.2.2.2.2.2.2.2.2.2.2.1 rfl, rfl⟩
theorem zd_4_10_28 : zz_B zy_numbersFit_4_10 28 (Instr.ifCond .eq) 43 31 := ⟨15, zq_153 zg_4_10_0.2.2.2.2.2.2.2.2.2.2.2.2.2.2.2.2.2.1 zg_4_10_0.2.2.2.2.2.2.2.2.2.2.2.2.2.2.2.2.2.2.1 zg_4_10_0.2.2.2.2.2.2.2.2.2.2.2.2.2.2.2.2.2.2.2.1 (by decide), rfl, rfl⟩
theorem zd_4_10_43 : zz_D zy_numbersFit_4_10 43 (.iconst 0) 1 44 := ⟨zq_3 zg_4_10_0.2.2.2.2.2.2.2.2.2.2.2.2.2.2.2.2.2.2.2.2.1, rfl⟩
theorem zd_4_10_44 : zz_D zy_numbersFit_4_10 44 (.ireturn) 1 45 := ⟨zq_172 zg_4_10_0.2.2.2.2.2.2.2.2.2.2.2.2.2.2.2.2.2.2.2.2.2.1, rfl⟩
theorem zd_4_10_31 : zz_D zy_numbersFit_4_10 31 (.aload_n 0) 1 32 := ⟨zq_42 zg_4_10_0.2.2.2.2.2.2.2.2.2.2.2.2.2.2.2.2.2.2.2.2.2.2, rfl⟩
theorem zg_4_10_32 : zq_at zy_numbersFit_4_10.2.1 32 180 ∧ zq_at zy_numbersFit_4_10.2.1 33 0 ∧ zq_at zy_numbersFit_4_10.2.1 34 26 ∧ zq_at zy_numbersFit_4_10.2.1 35 4 ∧ zq_at zy_numbersFit_4_10.2.1 36 6 ∧ zq_at zy_numbersFit_4_10.2.1 37 184 ∧ zq_at zy_numbersFit_4_10.2.1 38 0 ∧ zq_at zy_numbersFit_4_10.2.1 39 63 ∧ zq_at zy_numbersFit_4_10.2.1 40 154 ∧ zq_at zy_numbersFit_4_10.2.1 41 0 ∧ zq_at zy_numbersFit_4_10.2.1 42 5 ∧ zq_at zy_numbersFit_4_10.2.1 45 42 ∧ zq_at zy_numbersFit_4_10.2.1 46 180 ∧ zq_at zy_numbersFit_4_10.2.1 47 0 ∧ zq_at zy_numbersFit_4_10.2.1 48 13 ∧ zq_at zy_numbersFit_4_10.2.1 49 5 ∧ zq_at zy_numbersFit_4_10.2.1 50 160 ∧ zq_at zy_numbersFit_4_10.2.1 51 0 ∧ zq_at zy_numbersFit_4_10.2.1 52 13 ∧ zq_at zy_numbersFit_4_10.2.1 63 42 ∧ zq_at zy_numbersFit_4_10.2.1 64 180 ∧ zq_at zy_numbersFit_4_10.2.1 65 0 ∧ zq_at zy_numbersFit_4_10.2.1 66 29 ∧ zq_at zy_numbersFit_4_10.2.1 67 4 := by decide +kernel
theorem zd_4_10_32 : zz_D zy_numbersFit_4_10 32 (.getfield 26) 3 35 := ⟨zq_180 zg_4_10_32.1 zg_4_10_32.2.1 zg_4_10_32.2.2.1 rfl, rfl⟩
theorem zd_4_10_35 : zz_D zy_numbersFit_4_10 35 (.iconst 1) 1 36 := ⟨zq_4 zg_4_10_32.2.2.2.1, rfl⟩
theorem zd_4_10_36 : zz_D zy_numbersFit_4_10 36 (.iconst 3) 1 37 := ⟨zq_6 zg_4_10_32.2.2.2.2.1, rfl⟩
theorem zd_4_10_37 : zz_D zy_numbersFit_4_10 37 (.invokestatic 63) 3 40 := ⟨zq_184 zg_4_10_32.2.2.2.2.2.1 zg_4_10_32.2.2.2.2.2.2.1 zg_4_10_32.2.2.2.2.2.2.2.1 rfl, rfl⟩
theorem zd_4_10_40 : zz_B zy_numbersFit_4_10 40 (Instr.ifCond .ne) 45 43 := ⟨5, zq_154 zg_4_10_32.2.2.2.2.2.2.2.2.1 zg_4_10_32.2.2.2.2.2.2.2.2.2.1 zg_4_10_32.2.2.2.2.2.2.2.2.2.2.1 (by decide), rfl, rfl⟩
theorem zd_4_10_45 : zz_D zy_numbersFit_4_10 45 (.aload_n 0) 1 46 := ⟨zq_42 zg_4_10_32.2.2.2.2.2.2.2.2.2.2.2.1, rfl⟩
theorem zd_4_10_46 : zz_D zy_numbersFit_4_10 46 (.getfield 13) 3 49 := ⟨zq_180 zg_4_10_32.2.2.2.2.2.2.2.2.2.2.2.2.1 zg_4_10_32.2.2.2.2.2.2.2.2.2.2.2.2.2.1 zg_4_10_32.2.2.2.2.2.2.2.2.2.2.2.2.2.2.1 rfl, rfl⟩
theorem zd_4_10_49 : zz_D zy_numbersFit_4_10 49 (.iconst 2) 1 50 := ⟨zq_5 zg_4_10_32.2.2.2.2.2.2.2.2.2.2.2.2.2.2.2.1, rfl⟩
theorem zd_4_10_50 : zz_B zy_numbersFit_4_10 50 (Instr.if_icmp .ne) 63 53 := ⟨13, zq_160 zg_4_10_32.2.2.2.2.2.2.2.2.2.2.2.2.2.2.2.2.1 zg_4_10_32.2.2.2.2.2.2.2.2.2.2.2.2.2.2.2.2.2.1 zg_4_10_32.2.2.2.2.2.2.2.2.2.2.2.2.2.2.2.2.2.2.1 (by decide), rfl, rfl⟩
theorem zd_4_10_63 : zz_D zy_numbersFit_4_10 63 (.aload_n 0) 1 64 := ⟨zq_42 zg_4_10_32.2.2.2.2.2.2.2.2.2.2.2.2.2.2.2.2.2.2.2.1, rfl⟩
theorem zd_4_10_64 : zz_D zy_numbersFit_4_10 64 (.getfield 29) 3 67 := ⟨zq_180 zg_4_10_32.2.2.2.2.2.2.2.2.2.2.2.2.2.2.2.2.2.2.2.2.1 zg_4_10_32.2.2.2.2.2.2.2.2.2.2.2.2.2.2.2.2.2.2.2.2.2.1 zg_4_10_32.2.2.2.2.2.2.2.2.2.2.2.2.2.2.2.2.2.2.2.2.2.2.1 rfl, rfl⟩
theorem zd_4_10_67 : zz_D zy_numbersFit_4_10 67 (.iconst 1) 1 68 := ⟨zq_4 zg_4_10_32.2.2.2.2.2.2.2.2.2.2.2.2.2.2.2.2.2.2.2.2.2.2.2, rfl⟩
theorem zg_4_10_68 : zq_at zy_numbersFit_4_10.2.1 68 5 ∧ zq_at zy_numbersFit_4_10.2.1 69 184 ∧ zq_at zy_numbersFit_4_10.2.1 70 0 ∧ zq_at zy_numbersFit_4_10.2.1 71 63 ∧ zq_at zy_numbersFit_4_10.2.1 72 153 ∧ zq_at zy_numbersFit_4_10.2.1 73 0 ∧ zq_at zy_numbersFit_4_10.2.1 74 45 ∧ zq_at zy_numbersFit_4_10.2.1 117 3 ∧ zq_at zy_numbersFit_4_10.2.1 118 172 ∧ zq_at zy_numbersFit_4_10.2.1 75 42 ∧ zq_at zy_numbersFit_4_10.2.1 76 180 ∧ zq_at zy_numbersFit_4_10.2.1 77 0 ∧ zq_at zy_numbersFit_4_10.2.1 78 32 ∧ zq_at zy_numbersFit_4_10.2.1 79 3 ∧ zq_at zy_numbersFit_4_10.2.1 80 4 ∧ zq_at zy_numbersFit_4_10.2.1 81 184 ∧ zq_at zy_numbersFit_4_10.2.1 82 0 ∧ zq_at zy_numbersFit_4_10.2.1 83 63 ∧ zq_at zy_numbersFit_4_10.2.1 84 153 ∧ zq_at zy_numbersFit_4_10.2.1 85 0 ∧ zq_at zy_numbersFit_4_10.2.1 86 33 ∧ zq_at zy_numbersFit_4_10.2.1 87 42 := by decide +kernel
theorem zd_4_10_68 : zz_D zy_numbersFit_4_10 68 (.iconst 2) 1 69 := ⟨zq_5 zg_4_10_68.1, rfl⟩
theorem zd_4_10_69 : zz_D zy_numbersFit_4_10 69 (.invokestatic 63) 3 72 := ⟨zq_184 zg_4_10_68.2.1 zg_4_10_68.2.2.1 zg_4_10_68.2.2.2.1 rfl, rfl⟩
theorem zd_4_10_72 : zz_B zy_numbersFit_4_10 72 (Instr.ifCond .eq) 117 75 := ⟨45, zq_153 zg_4_10_68.2.2.2.2.1 zg_4_10_68.2.2.2.2.2.1 zg_4_10_68.2.2.2.2.2.2.1 (by decide), rfl, rfl⟩
theorem zd_4_10_117 : zz_D zy_numbersFit_4_10 117 (.iconst 0) 1 118 := ⟨zq_3 zg_4_10_68.2.2.2.2.2.2.2.1, rfl⟩
theorem zd_4_10_118 : zz_D zy_numbersFit_4_10 118 (.ireturn) 1 119 := ⟨zq_172 zg_4_10_68.2.2.2.2.2.2.2.2.1, rfl⟩
theorem zd_4_10_75 : zz_D zy_numbersFit_4_10 75 (.aload_n 0) 1 76 := ⟨zq_42 zg_4_10_68.2.2.2.2.2.2.2.2.2.1, rfl⟩
theorem zd_4_10_76 : zz_D zy_numbersFit_4_10 76 (.getfield 32) 3 79 := ⟨zq_180 zg_4_10_68.2.2.2.2.2.2.2.2.2.2.1 zg_4_10_68.2.2.2.2.2.2.2.2.2.2.2.1 zg_4_10_68.2.2.2.2.2.2.2.2.2.2.2.2.1 rfl, rfl⟩
theorem zd_4_10_79 : zz_D zy_numbersFit_4_10 79 (.iconst 0) 1 80 := ⟨zq_3 zg_4_10_68.2.2.2.2.2.2.2.2.2.2.2.2.2.1, rfl⟩
theorem zd_4_10_80 : zz_D zy_numbersFit_4_10 80 (.iconst 1) 1 81 := ⟨zq_4 zg_4_10_68.2.2.2.2.2.2.2.2.2.2.2.2.2.2.1, rfl⟩
theorem zd_4_10_81 : zz_D zy_numbersFit_4_10 81 (.invokestatic 63) 3 84 := ⟨zq_184 zg_4_10_68.2.2.2.2.2.2.2.2.2.2.2.2.2.2.2.1 zg_4_10_68.2.2.2.2.2.2.2.2.2.2.2.2.2.2.2.2.1 zg_4_10_68.2.2.2.2.2.2.2.2.2.2.2.2.2.2.2.2.2.1 rfl, rfl⟩
theorem zd_4_10_84 : zz_B zy_numbersFit_4_10 84 (Instr.ifCond .eq) 117 87 := ⟨33, zq_153 zg_4_10_68.2.2.2.2.2.2.2.2.2.2.2.2.2.2.2.2.2.2.1 zg_4_10_68.2.2.2.2.2.2.2.2.2.2.2.2.2.2.2.2.2.2.2.1 zg_4_10_68.2.2.2.2.2.2.2.2.2.2.2.2.2.2.2.2.2.2.2.2.1 (by decide), rfl, rfl⟩
theorem zd_4_10_87 : zz_D zy_numbersFit_4_10 87 (.aload_n 0) 1 88 := ⟨zq_42 zg_4_10_68.2.2.2.2.2.2.2.2.2.2.2.2.2.2.2.2.2.2.2.2.2, rfl⟩
theorem zg_4_10_88 : zq_at zy_numbersFit_4_10.2.1 88 180 ∧ zq_at zy_numbersFit_4_10.2.1 89 0 ∧ zq_at zy_numbersFit_4_10.2.1 90 35 ∧ zq_at zy_numbersFit_4_10.2.1 91 3 ∧ zq_at zy_numbersFit_4_10.2.1 92 16 ∧ zq_at zy_numbersFit_4_10.2.1 93 15 ∧ zq_at zy_numbersFit_4_10.2.1 94 184 ∧ zq_at zy_numbersFit_4_10.2.1 95 0 ∧ zq_at zy_numbersFit_4_10.2.1 96 63 ∧ zq_at zy_numbersFit_4_10.2.1 97 153 ∧ zq_at zy_numbersFit_4_10.2.1 98 0 ∧ zq_at zy_numbersFit_4_10.2.1 99 20 ∧ zq_at zy_numbersFit_4_10.2.1 100 42 ∧ zq_at zy_numbersFit_4_10.2.1 101 180 ∧ zq_at zy_numbersFit_4_10.2.1 102 0 ∧ zq_at zy_numbersFit_4_10.2.1 103 60 ∧ zq_at zy_numbersFit_4_10.2.1 104 4 ∧ zq_at zy_numbersFit_4_10.2.1 105 16 ∧ zq_at zy_numbersFit_4_10.2.1 106 16 ∧ zq_at zy_numbersFit_4_10.2.1 107 184 ∧ zq_at zy_numbersFit_4_10.2.1 108 0 ∧ zq_at zy_numbersFit_4_10.2.1 109 63 := by decide +kernel
theorem zd_4_10_88 : zz_D zy_numbersFit_4_10 88 (.getfield 35) 3 91 := ⟨zq_180 zg_4_10_88.1 zg_4_10_88.2.1 zg_4_10_88.2.2.1 rfl, rfl⟩
theorem zd_4_10_91 : zz_D zy_numbersFit_4_10 91 (.iconst 0) 1 92 := ⟨zq_3 zg_4_10_88.2.2.2.1, rfl⟩
theorem zd_4_10_92 : zz_D zy_numbersFit_4_10 92 (.bipush 15) 2 94 := ⟨zq_16 zg_4_10_88.2.2.2.2.1 zg_4_10_88.2.2.2.2.2.1 (by decide), rfl⟩
theorem zd_4_10_94 : zz_D zy_numbersFit_4_10 94 (.invokestatic 63) 3 97 := ⟨zq_184 zg_4_10_88.2.2.2.2.2.2.1 zg_4_10_88.2.2.2.2.2.2.2.1 zg_4_10_88.2.2.2.2.2.2.2.2.1 rfl, rfl⟩
theorem zd_4_10_97 : zz_B zy_numbersFit_4_10 97 (Instr.ifCond .eq) 117 100 := ⟨20, zq_153 zg_4_10_88.2.2.2.2.2.2.2.2.2.1 zg_4_10_88.2.2.2.2.2.2.2.2.2.2.1 zg_4_10_88.2.2.2.2.2.2.2.2.2.2.2.1 (by decide), rfl, rfl⟩
theorem zd_4_10_100 : zz_D zy_numbersFit_4_10 100 (.aload_n 0) 1 101 := ⟨zq_42 zg_4_10_88.2.2.2.2.2.2.2.2.2.2.2.2.1, rfl⟩
theorem zd_4_10_101 : zz_D zy_numbersFit_4_10 101 (.getfield 60) 3 104 := ⟨zq_180 zg_4_10_88.2.2.2.2.2.2.2.2.2.2.2.2.2.1 zg_4_10_88.2.2.2.2.2.2.2.2.2.2.2.2.2.2.1 zg_4_10_88.2.2.2.2.2.2.2.2.2.2.2.2.2.2.2.1 rfl, rfl⟩
theorem zd_4_10_104 : zz_D zy_numbersFit_4_10 104 (.iconst 1) 1 105 := ⟨zq_4 zg_4_10_88.2.2.2.2.2.2.2.2.2.2.2.2.2.2.2.2.1, rfl⟩
theorem zd_4_10_105 : zz_D zy_numbersFit_4_10 105 (.bipush 16) 2 107 := ⟨zq_16 zg_4_10_88.2.2.2.2.2.2.2.2.2.2.2.2.2.2.2.2.2.1 zg_4_10_88.2.2.2.2.2.2.2.2.2.2.2.2.2.2.2.2.2.2.1 (by decide), rfl⟩
theorem zd_4_10_107 : zz_D zy_numbersFit_4_10 107 (.invokestatic 63) 3 110 := ⟨zq_184 zg_4_10_88.2.2.2.2.2.2.2.2.2.2.2.2.2.2.2.2.2.2.2.1 zg_4_10_88.2.2.2.2.2.2.2.2.2.2.2.2.2.2.2.2.2.2.2.2.1 zg_4_10_88.2.2.2.2.2.2.2.2.2.2.2.2.2.2.2.2.2.2.2.2.2 rfl, rfl⟩
theorem zg_4_10_110 : zq_at zy_numbersFit_4_10.2.1 110 153 ∧ zq_at zy_numbersFit_4_10.2.1 111 0 ∧ zq_at zy_numbersFit_4_10.2.1 112 7 ∧ zq_at zy_numbersFit_4_10.2.1 113 4 ∧ zq_at zy_numbersFit_4_10.2.1 114 167 ∧ zq_at zy_numbersFit_4_10.2.1 115 0 ∧ zq_at zy_numbersFit_4_10.2.1 116 4 ∧ zq_at zy_numbersFit_4_10.2.1 53 42 ∧ zq_at zy_numbersFit_4_10.2.1 54 180 ∧ zq_at zy_numbersFit_4_10.2.1 55 0 ∧ zq_at zy_numbersFit_4_10.2.1 56 29 ∧ zq_at zy_numbersFit_4_10.2.1 57 4 ∧ zq_at zy_numbersFit_4_10.2.1 58 6 ∧ zq_at zy_numbersFit_4_10.2.1 59 184 ∧ zq_at zy_numbersFit_4_10.2.1 60 0 ∧ zq_at zy_numbersFit_4_10.2.1 61 63 ∧ zq_at zy_numbersFit_4_10.2.1 62 172 ∧ zq_at zy_numbersFit_4_10.2.1 8 42 ∧ zq_at zy_numbersFit_4_10.2.1 9 180 ∧ zq_at zy_numbersFit_4_10.2.1 10 0 ∧ zq_at zy_numbersFit_4_10.2.1 11 35 ∧ zq_at zy_numbersFit_4_10.2.1 12 3 ∧ zq_at zy_numbersFit_4_10.2.1 13 16 ∧ zq_at zy_numbersFit_4_10.2.1 14 15 := by decide +kernel
theorem zd_4_10_110 : zz_B zy_numbersFit_4_10 110 (Instr.ifCond .eq) 117 113 := ⟨7, zq_153 zg_4_10_110.1 zg_4_10_110.2.1 zg_4_10_110.2.2.1 (by decide), rfl, rfl⟩
theorem zd_4_10_113 : zz_D zy_numbersFit_4_10 113 (.iconst 1) 1 114 := ⟨zq_4 zg_4_10_110.2.2.2.1, rfl⟩
theorem zd_4_10_114 : zz_B zy_numbersFit_4_10 114 Instr.goto 118 117 := ⟨4, zq_167 zg_4_10_110.2.2.2.2.1 zg_4_10_110.2.2.2.2.2.1 zg_4_10_110.2.2.2.2.2.2.1 (by decide), rfl, rfl⟩
theorem zd_4_10_53 : zz_D zy_numbersFit_4_10 53 (.aload_n 0) 1 54 := ⟨zq_42 zg_4_10_110.2.2.2.2.2.2.2.1, rfl⟩
theorem zd_4_10_54 : zz_D zy_numbersFit_4_10 54 (.getfield 29) 3 57 := ⟨zq_180 zg_4_10_110.2.2.2.2.2.2.2.2.1 zg_4_10_110.2.2.2.2.2.2.2.2.2.1 zg_4_10_110.2.2.2.2.2.2.2.2.2.2.1 rfl, rfl⟩
theorem zd_4_10_57 : zz_D zy_numbersFit_4_10 57 (.iconst 1) 1 58 := ⟨zq_4 zg_4_10_110.2.2.2.2.2.2.2.2.2.2.2.1, rfl⟩
theorem zd_4_10_58 : zz_D zy_numbersFit_4_10 58 (.iconst 3) 1 59 := ⟨zq_6 zg_4_10_110.2.2.2.2.2.2.2.2.2.2.2.2.1, rfl⟩
theorem zd_4_10_59 : zz_D zy_numbersFit_4_10 59 (.invokestatic 63) 3 62 := ⟨zq_184 zg_4_10_110.2.2.2.2.2.2.2.2.2.2.2.2.2.1 zg_4_10_110.2.2.2.2.2.2.2.2.2.2.2.2.2.2.1 zg_4_10_110.2.2.2.2.2.2.2.2.2.2.2.2.2.2.2.1 rfl, rfl⟩
theorem zd_4_10_62 : zz_D zy_numbersFit_4_10 62 (.ireturn) 1 63 := ⟨zq_172 zg_4_10_110.2.2.2.2.2.2.2.2.2.2.2.2.2.2.2.2.1, rfl⟩
theorem zd_4_10_8 : zz_D zy_numbersFit_4_10 8 (.aload_n 0) 1 9 := ⟨zq_42 zg_4_10_110.2.2.2.2.2.2.2.2.2.2.2.2.2.2.2.2.2.1, rfl⟩
theorem zd_4_10_9 : zz_D zy_numbersFit_4_10 9 (.getfield 35) 3 12 := ⟨zq_180 zg_4_10_110.2.2.2.2.2.2.2.2.2.2.2.2.2.2.2.2.2.2.1 zg_4_10_110.2.2.2.2.2.2.2.2.2.2.2.2.2.2.2.2.2.2.2.1 zg_4_10_110.2.2.2.2.2.2.2.2.2.2.2.2.2.2.2.2.2.2.2.2.1 rfl, rfl⟩
theorem zd_4_10_12 : zz_D zy_numbersFit_4_10 12 (.iconst 0) 1 13 := ⟨zq_3 zg_4_10_110.2.2.2.2.2.2.2.2.2.2.2.2.2.2.2.2.2.2.2.2.2.1, rfl⟩
theorem zd_4_10_13 : zz_D zy_numbersFit_4_10 13 (.bipush 15) 2 15 := ⟨zq_16 zg_4_10_110.2.2.2.2.2.2.2.2.2.2.2.2.2.2.2.2.2.2.2.2.2.2.1 zg_4_10_110.2.2.2.2.2.2.2.2.2.2.2.2.2.2.2.2.2.2.2.2.2.2.2 (by decide), rfl⟩
theorem zg_4_10_15 : zq_at zy_numbersFit_4_10.2.1 15 184 ∧ zq_at zy_numbersFit_4_10.2.1 16 0 ∧ zq_at zy_numbersFit_4_10.2.1 17 63 ∧ zq_at zy_numbersFit_4_10.2.1 18 172 := by decide +kernel
theorem zd_4_10_15 : zz_D zy_numbersFit_4_10 15 (.invokestatic 63) 3 18 := ⟨zq_184 zg_4_10_15.1 zg_4_10_15.2.1 zg_4_10_15.2.2.1 rfl, rfl⟩
theorem zd_4_10_18 : zz_D zy_numbersFit_4_10 18 (.ireturn) 1 19 := ⟨zq_172 zg_4_10_15.2.2.2, rfl⟩
-- TensorForge$Layer numbersFit ()Z
abbrev zr_numbersFit_4_10 : Room := { frames := 1, cells := 0, slots := 0, locals := 14 }
def zp_numbersFit_4_10 (t : Int) (S0 : zz_S) : Int → zz_S → Prop := fun r S => S0 = S ∧ (0 ≤ r ∧ r ≤ 1) ∧ (r = 1 → (S0 (zz_rf 6 t) 0 = 3 ∨ (S0 (zz_rf 6 t) 3 ≤ 3 ∧ S0 (zz_rf 6 t) 4 ≤ 3)) ∧ (S0 (zz_rf 6 t) 0 = 3 ∨ S0 (zz_rf 6 t) 0 = 2 ∨ S0 (zz_rf 6 t) 12 ≤ 16)) ∧ ((r = 1 ∧ zn_fit (S0 (zz_rf 6 t) 0) (S0 (zz_rf 6 t) 3) (S0 (zz_rf 6 t) 4) (S0 (zz_rf 6 t) 5) (S0 (zz_rf 6 t) 6) (S0 (zz_rf 6 t) 7) (S0 (zz_rf 6 t) 12)) ∨ (r = 0 ∧ ¬ zn_fit (S0 (zz_rf 6 t) 0) (S0 (zz_rf 6 t) 3) (S0 (zz_rf 6 t) 4) (S0 (zz_rf 6 t) 5) (S0 (zz_rf 6 t) 6) (S0 (zz_rf 6 t) 7) (S0 (zz_rf 6 t) 12)))
theorem zc_numbersFit_4_10 {g : mm_G} {l : Launch} (t : Int) (S0 : zz_S) (n : Nat) (hn : zz_end ≤ n) (G_S0 : zz_G S0) (ht : 0 ≤ t ∧ t ≤ 23) : mm_Met g l zy_numbersFit_4_10 zr_numbersFit_4_10 [.ref (zz_rf 6 t)] (zz_M S0 n) n (zz_QI n (zp_numbersFit_4_10 t S0)) := by
  refine zz_enter (by decide) (Nat.le_of_ble_eq_true rfl) (zz_less (ls1 := [some (.ref (zz_rf 6 t))]) ⟨rfl, trivial⟩ ?_)
  have b_t := zz_rf6 (z := t) (by omega)
  refine zz_aload_n (x := zz_rf 6 t) rfl zd_4_10_0 ?_
  have g1 := zz_G.r G_S0 (zz_rf 6 t) 0 (-2147483648) 2147483647 (zR_k6_0 (by omega)) (zB_k6 (by omega))
  refine zz_geti (z := S0 (zz_rf 6 t) 0) zd_4_10_1 zf_Layer_13 (zT_k6 (by omega)) rfl (zN_k6 hn (by omega)) rfl ?_
  refine zz_iconst zd_4_10_4 ?_
  refine zz_icmp_ne (by omega) (by omega) zd_4_10_5 (fun c2 => ?_) (fun c2 => ?_)
  · refine zz_aload_n (x := zz_rf 6 t) rfl zd_4_10_19 ?_
    have g3 := zz_G.r G_S0 (zz_rf 6 t) 3 (-2147483648) 2147483647 (zR_k6_3 (by omega)) (zB_k6 (by omega))
    refine zz_geti (z := S0 (zz_rf 6 t) 3) zd_4_10_20 zf_Layer_23 (zT_k6 (by omega)) rfl (zN_k6 hn (by omega)) rfl ?_
    refine zz_iconst zd_4_10_23 ?_
    refine zz_iconst zd_4_10_24 ?_
    refine zz_callSI [zi (S0 (zz_rf 6 t) 3), zi 1, zi 3] zd_4_10_25 zk_Layer_63 rfl rfl ⟨Nat.le_of_ble_eq_true rfl, Nat.le_of_ble_eq_true rfl⟩ ⟨rfl, rfl⟩ (Nat.zero_le _) (Nat.zero_le _) (zc_isWithin_4_9 (S0 (zz_rf 6 t) 3) 1 3 S0 n hn G_S0 (by omega) (by omega) (by omega)) (fun v5 S4 hP => ?_)
    obtain ⟨rfl, o6, o7⟩ := hP
    rcases (by omega : v5 = 0 ∨ v5 = 1) with rfl | rfl
    · refine zz_if_eq (by omega) zd_4_10_28 (fun c8 => ?_) (fun c8 => ?_)
      · refine zz_iconst zd_4_10_43 ?_
        exact zz_zret zd_4_10_44 rfl (by omega) (Nat.zero_le _) (Nat.zero_le _) ⟨_, _, rfl, rfl, by omega, by omega, (Or.inr ⟨rfl, by unfold zn_fit; omega⟩)⟩
      · exfalso; omega
    · refine zz_if_eq (by omega) zd_4_10_28 (fun c9 => ?_) (fun c9 => ?_)
      · exfalso; omega
      · refine zz_aload_n (x := zz_rf 6 t) rfl zd_4_10_31 ?_
        have g10 := zz_G.r G_S0 (zz_rf 6 t) 4 (-2147483648) 2147483647 (zR_k6_4 (by omega)) (zB_k6 (by omega))
        refine zz_geti (z := S0 (zz_rf 6 t) 4) zd_4_10_32 zf_Layer_26 (zT_k6 (by omega)) rfl (zN_k6 hn (by omega)) rfl ?_
        refine zz_iconst zd_4_10_35 ?_
        refine zz_iconst zd_4_10_36 ?_
        refine zz_callSI [zi (S0 (zz_rf 6 t) 4), zi 1, zi 3] zd_4_10_37 zk_Layer_63 rfl rfl ⟨Nat.le_of_ble_eq_true rfl, Nat.le_of_ble_eq_true rfl⟩ ⟨rfl, rfl⟩ (Nat.zero_le _) (Nat.zero_le _) (zc_isWithin_4_9 (S0 (zz_rf 6 t) 4) 1 3 S0 n hn G_S0 (by omega) (by omega) (by omega)) (fun v12 S11 hP => ?_)
        obtain ⟨rfl, o13, o14⟩ := hP
        rcases (by omega : v12 = 0 ∨ v12 = 1) with rfl | rfl
        · refine zz_if_ne (by omega) zd_4_10_40 (fun c15 => ?_) (fun c15 => ?_)
          · exfalso; omega
          · refine zz_iconst zd_4_10_43 ?_
            exact zz_zret zd_4_10_44 rfl (by omega) (Nat.zero_le _) (Nat.zero_le _) ⟨_, _, rfl, rfl, by omega, by omega, (Or.inr ⟨rfl, by unfold zn_fit; omega⟩)⟩
        · refine zz_if_ne (by omega) zd_4_10_40 (fun c16 => ?_) (fun c16 => ?_)
          · refine zz_aload_n (x := zz_rf 6 t) rfl zd_4_10_45 ?_
            refine zz_geti (z := S0 (zz_rf 6 t) 0) zd_4_10_46 zf_Layer_13 (zT_k6 (by omega)) rfl (zN_k6 hn (by omega)) rfl ?_
            refine zz_iconst zd_4_10_49 ?_
            refine zz_icmp_ne (by omega) (by omega) zd_4_10_50 (fun c17 => ?_) (fun c17 => ?_)
            · refine zz_aload_n (x := zz_rf 6 t) rfl zd_4_10_63 ?_
              have g18 := zz_G.r G_S0 (zz_rf 6 t) 5 (-2147483648) 2147483647 (zR_k6_5 (by omega)) (zB_k6 (by omega))
              refine zz_geti (z := S0 (zz_rf 6 t) 5) zd_4_10_64 zf_Layer_29 (zT_k6 (by omega)) rfl (zN_k6 hn (by omega)) rfl ?_
              refine zz_iconst zd_4_10_67 ?_
              refine zz_iconst zd_4_10_68 ?_
              refine zz_callSI [zi (S0 (zz_rf 6 t) 5), zi 1, zi 2] zd_4_10_69 zk_Layer_63 rfl rfl ⟨Nat.le_of_ble_eq_true rfl, Nat.le_of_ble_eq_true rfl⟩ ⟨rfl, rfl⟩ (Nat.zero_le _) (Nat.zero_le _) (zc_isWithin_4_9 (S0 (zz_rf 6 t) 5) 1 2 S0 n hn G_S0 (by omega) (by omega) (by omega)) (fun v20 S19 hP => ?_)
              obtain ⟨rfl, o21, o22⟩ := hP
              rcases (by omega : v20 = 0 ∨ v20 = 1) with rfl | rfl
              · refine zz_if_eq (by omega) zd_4_10_72 (fun c23 => ?_) (fun c23 => ?_)
                · refine zz_iconst zd_4_10_117 ?_
                  exact zz_zret zd_4_10_118 rfl (by omega) (Nat.zero_le _) (Nat.zero_le _) ⟨_, _, rfl, rfl, by omega, by omega, (Or.inr ⟨rfl, by unfold zn_fit; omega⟩)⟩
                · exfalso; omega
              · refine zz_if_eq (by omega) zd_4_10_72 (fun c24 => ?_) (fun c24 => ?_)
                · exfalso; omega
                · refine zz_aload_n (x := zz_rf 6 t) rfl zd_4_10_75 ?_
                  have g25 := zz_G.r G_S0 (zz_rf 6 t) 6 (-2147483648) 2147483647 (zR_k6_6 (by omega)) (zB_k6 (by omega))
                  refine zz_geti (z := S0 (zz_rf 6 t) 6) zd_4_10_76 zf_Layer_32 (zT_k6 (by omega)) rfl (zN_k6 hn (by omega)) rfl ?_
                  refine zz_iconst zd_4_10_79 ?_
                  refine zz_iconst zd_4_10_80 ?_
                  refine zz_callSI [zi (S0 (zz_rf 6 t) 6), zi 0, zi 1] zd_4_10_81 zk_Layer_63 rfl rfl ⟨Nat.le_of_ble_eq_true rfl, Nat.le_of_ble_eq_true rfl⟩ ⟨rfl, rfl⟩ (Nat.zero_le _) (Nat.zero_le _) (zc_isWithin_4_9 (S0 (zz_rf 6 t) 6) 0 1 S0 n hn G_S0 (by omega) (by omega) (by omega)) (fun v27 S26 hP => ?_)
                  obtain ⟨rfl, o28, o29⟩ := hP
                  rcases (by omega : v27 = 0 ∨ v27 = 1) with rfl | rfl
                  · refine zz_if_eq (by omega) zd_4_10_84 (fun c30 => ?_) (fun c30 => ?_)
                    · refine zz_iconst zd_4_10_117 ?_
                      exact zz_zret zd_4_10_118 rfl (by omega) (Nat.zero_le _) (Nat.zero_le _) ⟨_, _, rfl, rfl, by omega, by omega, (Or.inr ⟨rfl, by unfold zn_fit; omega⟩)⟩
                    · exfalso; omega
                  · refine zz_if_eq (by omega) zd_4_10_84 (fun c31 => ?_) (fun c31 => ?_)
                    · exfalso; omega
                    · refine zz_aload_n (x := zz_rf 6 t) rfl zd_4_10_87 ?_
                      have g32 := zz_G.r G_S0 (zz_rf 6 t) 7 (-2147483648) 2147483647 (zR_k6_7 (by omega)) (zB_k6 (by omega))
                      refine zz_geti (z := S0 (zz_rf 6 t) 7) zd_4_10_88 zf_Layer_35 (zT_k6 (by omega)) rfl (zN_k6 hn (by omega)) rfl ?_
                      refine zz_iconst zd_4_10_91 ?_
                      refine zz_bipush (by decide) zd_4_10_92 ?_
                      refine zz_callSI [zi (S0 (zz_rf 6 t) 7), zi 0, zi 15] zd_4_10_94 zk_Layer_63 rfl rfl ⟨Nat.le_of_ble_eq_true rfl, Nat.le_of_ble_eq_true rfl⟩ ⟨rfl, rfl⟩ (Nat.zero_le _) (Nat.zero_le _) (zc_isWithin_4_9 (S0 (zz_rf 6 t) 7) 0 15 S0 n hn G_S0 (by omega) (by omega) (by omega)) (fun v34 S33 hP => ?_)
                      obtain ⟨rfl, o35, o36⟩ := hP
                      rcases (by omega : v34 = 0 ∨ v34 = 1) with rfl | rfl
                      · refine zz_if_eq (by omega) zd_4_10_97 (fun c37 => ?_) (fun c37 => ?_)
                        · refine zz_iconst zd_4_10_117 ?_
                          exact zz_zret zd_4_10_118 rfl (by omega) (Nat.zero_le _) (Nat.zero_le _) ⟨_, _, rfl, rfl, by omega, by omega, (Or.inr ⟨rfl, by unfold zn_fit; omega⟩)⟩
                        · exfalso; omega
                      · refine zz_if_eq (by omega) zd_4_10_97 (fun c38 => ?_) (fun c38 => ?_)
                        · exfalso; omega
                        · refine zz_aload_n (x := zz_rf 6 t) rfl zd_4_10_100 ?_
                          have g39 := zz_G.r G_S0 (zz_rf 6 t) 12 (-2147483648) 2147483647 (zR_k6_12 (by omega)) (zB_k6 (by omega))
                          refine zz_geti (z := S0 (zz_rf 6 t) 12) zd_4_10_101 zf_Layer_60 (zT_k6 (by omega)) rfl (zN_k6 hn (by omega)) rfl ?_
                          refine zz_iconst zd_4_10_104 ?_
                          refine zz_bipush (by decide) zd_4_10_105 ?_
                          refine zz_callSI [zi (S0 (zz_rf 6 t) 12), zi 1, zi 16] zd_4_10_107 zk_Layer_63 rfl rfl ⟨Nat.le_of_ble_eq_true rfl, Nat.le_of_ble_eq_true rfl⟩ ⟨rfl, rfl⟩ (Nat.zero_le _) (Nat.zero_le _) (zc_isWithin_4_9 (S0 (zz_rf 6 t) 12) 1 16 S0 n hn G_S0 (by omega) (by omega) (by omega)) (fun v41 S40 hP => ?_)
                          obtain ⟨rfl, o42, o43⟩ := hP
                          rcases (by omega : v41 = 0 ∨ v41 = 1) with rfl | rfl
                          · refine zz_if_eq (by omega) zd_4_10_110 (fun c44 => ?_) (fun c44 => ?_)
                            · refine zz_iconst zd_4_10_117 ?_
                              exact zz_zret zd_4_10_118 rfl (by omega) (Nat.zero_le _) (Nat.zero_le _) ⟨_, _, rfl, rfl, by omega, by omega, (Or.inr ⟨rfl, by unfold zn_fit; omega⟩)⟩
                            · exfalso; omega
                          · refine zz_if_eq (by omega) zd_4_10_110 (fun c45 => ?_) (fun c45 => ?_)
                            · exfalso; omega
                            · refine zz_iconst zd_4_10_113 ?_
                              refine zz_goto zd_4_10_114 ?_
                              exact zz_zret zd_4_10_118 rfl (by omega) (Nat.zero_le _) (Nat.zero_le _) ⟨_, _, rfl, rfl, by omega, by omega, (Or.inl ⟨rfl, by unfold zn_fit; omega⟩)⟩
            · refine zz_aload_n (x := zz_rf 6 t) rfl zd_4_10_53 ?_
              have g46 := zz_G.r G_S0 (zz_rf 6 t) 5 (-2147483648) 2147483647 (zR_k6_5 (by omega)) (zB_k6 (by omega))
              refine zz_geti (z := S0 (zz_rf 6 t) 5) zd_4_10_54 zf_Layer_29 (zT_k6 (by omega)) rfl (zN_k6 hn (by omega)) rfl ?_
              refine zz_iconst zd_4_10_57 ?_
              refine zz_iconst zd_4_10_58 ?_
              refine zz_callSI [zi (S0 (zz_rf 6 t) 5), zi 1, zi 3] zd_4_10_59 zk_Layer_63 rfl rfl ⟨Nat.le_of_ble_eq_true rfl, Nat.le_of_ble_eq_true rfl⟩ ⟨rfl, rfl⟩ (Nat.zero_le _) (Nat.zero_le _) (zc_isWithin_4_9 (S0 (zz_rf 6 t) 5) 1 3 S0 n hn G_S0 (by omega) (by omega) (by omega)) (fun v48 S47 hP => ?_)
              obtain ⟨rfl, o49, o50⟩ := hP
              rcases (by omega : v48 = 0 ∨ v48 = 1) with rfl | rfl
              · exact zz_zret zd_4_10_62 rfl (by omega) (Nat.zero_le _) (Nat.zero_le _) ⟨_, _, rfl, rfl, by omega, by omega, (Or.inr ⟨rfl, by unfold zn_fit; omega⟩)⟩
              · exact zz_zret zd_4_10_62 rfl (by omega) (Nat.zero_le _) (Nat.zero_le _) ⟨_, _, rfl, rfl, by omega, by omega, (Or.inl ⟨rfl, by unfold zn_fit; omega⟩)⟩
          · exfalso; omega
  · refine zz_aload_n (x := zz_rf 6 t) rfl zd_4_10_8 ?_
    have g51 := zz_G.r G_S0 (zz_rf 6 t) 7 (-2147483648) 2147483647 (zR_k6_7 (by omega)) (zB_k6 (by omega))
    refine zz_geti (z := S0 (zz_rf 6 t) 7) zd_4_10_9 zf_Layer_35 (zT_k6 (by omega)) rfl (zN_k6 hn (by omega)) rfl ?_
    refine zz_iconst zd_4_10_12 ?_
    refine zz_bipush (by decide) zd_4_10_13 ?_
    refine zz_callSI [zi (S0 (zz_rf 6 t) 7), zi 0, zi 15] zd_4_10_15 zk_Layer_63 rfl rfl ⟨Nat.le_of_ble_eq_true rfl, Nat.le_of_ble_eq_true rfl⟩ ⟨rfl, rfl⟩ (Nat.zero_le _) (Nat.zero_le _) (zc_isWithin_4_9 (S0 (zz_rf 6 t) 7) 0 15 S0 n hn G_S0 (by omega) (by omega) (by omega)) (fun v53 S52 hP => ?_)
    obtain ⟨rfl, o54, o55⟩ := hP
    rcases (by omega : v53 = 0 ∨ v53 = 1) with rfl | rfl
    · exact zz_zret zd_4_10_18 rfl (by omega) (Nat.zero_le _) (Nat.zero_le _) ⟨_, _, rfl, rfl, by omega, by omega, (Or.inr ⟨rfl, by unfold zn_fit; omega⟩)⟩
    · exact zz_zret zd_4_10_18 rfl (by omega) (Nat.zero_le _) (Nat.zero_le _) ⟨_, _, rfl, rfl, by omega, by omega, (Or.inl ⟨rfl, by unfold zn_fit; omega⟩)⟩
theorem zk_Network_48 : mm_Vl "TensorForge$Network" 48 2 0 zy_numbersFit_4_10 := ⟨zyw_numbersFit_4_10, (R_Layer, F_Layer, 15), rfl, mm_tb_1 994 (by decide +kernel) rfl, mm_tb_1 995 (by decide +kernel) rfl, mm_tb_1 996 (by decide +kernel) rfl⟩
abbrev zy_takeResult_4_11 : mm_Y := (⟨"TensorForge$Layer", "takeResult", "(LTensorForge$Layer;LTensorForge$Layer;)Z"⟩, prog_4_method_11_code, 5, (some .boolean))
theorem zyw_takeResult_4_11 : mm_Yw zy_takeResult_4_11 2 := ⟨mm_tb_1 1004 (by decide +kernel) rfl, mm_tb_1 3 (by decide +kernel) rfl, ⟨by decide, by decide⟩, by decide +kernel⟩
abbrev zy_parametersSize_4_12 : mm_Y := (⟨"TensorForge$Layer", "parametersSize", "(LTensorForge$Layer;)I"⟩, prog_4_method_12_code, 2, (some .int))
theorem zyw_parametersSize_4_12 : mm_Yw zy_parametersSize_4_12 1 := ⟨mm_tb_1 1008 (by decide +kernel) rfl, mm_tb_1 3 (by decide +kernel) rfl, ⟨by decide, by decide⟩, by decide +kernel⟩
theorem zg_7_7_33 : zq_at zy_offer_7_7.2.1 33 153 ∧ zq_at zy_offer_7_7.2.1 34 0 ∧ zq_at zy_offer_7_7.2.1 35 28 ∧ zq_at zy_offer_7_7.2.1 61 5 ∧ zq_at zy_offer_7_7.2.1 62 172 ∧ zq_at zy_offer_7_7.2.1 36 43 ∧ zq_at zy_offer_7_7.2.1 37 42 ∧ zq_at zy_offer_7_7.2.1 38 180 ∧ zq_at zy_offer_7_7.2.1 39 0 ∧ zq_at zy_offer_7_7.2.1 40 11 ∧ zq_at zy_offer_7_7.2.1 41 43 ∧ zq_at zy_offer_7_7.2.1 42 180 ∧ zq_at zy_offer_7_7.2.1 43 0 ∧ zq_at zy_offer_7_7.2.1 44 38 ∧ zq_at zy_offer_7_7.2.1 45 50 ∧ zq_at zy_offer_7_7.2.1 46 42 ∧ zq_at zy_offer_7_7.2.1 47 180 ∧ zq_at zy_offer_7_7.2.1 48 0 ∧ zq_at zy_offer_7_7.2.1 49 11 ∧ zq_at zy_offer_7_7.2.1 50 43 ∧ zq_at zy_offer_7_7.2.1 51 180 ∧ zq_at zy_offer_7_7.2.1 52 0 ∧ zq_at zy_offer_7_7.2.1 53 45 ∧ zq_at zy_offer_7_7.2.1 54 50 := by decide +kernel
theorem zd_7_7_33 : zz_B zy_offer_7_7 33 (Instr.ifCond .eq) 61 36 := ⟨28, zq_153 zg_7_7_33.1 zg_7_7_33.2.1 zg_7_7_33.2.2.1 (by decide), rfl, rfl⟩
theorem zd_7_7_61 : zz_D zy_offer_7_7 61 (.iconst 2) 1 62 := ⟨zq_5 zg_7_7_33.2.2.2.1, rfl⟩
theorem zd_7_7_62 : zz_D zy_offer_7_7 62 (.ireturn) 1 63 := ⟨zq_172 zg_7_7_33.2.2.2.2.1, rfl⟩
theorem zd_7_7_36 : zz_D zy_offer_7_7 36 (.aload_n 1) 1 37 := ⟨zq_43 zg_7_7_33.2.2.2.2.2.1, rfl⟩
theorem zd_7_7_37 : zz_D zy_offer_7_7 37 (.aload_n 0) 1 38 := ⟨zq_42 zg_7_7_33.2.2.2.2.2.2.1, rfl⟩
theorem zd_7_7_38 : zz_D zy_offer_7_7 38 (.getfield 11) 3 41 := ⟨zq_180 zg_7_7_33.2.2.2.2.2.2.2.1 zg_7_7_33.2.2.2.2.2.2.2.2.1 zg_7_7_33.2.2.2.2.2.2.2.2.2.1 rfl, rfl⟩
theorem zd_7_7_41 : zz_D zy_offer_7_7 41 (.aload_n 1) 1 42 := ⟨zq_43 zg_7_7_33.2.2.2.2.2.2.2.2.2.2.1, rfl⟩
theorem zd_7_7_42 : zz_D zy_offer_7_7 42 (.getfield 38) 3 45 := ⟨zq_180 zg_7_7_33.2.2.2.2.2.2.2.2.2.2.2.1 zg_7_7_33.2.2.2.2.2.2.2.2.2.2.2.2.1 zg_7_7_33.2.2.2.2.2.2.2.2.2.2.2.2.2.1 rfl, rfl⟩
theorem zd_7_7_45 : zz_D zy_offer_7_7 45 (.aaload) 1 46 := ⟨zq_50 zg_7_7_33.2.2.2.2.2.2.2.2.2.2.2.2.2.2.1, rfl⟩
theorem zd_7_7_46 : zz_D zy_offer_7_7 46 (.aload_n 0) 1 47 := ⟨zq_42 zg_7_7_33.2.2.2.2.2.2.2.2.2.2.2.2.2.2.2.1, rfl⟩
theorem zd_7_7_47 : zz_D zy_offer_7_7 47 (.getfield 11) 3 50 := ⟨zq_180 zg_7_7_33.2.2.2.2.2.2.2.2.2.2.2.2.2.2.2.2.1 zg_7_7_33.2.2.2.2.2.2.2.2.2.2.2.2.2.2.2.2.2.1 zg_7_7_33.2.2.2.2.2.2.2.2.2.2.2.2.2.2.2.2.2.2.1 rfl, rfl⟩
theorem zd_7_7_50 : zz_D zy_offer_7_7 50 (.aload_n 1) 1 51 := ⟨zq_43 zg_7_7_33.2.2.2.2.2.2.2.2.2.2.2.2.2.2.2.2.2.2.2.1, rfl⟩
theorem zd_7_7_51 : zz_D zy_offer_7_7 51 (.getfield 45) 3 54 := ⟨zq_180 zg_7_7_33.2.2.2.2.2.2.2.2.2.2.2.2.2.2.2.2.2.2.2.2.1 zg_7_7_33.2.2.2.2.2.2.2.2.2.2.2.2.2.2.2.2.2.2.2.2.2.1 zg_7_7_33.2.2.2.2.2.2.2.2.2.2.2.2.2.2.2.2.2.2.2.2.2.2.1 rfl, rfl⟩
theorem zd_7_7_54 : zz_D zy_offer_7_7 54 (.aaload) 1 55 := ⟨zq_50 zg_7_7_33.2.2.2.2.2.2.2.2.2.2.2.2.2.2.2.2.2.2.2.2.2.2.2, rfl⟩
theorem zg_7_7_55 : zq_at zy_offer_7_7.2.1 55 182 ∧ zq_at zy_offer_7_7.2.1 56 0 ∧ zq_at zy_offer_7_7.2.1 57 52 := by decide +kernel
theorem zd_7_7_55 : zz_D zy_offer_7_7 55 (.invokevirtual 52) 3 58 := ⟨zq_182 zg_7_7_55.1 zg_7_7_55.2.1 zg_7_7_55.2.2 rfl, rfl⟩
theorem zg_4_11_0 : zq_at zy_takeResult_4_11.2.1 0 42 ∧ zq_at zy_takeResult_4_11.2.1 1 180 ∧ zq_at zy_takeResult_4_11.2.1 2 0 ∧ zq_at zy_takeResult_4_11.2.1 3 13 ∧ zq_at zy_takeResult_4_11.2.1 4 6 ∧ zq_at zy_takeResult_4_11.2.1 5 160 ∧ zq_at zy_takeResult_4_11.2.1 6 0 ∧ zq_at zy_takeResult_4_11.2.1 7 58 ∧ zq_at zy_takeResult_4_11.2.1 63 43 ∧ zq_at zy_takeResult_4_11.2.1 64 180 ∧ zq_at zy_takeResult_4_11.2.1 65 0 ∧ zq_at zy_takeResult_4_11.2.1 66 54 ∧ zq_at zy_takeResult_4_11.2.1 67 5 ∧ zq_at zy_takeResult_4_11.2.1 68 42 ∧ zq_at zy_takeResult_4_11.2.1 69 180 ∧ zq_at zy_takeResult_4_11.2.1 70 0 ∧ zq_at zy_takeResult_4_11.2.1 71 32 ∧ zq_at zy_takeResult_4_11.2.1 72 104 ∧ zq_at zy_takeResult_4_11.2.1 73 96 ∧ zq_at zy_takeResult_4_11.2.1 74 42 ∧ zq_at zy_takeResult_4_11.2.1 75 180 ∧ zq_at zy_takeResult_4_11.2.1 76 0 ∧ zq_at zy_takeResult_4_11.2.1 77 23 ∧ zq_at zy_takeResult_4_11.2.1 78 100 := by decide +kernel
theorem zd_4_11_0 : zz_D zy_takeResult_4_11 0 (.aload_n 0) 1 1 := ⟨zq_42 zg_4_11_0.1, rfl⟩
theorem zd_4_11_1 : zz_D zy_takeResult_4_11 1 (.getfield 13) 3 4 := ⟨zq_180 zg_4_11_0.2.1 zg_4_11_0.2.2.1 zg_4_11_0.2.2.2.1 rfl, rfl⟩
theorem zd_4_11_4 : zz_D zy_takeResult_4_11 4 (.iconst 3) 1 5 := ⟨zq_6 zg_4_11_0.2.2.2.2.1, rfl⟩
theorem zd_4_11_5 : zz_B zy_takeResult_4_11 5 (Instr.if_icmp .ne) 63 8 := ⟨58, zq_160 zg_4_11_0.2.2.2.2.2.1 zg_4_11_0.2.2.2.2.2.2.1 zg_4_11_0.2.2.2.2.2.2.2.1 (by decide), rfl, rfl⟩
theorem zd_4_11_63 : zz_D zy_takeResult_4_11 63 (.aload_n 1) 1 64 := ⟨zq_43 zg_4_11_0.2.2.2.2.2.2.2.2.1, rfl⟩
theorem zd_4_11_64 : zz_D zy_takeResult_4_11 64 (.getfield 54) 3 67 := ⟨zq_180 zg_4_11_0.2.2.2.2.2.2.2.2.2.1 zg_4_11_0.2.2.2.2.2.2.2.2.2.2.1 zg_4_11_0.2.2.2.2.2.2.2.2.2.2.2.1 rfl, rfl⟩
theorem zd_4_11_67 : zz_D zy_takeResult_4_11 67 (.iconst 2) 1 68 := ⟨zq_5 zg_4_11_0.2.2.2.2.2.2.2.2.2.2.2.2.1, rfl⟩
theorem zd_4_11_68 : zz_D zy_takeResult_4_11 68 (.aload_n 0) 1 69 := ⟨zq_42 zg_4_11_0.2.2.2.2.2.2.2.2.2.2.2.2.2.1, rfl⟩
theorem zd_4_11_69 : zz_D zy_takeResult_4_11 69 (.getfield 32) 3 72 := ⟨zq_180 zg_4_11_0.2.2.2.2.2.2.2.2.2.2.2.2.2.2.1 zg_4_11_0.2.2.2.2.2.2.2.2.2.2.2.2.2.2.2.1 zg_4_11_0.2.2.2.2.2.2.2.2.2.2.2.2.2.2.2.2.1 rfl, rfl⟩
theorem zd_4_11_72 : zz_D zy_takeResult_4_11 72 (.imul) 1 73 := ⟨zq_104 zg_4_11_0.2.2.2.2.2.2.2.2.2.2.2.2.2.2.2.2.2.1, rfl⟩
theorem zd_4_11_73 : zz_D zy_takeResult_4_11 73 (.iadd) 1 74 := ⟨zq_96 zg_4_11_0.2.2.2.2.2.2.2.2.2.2.2.2.2.2.2.2.2.2.1, rfl⟩
theorem zd_4_11_74 : zz_D zy_takeResult_4_11 74 (.aload_n 0) 1 75 := ⟨zq_42 zg_4_11_0.2.2.2.2.2.2.2.2.2.2.2.2.2.2.2.2.2.2.2.1, rfl⟩
theorem zd_4_11_75 : zz_D zy_takeResult_4_11 75 (.getfield 23) 3 78 := ⟨zq_180 zg_4_11_0.2.2.2.2.2.2.2.2.2.2.2.2.2.2.2.2.2.2.2.2.1 zg_4_11_0.2.2.2.2.2.2.2.2.2.2.2.2.2.2.2.2.2.2.2.2.2.1 zg_4_11_0.2.2.2.2.2.2.2.2.2.2.2.2.2.2.2.2.2.2.2.2.2.2.1 rfl, rfl⟩
theorem zd_4_11_78 : zz_D zy_takeResult_4_11 78 (.isub) 1 79 := ⟨zq_100 zg_4_11_0.2.2.2.2.2.2.2.2.2.2.2.2.2.2.2.2.2.2.2.2.2.2.2, rfl⟩
theorem zg_4_11_79 : zq_at zy_takeResult_4_11.2.1 79 62 ∧ zq_at zy_takeResult_4_11.2.1 80 43 ∧ zq_at zy_takeResult_4_11.2.1 81 180 ∧ zq_at zy_takeResult_4_11.2.1 82 0 ∧ zq_at zy_takeResult_4_11.2.1 83 57 ∧ zq_at zy_takeResult_4_11.2.1 84 5 ∧ zq_at zy_takeResult_4_11.2.1 85 42 ∧ zq_at zy_takeResult_4_11.2.1 86 180 ∧ zq_at zy_takeResult_4_11.2.1 87 0 ∧ zq_at zy_takeResult_4_11.2.1 88 32 ∧ zq_at zy_takeResult_4_11.2.1 89 104 ∧ zq_at zy_takeResult_4_11.2.1 90 96 ∧ zq_at zy_takeResult_4_11.2.1 91 42 ∧ zq_at zy_takeResult_4_11.2.1 92 180 ∧ zq_at zy_takeResult_4_11.2.1 93 0 ∧ zq_at zy_takeResult_4_11.2.1 94 26 ∧ zq_at zy_takeResult_4_11.2.1 95 100 ∧ zq_at zy_takeResult_4_11.2.1 96 54 ∧ zq_at zy_takeResult_4_11.2.1 97 4 ∧ zq_at zy_takeResult_4_11.2.1 98 29 ∧ zq_at zy_takeResult_4_11.2.1 99 155 ∧ zq_at zy_takeResult_4_11.2.1 100 0 ∧ zq_at zy_takeResult_4_11.2.1 101 16 ∧ zq_at zy_takeResult_4_11.2.1 115 3 := by decide +kernel
theorem zd_4_11_79 : zz_D zy_takeResult_4_11 79 (.istore_n 3) 1 80 := ⟨zq_62 zg_4_11_79.1, rfl⟩
theorem zd_4_11_80 : zz_D zy_takeResult_4_11 80 (.aload_n 1) 1 81 := ⟨zq_43 zg_4_11_79.2.1, rfl⟩
theorem zd_4_11_81 : zz_D zy_takeResult_4_11 81 (.getfield 57) 3 84 := ⟨zq_180 zg_4_11_79.2.2.1 zg_4_11_79.2.2.2.1 zg_4_11_79.2.2.2.2.1 rfl, rfl⟩
theorem zd_4_11_84 : zz_D zy_takeResult_4_11 84 (.iconst 2) 1 85 := ⟨zq_5 zg_4_11_79.2.2.2.2.2.1, rfl⟩
theorem zd_4_11_85 : zz_D zy_takeResult_4_11 85 (.aload_n 0) 1 86 := ⟨zq_42 zg_4_11_79.2.2.2.2.2.2.1, rfl⟩
theorem zd_4_11_86 : zz_D zy_takeResult_4_11 86 (.getfield 32) 3 89 := ⟨zq_180 zg_4_11_79.2.2.2.2.2.2.2.1 zg_4_11_79.2.2.2.2.2.2.2.2.1 zg_4_11_79.2.2.2.2.2.2.2.2.2.1 rfl, rfl⟩
theorem zd_4_11_89 : zz_D zy_takeResult_4_11 89 (.imul) 1 90 := ⟨zq_104 zg_4_11_79.2.2.2.2.2.2.2.2.2.2.1, rfl⟩
theorem zd_4_11_90 : zz_D zy_takeResult_4_11 90 (.iadd) 1 91 := ⟨zq_96 zg_4_11_79.2.2.2.2.2.2.2.2.2.2.2.1, rfl⟩
theorem zd_4_11_91 : zz_D zy_takeResult_4_11 91 (.aload_n 0) 1 92 := ⟨zq_42 zg_4_11_79.2.2.2.2.2.2.2.2.2.2.2.2.1, rfl⟩
theorem zd_4_11_92 : zz_D zy_takeResult_4_11 92 (.getfield 26) 3 95 := ⟨zq_180 zg_4_11_79.2.2.2.2.2.2.2.2.2.2.2.2.2.1 zg_4_11_79.2.2.2.2.2.2.2.2.2.2.2.2.2.2.1 zg_4_11_79.2.2.2.2.2.2.2.2.2.2.2.2.2.2.2.1 rfl, rfl⟩
theorem zd_4_11_95 : zz_D zy_takeResult_4_11 95 (.isub) 1 96 := ⟨zq_100 zg_4_11_79.2.2.2.2.2.2.2.2.2.2.2.2.2.2.2.2.1, rfl⟩
theorem zd_4_11_96 : zz_D zy_takeResult_4_11 96 (.istore 4) 2 98 := ⟨zq_54 zg_4_11_79.2.2.2.2.2.2.2.2.2.2.2.2.2.2.2.2.2.1 zg_4_11_79.2.2.2.2.2.2.2.2.2.2.2.2.2.2.2.2.2.2.1, rfl⟩
theorem zd_4_11_98 : zz_D zy_takeResult_4_11 98 (.iload_n 3) 1 99 := ⟨zq_29 zg_4_11_79.2.2.2.2.2.2.2.2.2.2.2.2.2.2.2.2.2.2.2.1, rfl⟩
theorem zd_4_11_99 : zz_B zy_takeResult_4_11 99 (Instr.ifCond .lt) 115 102 := ⟨16, zq_155 zg_4_11_79.2.2.2.2.2.2.2.2.2.2.2.2.2.2.2.2.2.2.2.2.1 zg_4_11_79.2.2.2.2.2.2.2.2.2.2.2.2.2.2.2.2.2.2.2.2.2.1 zg_4_11_79.2.2.2.2.2.2.2.2.2.2.2.2.2.2.2.2.2.2.2.2.2.2.1 (by decide), rfl, rfl⟩
theorem zd_4_11_115 : zz_D zy_takeResult_4_11 115 (.iconst 0) 1 116 := ⟨zq_3 zg_4_11_79.2.2.2.2.2.2.2.2.2.2.2.2.2.2.2.2.2.2.2.2.2.2.2, rfl⟩
theorem zg_4_11_116 : zq_at zy_takeResult_4_11.2.1 116 172 ∧ zq_at zy_takeResult_4_11.2.1 102 21 ∧ zq_at zy_takeResult_4_11.2.1 103 4 ∧ zq_at zy_takeResult_4_11.2.1 104 155 ∧ zq_at zy_takeResult_4_11.2.1 105 0 ∧ zq_at zy_takeResult_4_11.2.1 106 11 ∧ zq_at zy_takeResult_4_11.2.1 107 42 ∧ zq_at zy_takeResult_4_11.2.1 108 180 ∧ zq_at zy_takeResult_4_11.2.1 109 0 ∧ zq_at zy_takeResult_4_11.2.1 110 29 ∧ zq_at zy_takeResult_4_11.2.1 111 4 ∧ zq_at zy_takeResult_4_11.2.1 112 162 ∧ zq_at zy_takeResult_4_11.2.1 113 0 ∧ zq_at zy_takeResult_4_11.2.1 114 5 ∧ zq_at zy_takeResult_4_11.2.1 117 42 ∧ zq_at zy_takeResult_4_11.2.1 118 29 ∧ zq_at zy_takeResult_4_11.2.1 119 42 ∧ zq_at zy_takeResult_4_11.2.1 120 180 ∧ zq_at zy_takeResult_4_11.2.1 121 0 ∧ zq_at zy_takeResult_4_11.2.1 122 29 ∧ zq_at zy_takeResult_4_11.2.1 123 108 ∧ zq_at zy_takeResult_4_11.2.1 124 4 ∧ zq_at zy_takeResult_4_11.2.1 125 96 := by decide +kernel
theorem zd_4_11_116 : zz_D zy_takeResult_4_11 116 (.ireturn) 1 117 := ⟨zq_172 zg_4_11_116.1, rfl⟩
theorem zd_4_11_102 : zz_D zy_takeResult_4_11 102 (.iload 4) 2 104 := ⟨zq_21 zg_4_11_116.2.1 zg_4_11_116.2.2.1, rfl⟩
theorem zd_4_11_104 : zz_B zy_takeResult_4_11 104 (Instr.ifCond .lt) 115 107 := ⟨11, zq_155 zg_4_11_116.2.2.2.1 zg_4_11_116.2.2.2.2.1 zg_4_11_116.2.2.2.2.2.1 (by decide), rfl, rfl⟩
theorem zd_4_11_107 : zz_D zy_takeResult_4_11 107 (.aload_n 0) 1 108 := ⟨zq_42 zg_4_11_116.2.2.2.2.2.2.1, rfl⟩
theorem zd_4_11_108 : zz_D zy_takeResult_4_11 108 (.getfield 29) 3 111 := ⟨zq_180 zg_4_11_116.2.2.2.2.2.2.2.1 zg_4_11_116.2.2.2.2.2.2.2.2.1 zg_4_11_116.2.2.2.2.2.2.2.2.2.1 rfl, rfl⟩
theorem zd_4_11_111 : zz_D zy_takeResult_4_11 111 (.iconst 1) 1 112 := ⟨zq_4 zg_4_11_116.2.2.2.2.2.2.2.2.2.2.1, rfl⟩
theorem zd_4_11_112 : zz_B zy_takeResult_4_11 112 (Instr.if_icmp .ge) 117 115 := ⟨5, zq_162 zg_4_11_116.2.2.2.2.2.2.2.2.2.2.2.1 zg_4_11_116.2.2.2.2.2.2.2.2.2.2.2.2.1 zg_4_11_116.2.2.2.2.2.2.2.2.2.2.2.2.2.1 (by decide), rfl, rfl⟩
theorem zd_4_11_117 : zz_D zy_takeResult_4_11 117 (.aload_n 0) 1 118 := ⟨zq_42 zg_4_11_116.2.2.2.2.2.2.2.2.2.2.2.2.2.2.1, rfl⟩
theorem zd_4_11_118 : zz_D zy_takeResult_4_11 118 (.iload_n 3) 1 119 := ⟨zq_29 zg_4_11_116.2.2.2.2.2.2.2.2.2.2.2.2.2.2.2.1, rfl⟩
theorem zd_4_11_119 : zz_D zy_takeResult_4_11 119 (.aload_n 0) 1 120 := ⟨zq_42 zg_4_11_116.2.2.2.2.2.2.2.2.2.2.2.2.2.2.2.2.1, rfl⟩
theorem zd_4_11_120 : zz_D zy_takeResult_4_11 120 (.getfield 29) 3 123 := ⟨zq_180 zg_4_11_116.2.2.2.2.2.2.2.2.2.2.2.2.2.2.2.2.2.1 zg_4_11_116.2.2.2.2.2.2.2.2.2.2.2.2.2.2.2.2.2.2.1 zg_4_11_116.2.2.2.2.2.2.2.2.2.2.2.2.2.2.2.2.2.2.2.1 rfl, rfl⟩
theorem zd_4_11_123 : zz_D zy_takeResult_4_11 123 (.idiv) 1 124 := ⟨zq_108 zg_4_11_116.2.2.2.2.2.2.2.2.2.2.2.2.2.2.2.2.2.2.2.2.1, rfl⟩
theorem zd_4_11_124 : zz_D zy_takeResult_4_11 124 (.iconst 1) 1 125 := ⟨zq_4 zg_4_11_116.2.2.2.2.2.2.2.2.2.2.2.2.2.2.2.2.2.2.2.2.2.1, rfl⟩
theorem zd_4_11_125 : zz_D zy_takeResult_4_11 125 (.iadd) 1 126 := ⟨zq_96 zg_4_11_116.2.2.2.2.2.2.2.2.2.2.2.2.2.2.2.2.2.2.2.2.2.2, rfl⟩
theorem zg_4_11_126 : zq_at zy_takeResult_4_11.2.1 126 181 ∧ zq_at zy_takeResult_4_11.2.1 127 0 ∧ zq_at zy_takeResult_4_11.2.1 128 54 ∧ zq_at zy_takeResult_4_11.2.1 129 42 ∧ zq_at zy_takeResult_4_11.2.1 130 21 ∧ zq_at zy_takeResult_4_11.2.1 131 4 ∧ zq_at zy_takeResult_4_11.2.1 132 42 ∧ zq_at zy_takeResult_4_11.2.1 133 180 ∧ zq_at zy_takeResult_4_11.2.1 134 0 ∧ zq_at zy_takeResult_4_11.2.1 135 29 ∧ zq_at zy_takeResult_4_11.2.1 136 108 ∧ zq_at zy_takeResult_4_11.2.1 137 4 ∧ zq_at zy_takeResult_4_11.2.1 138 96 ∧ zq_at zy_takeResult_4_11.2.1 139 181 ∧ zq_at zy_takeResult_4_11.2.1 140 0 ∧ zq_at zy_takeResult_4_11.2.1 141 57 ∧ zq_at zy_takeResult_4_11.2.1 142 42 ∧ zq_at zy_takeResult_4_11.2.1 143 180 ∧ zq_at zy_takeResult_4_11.2.1 144 0 ∧ zq_at zy_takeResult_4_11.2.1 145 13 ∧ zq_at zy_takeResult_4_11.2.1 146 5 ∧ zq_at zy_takeResult_4_11.2.1 147 160 ∧ zq_at zy_takeResult_4_11.2.1 148 0 ∧ zq_at zy_takeResult_4_11.2.1 149 14 := by decide +kernel
theorem zd_4_11_126 : zz_D zy_takeResult_4_11 126 (.putfield 54) 3 129 := ⟨zq_181 zg_4_11_126.1 zg_4_11_126.2.1 zg_4_11_126.2.2.1 rfl, rfl⟩
theorem zd_4_11_129 : zz_D zy_takeResult_4_11 129 (.aload_n 0) 1 130 := ⟨zq_42 zg_4_11_126.2.2.2.1, rfl⟩
theorem zd_4_11_130 : zz_D zy_takeResult_4_11 130 (.iload 4) 2 132 := ⟨zq_21 zg_4_11_126.2.2.2.2.1 zg_4_11_126.2.2.2.2.2.1, rfl⟩
theorem zd_4_11_132 : zz_D zy_takeResult_4_11 132 (.aload_n 0) 1 133 := ⟨zq_42 zg_4_11_126.2.2.2.2.2.2.1, rfl⟩
theorem zd_4_11_133 : zz_D zy_takeResult_4_11 133 (.getfield 29) 3 136 := ⟨zq_180 zg_4_11_126.2.2.2.2.2.2.2.1 zg_4_11_126.2.2.2.2.2.2.2.2.1 zg_4_11_126.2.2.2.2.2.2.2.2.2.1 rfl, rfl⟩
theorem zd_4_11_136 : zz_D zy_takeResult_4_11 136 (.idiv) 1 137 := ⟨zq_108 zg_4_11_126.2.2.2.2.2.2.2.2.2.2.1, rfl⟩
theorem zd_4_11_137 : zz_D zy_takeResult_4_11 137 (.iconst 1) 1 138 := ⟨zq_4 zg_4_11_126.2.2.2.2.2.2.2.2.2.2.2.1, rfl⟩
theorem zd_4_11_138 : zz_D zy_takeResult_4_11 138 (.iadd) 1 139 := ⟨zq_96 zg_4_11_126.2.2.2.2.2.2.2.2.2.2.2.2.1, rfl⟩
theorem zd_4_11_139 : zz_D zy_takeResult_4_11 139 (.putfield 57) 3 142 := ⟨zq_181 zg_4_11_126.2.2.2.2.2.2.2.2.2.2.2.2.2.1 zg_4_11_126.2.2.2.2.2.2.2.2.2.2.2.2.2.2.1 zg_4_11_126.2.2.2.2.2.2.2.2.2.2.2.2.2.2.2.1 rfl, rfl⟩
theorem zd_4_11_142 : zz_D zy_takeResult_4_11 142 (.aload_n 0) 1 143 := ⟨zq_42 zg_4_11_126.2.2.2.2.2.2.2.2.2.2.2.2.2.2.2.2.1, rfl⟩
theorem zd_4_11_143 : zz_D zy_takeResult_4_11 143 (.getfield 13) 3 146 := ⟨zq_180 zg_4_11_126.2.2.2.2.2.2.2.2.2.2.2.2.2.2.2.2.2.1 zg_4_11_126.2.2.2.2.2.2.2.2.2.2.2.2.2.2.2.2.2.2.1 zg_4_11_126.2.2.2.2.2.2.2.2.2.2.2.2.2.2.2.2.2.2.2.1 rfl, rfl⟩
theorem zd_4_11_146 : zz_D zy_takeResult_4_11 146 (.iconst 2) 1 147 := ⟨zq_5 zg_4_11_126.2.2.2.2.2.2.2.2.2.2.2.2.2.2.2.2.2.2.2.2.1, rfl⟩
theorem zd_4_11_147 : zz_B zy_takeResult_4_11 147 (Instr.if_icmp .ne) 161 150 := ⟨14, zq_160 zg_4_11_126.2.2.2.2.2.2.2.2.2.2.2.2.2.2.2.2.2.2.2.2.2.1 zg_4_11_126.2.2.2.2.2.2.2.2.2.2.2.2.2.2.2.2.2.2.2.2.2.2.1 zg_4_11_126.2.2.2.2.2.2.2.2.2.2.2.2.2.2.2.2.2.2.2.2.2.2.2 (by decide), rfl, rfl⟩
theorem zg_4_11_161 : zq_at zy_takeResult_4_11.2.1 161 42 ∧ zq_at zy_takeResult_4_11.2.1 162 180 ∧ zq_at zy_takeResult_4_11.2.1 163 0 ∧ zq_at zy_takeResult_4_11.2.1 164 42 ∧ zq_at zy_takeResult_4_11.2.1 165 155 ∧ zq_at zy_takeResult_4_11.2.1 166 0 ∧ zq_at zy_takeResult_4_11.2.1 167 19 ∧ zq_at zy_takeResult_4_11.2.1 184 3 ∧ zq_at zy_takeResult_4_11.2.1 185 172 ∧ zq_at zy_takeResult_4_11.2.1 168 42 ∧ zq_at zy_takeResult_4_11.2.1 169 180 ∧ zq_at zy_takeResult_4_11.2.1 170 0 ∧ zq_at zy_takeResult_4_11.2.1 171 42 ∧ zq_at zy_takeResult_4_11.2.1 172 17 ∧ zq_at zy_takeResult_4_11.2.1 173 16 ∧ zq_at zy_takeResult_4_11.2.1 174 0 ∧ zq_at zy_takeResult_4_11.2.1 175 42 ∧ zq_at zy_takeResult_4_11.2.1 176 43 ∧ zq_at zy_takeResult_4_11.2.1 177 182 ∧ zq_at zy_takeResult_4_11.2.1 178 0 ∧ zq_at zy_takeResult_4_11.2.1 179 69 := by decide +kernel
theorem zd_4_11_161 : zz_D zy_takeResult_4_11 161 (.aload_n 0) 1 162 := ⟨zq_42 zg_4_11_161.1, rfl⟩
theorem zd_4_11_162 : zz_D zy_takeResult_4_11 162 (.getfield 42) 3 165 := ⟨zq_180 zg_4_11_161.2.1 zg_4_11_161.2.2.1 zg_4_11_161.2.2.2.1 rfl, rfl⟩
theorem zd_4_11_165 : zz_B zy_takeResult_4_11 165 (Instr.ifCond .lt) 184 168 := ⟨19, zq_155 zg_4_11_161.2.2.2.2.1 zg_4_11_161.2.2.2.2.2.1 zg_4_11_161.2.2.2.2.2.2.1 (by decide), rfl, rfl⟩
theorem zd_4_11_184 : zz_D zy_takeResult_4_11 184 (.iconst 0) 1 185 := ⟨zq_3 zg_4_11_161.2.2.2.2.2.2.2.1, rfl⟩
theorem zd_4_11_185 : zz_D zy_takeResult_4_11 185 (.ireturn) 1 186 := ⟨zq_172 zg_4_11_161.2.2.2.2.2.2.2.2.1, rfl⟩
theorem zd_4_11_168 : zz_D zy_takeResult_4_11 168 (.aload_n 0) 1 169 := ⟨zq_42 zg_4_11_161.2.2.2.2.2.2.2.2.2.1, rfl⟩
theorem zd_4_11_169 : zz_D zy_takeResult_4_11 169 (.getfield 42) 3 172 := ⟨zq_180 zg_4_11_161.2.2.2.2.2.2.2.2.2.2.1 zg_4_11_161.2.2.2.2.2.2.2.2.2.2.2.1 zg_4_11_161.2.2.2.2.2.2.2.2.2.2.2.2.1 rfl, rfl⟩
theorem zd_4_11_172 : zz_D zy_takeResult_4_11 172 (.sipush 4096) 3 175 := ⟨zq_17 zg_4_11_161.2.2.2.2.2.2.2.2.2.2.2.2.2.1 zg_4_11_161.2.2.2.2.2.2.2.2.2.2.2.2.2.2.1 zg_4_11_161.2.2.2.2.2.2.2.2.2.2.2.2.2.2.2.1 (by decide), rfl⟩
theorem zd_4_11_175 : zz_D zy_takeResult_4_11 175 (.aload_n 0) 1 176 := ⟨zq_42 zg_4_11_161.2.2.2.2.2.2.2.2.2.2.2.2.2.2.2.2.1, rfl⟩
theorem zd_4_11_176 : zz_D zy_takeResult_4_11 176 (.aload_n 1) 1 177 := ⟨zq_43 zg_4_11_161.2.2.2.2.2.2.2.2.2.2.2.2.2.2.2.2.2.1, rfl⟩
theorem zd_4_11_177 : zz_D zy_takeResult_4_11 177 (.invokevirtual 69) 3 180 := ⟨zq_182 zg_4_11_161.2.2.2.2.2.2.2.2.2.2.2.2.2.2.2.2.2.2.1 zg_4_11_161.2.2.2.2.2.2.2.2.2.2.2.2.2.2.2.2.2.2.2.1 zg_4_11_161.2.2.2.2.2.2.2.2.2.2.2.2.2.2.2.2.2.2.2.2 rfl, rfl⟩
theorem zg_4_12_0 : zq_at zy_parametersSize_4_12.2.1 0 42 ∧ zq_at zy_parametersSize_4_12.2.1 1 180 ∧ zq_at zy_parametersSize_4_12.2.1 2 0 ∧ zq_at zy_parametersSize_4_12.2.1 3 60 ∧ zq_at zy_parametersSize_4_12.2.1 4 7 ∧ zq_at zy_parametersSize_4_12.2.1 5 42 ∧ zq_at zy_parametersSize_4_12.2.1 6 180 ∧ zq_at zy_parametersSize_4_12.2.1 7 0 ∧ zq_at zy_parametersSize_4_12.2.1 8 23 ∧ zq_at zy_parametersSize_4_12.2.1 9 42 ∧ zq_at zy_parametersSize_4_12.2.1 10 180 ∧ zq_at zy_parametersSize_4_12.2.1 11 0 ∧ zq_at zy_parametersSize_4_12.2.1 12 26 ∧ zq_at zy_parametersSize_4_12.2.1 13 104 ∧ zq_at zy_parametersSize_4_12.2.1 14 43 ∧ zq_at zy_parametersSize_4_12.2.1 15 180 ∧ zq_at zy_parametersSize_4_12.2.1 16 0 ∧ zq_at zy_parametersSize_4_12.2.1 17 60 ∧ zq_at zy_parametersSize_4_12.2.1 18 104 ∧ zq_at zy_parametersSize_4_12.2.1 19 96 ∧ zq_at zy_parametersSize_4_12.2.1 20 104 ∧ zq_at zy_parametersSize_4_12.2.1 21 172 := by decide +kernel
theorem zd_4_12_0 : zz_D zy_parametersSize_4_12 0 (.aload_n 0) 1 1 := ⟨zq_42 zg_4_12_0.1, rfl⟩
theorem zd_4_12_1 : zz_D zy_parametersSize_4_12 1 (.getfield 60) 3 4 := ⟨zq_180 zg_4_12_0.2.1 zg_4_12_0.2.2.1 zg_4_12_0.2.2.2.1 rfl, rfl⟩
theorem zd_4_12_4 : zz_D zy_parametersSize_4_12 4 (.iconst 4) 1 5 := ⟨zq_7 zg_4_12_0.2.2.2.2.1, rfl⟩
theorem zd_4_12_5 : zz_D zy_parametersSize_4_12 5 (.aload_n 0) 1 6 := ⟨zq_42 zg_4_12_0.2.2.2.2.2.1, rfl⟩
theorem zd_4_12_6 : zz_D zy_parametersSize_4_12 6 (.getfield 23) 3 9 := ⟨zq_180 zg_4_12_0.2.2.2.2.2.2.1 zg_4_12_0.2.2.2.2.2.2.2.1 zg_4_12_0.2.2.2.2.2.2.2.2.1 rfl, rfl⟩
theorem zd_4_12_9 : zz_D zy_parametersSize_4_12 9 (.aload_n 0) 1 10 := ⟨zq_42 zg_4_12_0.2.2.2.2.2.2.2.2.2.1, rfl⟩
theorem zd_4_12_10 : zz_D zy_parametersSize_4_12 10 (.getfield 26) 3 13 := ⟨zq_180 zg_4_12_0.2.2.2.2.2.2.2.2.2.2.1 zg_4_12_0.2.2.2.2.2.2.2.2.2.2.2.1 zg_4_12_0.2.2.2.2.2.2.2.2.2.2.2.2.1 rfl, rfl⟩
theorem zd_4_12_13 : zz_D zy_parametersSize_4_12 13 (.imul) 1 14 := ⟨zq_104 zg_4_12_0.2.2.2.2.2.2.2.2.2.2.2.2.2.1, rfl⟩
theorem zd_4_12_14 : zz_D zy_parametersSize_4_12 14 (.aload_n 1) 1 15 := ⟨zq_43 zg_4_12_0.2.2.2.2.2.2.2.2.2.2.2.2.2.2.1, rfl⟩
theorem zd_4_12_15 : zz_D zy_parametersSize_4_12 15 (.getfield 60) 3 18 := ⟨zq_180 zg_4_12_0.2.2.2.2.2.2.2.2.2.2.2.2.2.2.2.1 zg_4_12_0.2.2.2.2.2.2.2.2.2.2.2.2.2.2.2.2.1 zg_4_12_0.2.2.2.2.2.2.2.2.2.2.2.2.2.2.2.2.2.1 rfl, rfl⟩
theorem zd_4_12_18 : zz_D zy_parametersSize_4_12 18 (.imul) 1 19 := ⟨zq_104 zg_4_12_0.2.2.2.2.2.2.2.2.2.2.2.2.2.2.2.2.2.2.1, rfl⟩
theorem zd_4_12_19 : zz_D zy_parametersSize_4_12 19 (.iadd) 1 20 := ⟨zq_96 zg_4_12_0.2.2.2.2.2.2.2.2.2.2.2.2.2.2.2.2.2.2.2.1, rfl⟩
theorem zd_4_12_20 : zz_D zy_parametersSize_4_12 20 (.imul) 1 21 := ⟨zq_104 zg_4_12_0.2.2.2.2.2.2.2.2.2.2.2.2.2.2.2.2.2.2.2.2.1, rfl⟩
theorem zd_4_12_21 : zz_D zy_parametersSize_4_12 21 (.ireturn) 1 22 := ⟨zq_172 zg_4_12_0.2.2.2.2.2.2.2.2.2.2.2.2.2.2.2.2.2.2.2.2.2, rfl⟩
-- TensorForge$Layer parametersSize (LTensorForge$Layer;)I
abbrev zr_parametersSize_4_12 : Room := { frames := 0, cells := 0, slots := 0, locals := 0 }
def zp_parametersSize_4_12 (t : Int) (p0 : Int) (S0 : zz_S) : Int → zz_S → Prop := fun r S => S0 = S ∧ ((-2147483648) ≤ r ∧ r ≤ 2147483647) ∧ (((1 ≤ S0 (zz_rf 6 t) 3 ∧ S0 (zz_rf 6 t) 3 ≤ 3) ∧ (1 ≤ S0 (zz_rf 6 t) 4 ∧ S0 (zz_rf 6 t) 4 ≤ 3) ∧ (1 ≤ S0 (zz_rf 6 t) 12 ∧ S0 (zz_rf 6 t) 12 ≤ 16) ∧ (1 ≤ S0 (zz_rf 6 p0) 12 ∧ S0 (zz_rf 6 p0) 12 ≤ 63)) → r = S0 (zz_rf 6 t) 12 * (4 + (S0 (zz_rf 6 t) 3 * S0 (zz_rf 6 t) 4) * S0 (zz_rf 6 p0) 12) ∧ 0 ≤ r ∧ r ≤ 9136)
theorem zc_parametersSize_4_12 {g : mm_G} {l : Launch} (t : Int) (p0 : Int) (S0 : zz_S) (n : Nat) (hn : zz_end ≤ n) (G_S0 : zz_G S0) (ht : 0 ≤ t ∧ t ≤ 23) (hp0 : 0 ≤ p0 ∧ p0 ≤ 23) : mm_Met g l zy_parametersSize_4_12 zr_parametersSize_4_12 [.ref (zz_rf 6 t), .ref (zz_rf 6 p0)] (zz_M S0 n) n (zz_QI n (zp_parametersSize_4_12 t p0 S0)) := by
  refine zz_enter (by decide) (Nat.le_of_ble_eq_true rfl) (zz_less (ls1 := [some (.ref (zz_rf 6 t)), some (.ref (zz_rf 6 p0))]) ⟨rfl, ⟨rfl, trivial⟩⟩ ?_)
  have b_p0 := zz_rf6 (z := p0) (by omega)
  have b_t := zz_rf6 (z := t) (by omega)
  refine zz_aload_n (x := zz_rf 6 t) rfl zd_4_12_0 ?_
  have g1 := zz_G.r G_S0 (zz_rf 6 t) 12 (-2147483648) 2147483647 (zR_k6_12 (by omega)) (zB_k6 (by omega))
  refine zz_geti (z := S0 (zz_rf 6 t) 12) zd_4_12_1 zf_Layer_60 (zT_k6 (by omega)) rfl (zN_k6 hn (by omega)) rfl ?_
  refine zz_iconst zd_4_12_4 ?_
  refine zz_aload_n (x := zz_rf 6 t) rfl zd_4_12_5 ?_
  have g2 := zz_G.r G_S0 (zz_rf 6 t) 3 (-2147483648) 2147483647 (zR_k6_3 (by omega)) (zB_k6 (by omega))
  refine zz_geti (z := S0 (zz_rf 6 t) 3) zd_4_12_6 zf_Layer_23 (zT_k6 (by omega)) rfl (zN_k6 hn (by omega)) rfl ?_
  refine zz_aload_n (x := zz_rf 6 t) rfl zd_4_12_9 ?_
  have g3 := zz_G.r G_S0 (zz_rf 6 t) 4 (-2147483648) 2147483647 (zR_k6_4 (by omega)) (zB_k6 (by omega))
  refine zz_geti (z := S0 (zz_rf 6 t) 4) zd_4_12_10 zf_Layer_26 (zT_k6 (by omega)) rfl (zN_k6 hn (by omega)) rfl ?_
  refine zz_imul zd_4_12_13 ?_
  refine zz_nrm (fun v4 hv4 ev4 => ?_)
  refine zz_aload_n (x := zz_rf 6 p0) rfl zd_4_12_14 ?_
  have g5 := zz_G.r G_S0 (zz_rf 6 p0) 12 (-2147483648) 2147483647 (zR_k6_12 (by omega)) (zB_k6 (by omega))
  refine zz_geti (z := S0 (zz_rf 6 p0) 12) zd_4_12_15 zf_Layer_60 (zT_k6 (by omega)) rfl (zN_k6 hn (by omega)) rfl ?_
  refine zz_imul zd_4_12_18 ?_
  refine zz_nrm (fun v6 hv6 ev6 => ?_)
  refine zz_iadd zd_4_12_19 ?_
  refine zz_nrm (fun v7 hv7 ev7 => ?_)
  refine zz_imul zd_4_12_20 ?_
  refine zz_nrm (fun v8 hv8 ev8 => ?_)
  exact zz_iret zd_4_12_21 rfl (Nat.zero_le _) (Nat.zero_le _) ⟨_, _, rfl, rfl, by omega, (fun hb => by have m1 := zz_mulb (a := S0 (zz_rf 6 t) 3) (b := S0 (zz_rf 6 t) 4) 3 3 9 (by omega) (by omega) (by decide); have c1 := ev4 (by omega); have m2 := zz_mulb (a := S0 (zz_rf 6 t) 3 * S0 (zz_rf 6 t) 4) (b := S0 (zz_rf 6 p0) 12) 9 63 567 (by omega) (by omega) (by decide); rw [c1] at ev6; have c2 := ev6 (by omega); have c3 := ev7 (by omega); have m3 := zz_mulb (a := S0 (zz_rf 6 t) 12) (b := 4 + (S0 (zz_rf 6 t) 3 * S0 (zz_rf 6 t) 4) * S0 (zz_rf 6 p0) 12) 16 571 9136 (by omega) (by omega) (by decide); rw [c3, c2] at ev8; have c4 := ev8 (by omega); exact ⟨c4, by omega, by omega⟩)⟩
theorem zk_Layer_69 : mm_Vl "TensorForge$Layer" 69 2 1 zy_parametersSize_4_12 := ⟨zyw_parametersSize_4_12, (R_Layer, F_Layer, 15), rfl, mm_tb_1 1005 (by decide +kernel) rfl, mm_tb_1 1007 (by decide +kernel) rfl, mm_tb_s 50 (by decide +kernel) rfl⟩
theorem zg_4_11_180 : zq_at zy_takeResult_4_11.2.1 180 100 ∧ zq_at zy_takeResult_4_11.2.1 181 164 ∧ zq_at zy_takeResult_4_11.2.1 182 0 ∧ zq_at zy_takeResult_4_11.2.1 183 5 ∧ zq_at zy_takeResult_4_11.2.1 186 42 ∧ zq_at zy_takeResult_4_11.2.1 187 180 ∧ zq_at zy_takeResult_4_11.2.1 188 0 ∧ zq_at zy_takeResult_4_11.2.1 189 54 ∧ zq_at zy_takeResult_4_11.2.1 190 4 ∧ zq_at zy_takeResult_4_11.2.1 191 16 ∧ zq_at zy_takeResult_4_11.2.1 192 63 ∧ zq_at zy_takeResult_4_11.2.1 193 184 ∧ zq_at zy_takeResult_4_11.2.1 194 0 ∧ zq_at zy_takeResult_4_11.2.1 195 63 ∧ zq_at zy_takeResult_4_11.2.1 196 153 ∧ zq_at zy_takeResult_4_11.2.1 197 0 ∧ zq_at zy_takeResult_4_11.2.1 198 20 ∧ zq_at zy_takeResult_4_11.2.1 216 3 ∧ zq_at zy_takeResult_4_11.2.1 217 172 ∧ zq_at zy_takeResult_4_11.2.1 199 42 ∧ zq_at zy_takeResult_4_11.2.1 200 180 ∧ zq_at zy_takeResult_4_11.2.1 201 0 ∧ zq_at zy_takeResult_4_11.2.1 202 57 ∧ zq_at zy_takeResult_4_11.2.1 203 4 := by decide +kernel
theorem zd_4_11_180 : zz_D zy_takeResult_4_11 180 (.isub) 1 181 := ⟨zq_100 zg_4_11_180.1, rfl⟩
theorem zd_4_11_181 : zz_B zy_takeResult_4_11 181 (Instr.if_icmp .le) 186 184 := ⟨5, zq_164 zg_4_11_180.2.1 zg_4_11_180.2.2.1 zg_4_11_180.2.2.2.1 (by decide), rfl, rfl⟩
theorem zd_4_11_186 : zz_D zy_takeResult_4_11 186 (.aload_n 0) 1 187 := ⟨zq_42 zg_4_11_180.2.2.2.2.1, rfl⟩
theorem zd_4_11_187 : zz_D zy_takeResult_4_11 187 (.getfield 54) 3 190 := ⟨zq_180 zg_4_11_180.2.2.2.2.2.1 zg_4_11_180.2.2.2.2.2.2.1 zg_4_11_180.2.2.2.2.2.2.2.1 rfl, rfl⟩
theorem zd_4_11_190 : zz_D zy_takeResult_4_11 190 (.iconst 1) 1 191 := ⟨zq_4 zg_4_11_180.2.2.2.2.2.2.2.2.1, rfl⟩
theorem zd_4_11_191 : zz_D zy_takeResult_4_11 191 (.bipush 63) 2 193 := ⟨zq_16 zg_4_11_180.2.2.2.2.2.2.2.2.2.1 zg_4_11_180.2.2.2.2.2.2.2.2.2.2.1 (by decide), rfl⟩
theorem zd_4_11_193 : zz_D zy_takeResult_4_11 193 (.invokestatic 63) 3 196 := ⟨zq_184 zg_4_11_180.2.2.2.2.2.2.2.2.2.2.2.1 zg_4_11_180.2.2.2.2.2.2.2.2.2.2.2.2.1 zg_4_11_180.2.2.2.2.2.2.2.2.2.2.2.2.2.1 rfl, rfl⟩
theorem zd_4_11_196 : zz_B zy_takeResult_4_11 196 (Instr.ifCond .eq) 216 199 := ⟨20, zq_153 zg_4_11_180.2.2.2.2.2.2.2.2.2.2.2.2.2.2.1 zg_4_11_180.2.2.2.2.2.2.2.2.2.2.2.2.2.2.2.1 zg_4_11_180.2.2.2.2.2.2.2.2.2.2.2.2.2.2.2.2.1 (by decide), rfl, rfl⟩
theorem zd_4_11_216 : zz_D zy_takeResult_4_11 216 (.iconst 0) 1 217 := ⟨zq_3 zg_4_11_180.2.2.2.2.2.2.2.2.2.2.2.2.2.2.2.2.2.1, rfl⟩
theorem zd_4_11_217 : zz_D zy_takeResult_4_11 217 (.ireturn) 1 218 := ⟨zq_172 zg_4_11_180.2.2.2.2.2.2.2.2.2.2.2.2.2.2.2.2.2.2.1, rfl⟩
theorem zd_4_11_199 : zz_D zy_takeResult_4_11 199 (.aload_n 0) 1 200 := ⟨zq_42 zg_4_11_180.2.2.2.2.2.2.2.2.2.2.2.2.2.2.2.2.2.2.2.1, rfl⟩
theorem zd_4_11_200 : zz_D zy_takeResult_4_11 200 (.getfield 57) 3 203 := ⟨zq_180 zg_4_11_180.2.2.2.2.2.2.2.2.2.2.2.2.2.2.2.2.2.2.2.2.1 zg_4_11_180.2.2.2.2.2.2.2.2.2.2.2.2.2.2.2.2.2.2.2.2.2.1 zg_4_11_180.2.2.2.2.2.2.2.2.2.2.2.2.2.2.2.2.2.2.2.2.2.2.1 rfl, rfl⟩
theorem zd_4_11_203 : zz_D zy_takeResult_4_11 203 (.iconst 1) 1 204 := ⟨zq_4 zg_4_11_180.2.2.2.2.2.2.2.2.2.2.2.2.2.2.2.2.2.2.2.2.2.2.2, rfl⟩
theorem zg_4_11_204 : zq_at zy_takeResult_4_11.2.1 204 16 ∧ zq_at zy_takeResult_4_11.2.1 205 63 ∧ zq_at zy_takeResult_4_11.2.1 206 184 ∧ zq_at zy_takeResult_4_11.2.1 207 0 ∧ zq_at zy_takeResult_4_11.2.1 208 63 ∧ zq_at zy_takeResult_4_11.2.1 209 153 ∧ zq_at zy_takeResult_4_11.2.1 210 0 ∧ zq_at zy_takeResult_4_11.2.1 211 7 ∧ zq_at zy_takeResult_4_11.2.1 212 4 ∧ zq_at zy_takeResult_4_11.2.1 213 167 ∧ zq_at zy_takeResult_4_11.2.1 214 0 ∧ zq_at zy_takeResult_4_11.2.1 215 4 ∧ zq_at zy_takeResult_4_11.2.1 150 42 ∧ zq_at zy_takeResult_4_11.2.1 151 43 ∧ zq_at zy_takeResult_4_11.2.1 152 180 ∧ zq_at zy_takeResult_4_11.2.1 153 0 ∧ zq_at zy_takeResult_4_11.2.1 154 60 ∧ zq_at zy_takeResult_4_11.2.1 155 181 ∧ zq_at zy_takeResult_4_11.2.1 156 0 ∧ zq_at zy_takeResult_4_11.2.1 157 60 ∧ zq_at zy_takeResult_4_11.2.1 158 167 ∧ zq_at zy_takeResult_4_11.2.1 159 0 ∧ zq_at zy_takeResult_4_11.2.1 160 28 ∧ zq_at zy_takeResult_4_11.2.1 8 42 := by decide +kernel
theorem zd_4_11_204 : zz_D zy_takeResult_4_11 204 (.bipush 63) 2 206 := ⟨zq_16 zg_4_11_204.1 zg_4_11_204.2.1 (by decide), rfl⟩
theorem zd_4_11_206 : zz_D zy_takeResult_4_11 206 (.invokestatic 63) 3 209 := ⟨zq_184 zg_4_11_204.2.2.1 zg_4_11_204.2.2.2.1 zg_4_11_204.2.2.2.2.1 rfl, rfl⟩
theorem zd_4_11_209 : zz_B zy_takeResult_4_11 209 (Instr.ifCond .eq) 216 212 := ⟨7, zq_153 zg_4_11_204.2.2.2.2.2.1 zg_4_11_204.2.2.2.2.2.2.1 zg_4_11_204.2.2.2.2.2.2.2.1 (by decide), rfl, rfl⟩
theorem zd_4_11_212 : zz_D zy_takeResult_4_11 212 (.iconst 1) 1 213 := ⟨zq_4 zg_4_11_204.2.2.2.2.2.2.2.2.1, rfl⟩
theorem zd_4_11_213 : zz_B zy_takeResult_4_11 213 Instr.goto 217 216 := ⟨4, zq_167 zg_4_11_204.2.2.2.2.2.2.2.2.2.1 zg_4_11_204.2.2.2.2.2.2.2.2.2.2.1 zg_4_11_204.2.2.2.2.2.2.2.2.2.2.2.1 (by decide), rfl, rfl⟩
theorem zd_4_11_150 : zz_D zy_takeResult_4_11 150 (.aload_n 0) 1 151 := ⟨zq_42 zg_4_11_204.2.2.2.2.2.2.2.2.2.2.2.2.1, rfl⟩
theorem zd_4_11_151 : zz_D zy_takeResult_4_11 151 (.aload_n 1) 1 152 := ⟨zq_43 zg_4_11_204.2.2.2.2.2.2.2.2.2.2.2.2.2.1, rfl⟩
theorem zd_4_11_152 : zz_D zy_takeResult_4_11 152 (.getfield 60) 3 155 := ⟨zq_180 zg_4_11_204.2.2.2.2.2.2.2.2.2.2.2.2.2.2.1 zg_4_11_204.2.2.2.2.2.2.2.2.2.2.2.2.2.2.2.1 zg_4_11_204.2.2.2.2.2.2.2.2.2.2.2.2.2.2.2.2.1 rfl, rfl⟩
theorem zd_4_11_155 : zz_D zy_takeResult_4_11 155 (.putfield 60) 3 158 := ⟨zq_181 zg_4_11_204.2.2.2.2.2.2.2.2.2.2.2.2.2.2.2.2.2.1 zg_4_11_204.2.2.2.2.2.2.2.2.2.2.2.2.2.2.2.2.2.2.1 zg_4_11_204.2.2.2.2.2.2.2.2.2.2.2.2.2.2.2.2.2.2.2.1 rfl, rfl⟩
theorem zd_4_11_158 : zz_B zy_takeResult_4_11 158 Instr.goto 186 161 := ⟨28, zq_167 zg_4_11_204.2.2.2.2.2.2.2.2.2.2.2.2.2.2.2.2.2.2.2.2.1 zg_4_11_204.2.2.2.2.2.2.2.2.2.2.2.2.2.2.2.2.2.2.2.2.2.1 zg_4_11_204.2.2.2.2.2.2.2.2.2.2.2.2.2.2.2.2.2.2.2.2.2.2.1 (by decide), rfl, rfl⟩
theorem zd_4_11_8 : zz_D zy_takeResult_4_11 8 (.aload_n 0) 1 9 := ⟨zq_42 zg_4_11_204.2.2.2.2.2.2.2.2.2.2.2.2.2.2.2.2.2.2.2.2.2.2.2, rfl⟩
theorem zg_4_11_9 : zq_at zy_takeResult_4_11.2.1 9 43 ∧ zq_at zy_takeResult_4_11.2.1 10 180 ∧ zq_at zy_takeResult_4_11.2.1 11 0 ∧ zq_at zy_takeResult_4_11.2.1 12 54 ∧ zq_at zy_takeResult_4_11.2.1 13 43 ∧ zq_at zy_takeResult_4_11.2.1 14 180 ∧ zq_at zy_takeResult_4_11.2.1 15 0 ∧ zq_at zy_takeResult_4_11.2.1 16 57 ∧ zq_at zy_takeResult_4_11.2.1 17 43 ∧ zq_at zy_takeResult_4_11.2.1 18 180 ∧ zq_at zy_takeResult_4_11.2.1 19 0 ∧ zq_at zy_takeResult_4_11.2.1 20 60 ∧ zq_at zy_takeResult_4_11.2.1 21 182 ∧ zq_at zy_takeResult_4_11.2.1 22 0 ∧ zq_at zy_takeResult_4_11.2.1 23 45 ∧ zq_at zy_takeResult_4_11.2.1 24 42 ∧ zq_at zy_takeResult_4_11.2.1 25 180 ∧ zq_at zy_takeResult_4_11.2.1 26 0 ∧ zq_at zy_takeResult_4_11.2.1 27 54 ∧ zq_at zy_takeResult_4_11.2.1 28 44 ∧ zq_at zy_takeResult_4_11.2.1 29 180 ∧ zq_at zy_takeResult_4_11.2.1 30 0 ∧ zq_at zy_takeResult_4_11.2.1 31 54 := by decide +kernel
theorem zd_4_11_9 : zz_D zy_takeResult_4_11 9 (.aload_n 1) 1 10 := ⟨zq_43 zg_4_11_9.1, rfl⟩
theorem zd_4_11_10 : zz_D zy_takeResult_4_11 10 (.getfield 54) 3 13 := ⟨zq_180 zg_4_11_9.2.1 zg_4_11_9.2.2.1 zg_4_11_9.2.2.2.1 rfl, rfl⟩
theorem zd_4_11_13 : zz_D zy_takeResult_4_11 13 (.aload_n 1) 1 14 := ⟨zq_43 zg_4_11_9.2.2.2.2.1, rfl⟩
theorem zd_4_11_14 : zz_D zy_takeResult_4_11 14 (.getfield 57) 3 17 := ⟨zq_180 zg_4_11_9.2.2.2.2.2.1 zg_4_11_9.2.2.2.2.2.2.1 zg_4_11_9.2.2.2.2.2.2.2.1 rfl, rfl⟩
theorem zd_4_11_17 : zz_D zy_takeResult_4_11 17 (.aload_n 1) 1 18 := ⟨zq_43 zg_4_11_9.2.2.2.2.2.2.2.2.1, rfl⟩
theorem zd_4_11_18 : zz_D zy_takeResult_4_11 18 (.getfield 60) 3 21 := ⟨zq_180 zg_4_11_9.2.2.2.2.2.2.2.2.2.1 zg_4_11_9.2.2.2.2.2.2.2.2.2.2.1 zg_4_11_9.2.2.2.2.2.2.2.2.2.2.2.1 rfl, rfl⟩
theorem zd_4_11_21 : zz_D zy_takeResult_4_11 21 (.invokevirtual 45) 3 24 := ⟨zq_182 zg_4_11_9.2.2.2.2.2.2.2.2.2.2.2.2.1 zg_4_11_9.2.2.2.2.2.2.2.2.2.2.2.2.2.1 zg_4_11_9.2.2.2.2.2.2.2.2.2.2.2.2.2.2.1 rfl, rfl⟩
theorem zd_4_11_24 : zz_D zy_takeResult_4_11 24 (.aload_n 0) 1 25 := ⟨zq_42 zg_4_11_9.2.2.2.2.2.2.2.2.2.2.2.2.2.2.2.1, rfl⟩
theorem zd_4_11_25 : zz_D zy_takeResult_4_11 25 (.getfield 54) 3 28 := ⟨zq_180 zg_4_11_9.2.2.2.2.2.2.2.2.2.2.2.2.2.2.2.2.1 zg_4_11_9.2.2.2.2.2.2.2.2.2.2.2.2.2.2.2.2.2.1 zg_4_11_9.2.2.2.2.2.2.2.2.2.2.2.2.2.2.2.2.2.2.1 rfl, rfl⟩
theorem zd_4_11_28 : zz_D zy_takeResult_4_11 28 (.aload_n 2) 1 29 := ⟨zq_44 zg_4_11_9.2.2.2.2.2.2.2.2.2.2.2.2.2.2.2.2.2.2.2.1, rfl⟩
theorem zd_4_11_29 : zz_D zy_takeResult_4_11 29 (.getfield 54) 3 32 := ⟨zq_180 zg_4_11_9.2.2.2.2.2.2.2.2.2.2.2.2.2.2.2.2.2.2.2.2.1 zg_4_11_9.2.2.2.2.2.2.2.2.2.2.2.2.2.2.2.2.2.2.2.2.2.1 zg_4_11_9.2.2.2.2.2.2.2.2.2.2.2.2.2.2.2.2.2.2.2.2.2.2 rfl, rfl⟩
theorem zg_4_11_32 : zq_at zy_takeResult_4_11.2.1 32 160 ∧ zq_at zy_takeResult_4_11.2.1 33 0 ∧ zq_at zy_takeResult_4_11.2.1 34 29 ∧ zq_at zy_takeResult_4_11.2.1 61 3 ∧ zq_at zy_takeResult_4_11.2.1 62 172 ∧ zq_at zy_takeResult_4_11.2.1 35 42 ∧ zq_at zy_takeResult_4_11.2.1 36 180 ∧ zq_at zy_takeResult_4_11.2.1 37 0 ∧ zq_at zy_takeResult_4_11.2.1 38 57 ∧ zq_at zy_takeResult_4_11.2.1 39 44 ∧ zq_at zy_takeResult_4_11.2.1 40 180 ∧ zq_at zy_takeResult_4_11.2.1 41 0 ∧ zq_at zy_takeResult_4_11.2.1 42 57 ∧ zq_at zy_takeResult_4_11.2.1 43 160 ∧ zq_at zy_takeResult_4_11.2.1 44 0 ∧ zq_at zy_takeResult_4_11.2.1 45 18 ∧ zq_at zy_takeResult_4_11.2.1 46 42 ∧ zq_at zy_takeResult_4_11.2.1 47 180 ∧ zq_at zy_takeResult_4_11.2.1 48 0 ∧ zq_at zy_takeResult_4_11.2.1 49 60 ∧ zq_at zy_takeResult_4_11.2.1 50 44 ∧ zq_at zy_takeResult_4_11.2.1 51 180 ∧ zq_at zy_takeResult_4_11.2.1 52 0 ∧ zq_at zy_takeResult_4_11.2.1 53 60 := by decide +kernel
theorem zd_4_11_32 : zz_B zy_takeResult_4_11 32 (Instr.if_icmp .ne) 61 35 := ⟨29, zq_160 zg_4_11_32.1 zg_4_11_32.2.1 zg_4_11_32.2.2.1 (by decide), rfl, rfl⟩
theorem zd_4_11_61 : zz_D zy_takeResult_4_11 61 (.iconst 0) 1 62 := ⟨zq_3 zg_4_11_32.2.2.2.1, rfl⟩
theorem zd_4_11_62 : zz_D zy_takeResult_4_11 62 (.ireturn) 1 63 := ⟨zq_172 zg_4_11_32.2.2.2.2.1, rfl⟩
theorem zd_4_11_35 : zz_D zy_takeResult_4_11 35 (.aload_n 0) 1 36 := ⟨zq_42 zg_4_11_32.2.2.2.2.2.1, rfl⟩
theorem zd_4_11_36 : zz_D zy_takeResult_4_11 36 (.getfield 57) 3 39 := ⟨zq_180 zg_4_11_32.2.2.2.2.2.2.1 zg_4_11_32.2.2.2.2.2.2.2.1 zg_4_11_32.2.2.2.2.2.2.2.2.1 rfl, rfl⟩
theorem zd_4_11_39 : zz_D zy_takeResult_4_11 39 (.aload_n 2) 1 40 := ⟨zq_44 zg_4_11_32.2.2.2.2.2.2.2.2.2.1, rfl⟩
theorem zd_4_11_40 : zz_D zy_takeResult_4_11 40 (.getfield 57) 3 43 := ⟨zq_180 zg_4_11_32.2.2.2.2.2.2.2.2.2.2.1 zg_4_11_32.2.2.2.2.2.2.2.2.2.2.2.1 zg_4_11_32.2.2.2.2.2.2.2.2.2.2.2.2.1 rfl, rfl⟩
theorem zd_4_11_43 : zz_B zy_takeResult_4_11 43 (Instr.if_icmp .ne) 61 46 := ⟨18, zq_160 zg_4_11_32.2.2.2.2.2.2.2.2.2.2.2.2.2.1 zg_4_11_32.2.2.2.2.2.2.2.2.2.2.2.2.2.2.1 zg_4_11_32.2.2.2.2.2.2.2.2.2.2.2.2.2.2.2.1 (by decide), rfl, rfl⟩
theorem zd_4_11_46 : zz_D zy_takeResult_4_11 46 (.aload_n 0) 1 47 := ⟨zq_42 zg_4_11_32.2.2.2.2.2.2.2.2.2.2.2.2.2.2.2.2.1, rfl⟩
theorem zd_4_11_47 : zz_D zy_takeResult_4_11 47 (.getfield 60) 3 50 := ⟨zq_180 zg_4_11_32.2.2.2.2.2.2.2.2.2.2.2.2.2.2.2.2.2.1 zg_4_11_32.2.2.2.2.2.2.2.2.2.2.2.2.2.2.2.2.2.2.1 zg_4_11_32.2.2.2.2.2.2.2.2.2.2.2.2.2.2.2.2.2.2.2.1 rfl, rfl⟩
theorem zd_4_11_50 : zz_D zy_takeResult_4_11 50 (.aload_n 2) 1 51 := ⟨zq_44 zg_4_11_32.2.2.2.2.2.2.2.2.2.2.2.2.2.2.2.2.2.2.2.2.1, rfl⟩
theorem zd_4_11_51 : zz_D zy_takeResult_4_11 51 (.getfield 60) 3 54 := ⟨zq_180 zg_4_11_32.2.2.2.2.2.2.2.2.2.2.2.2.2.2.2.2.2.2.2.2.2.1 zg_4_11_32.2.2.2.2.2.2.2.2.2.2.2.2.2.2.2.2.2.2.2.2.2.2.1 zg_4_11_32.2.2.2.2.2.2.2.2.2.2.2.2.2.2.2.2.2.2.2.2.2.2.2 rfl, rfl⟩
theorem zg_4_11_54 : zq_at zy_takeResult_4_11.2.1 54 160 ∧ zq_at zy_takeResult_4_11.2.1 55 0 ∧ zq_at zy_takeResult_4_11.2.1 56 7 ∧ zq_at zy_takeResult_4_11.2.1 57 4 ∧ zq_at zy_takeResult_4_11.2.1 58 167 ∧ zq_at zy_takeResult_4_11.2.1 59 0 ∧ zq_at zy_takeResult_4_11.2.1 60 4 := by decide +kernel
theorem zd_4_11_54 : zz_B zy_takeResult_4_11 54 (Instr.if_icmp .ne) 61 57 := ⟨7, zq_160 zg_4_11_54.1 zg_4_11_54.2.1 zg_4_11_54.2.2.1 (by decide), rfl, rfl⟩
theorem zd_4_11_57 : zz_D zy_takeResult_4_11 57 (.iconst 1) 1 58 := ⟨zq_4 zg_4_11_54.2.2.2.1, rfl⟩
theorem zd_4_11_58 : zz_B zy_takeResult_4_11 58 Instr.goto 62 61 := ⟨4, zq_167 zg_4_11_54.2.2.2.2.1 zg_4_11_54.2.2.2.2.2.1 zg_4_11_54.2.2.2.2.2.2 (by decide), rfl, rfl⟩
-- TensorForge$Layer takeResult (LTensorForge$Layer;LTensorForge$Layer;)Z
abbrev zr_takeResult_4_11 : Room := { frames := 1, cells := 0, slots := 0, locals := 15 }
def zp_takeResult_4_11 (t : Int) (p0 : Int) (p1 : Int) (S0 : zz_S) : Int → zz_S → Prop := fun r S => zz_G S ∧ zz_fr [] [] (fun a i => (a = zz_rf 6 t ∧ i = 10) ∨ (a = zz_rf 6 t ∧ i = 11) ∨ (a = zz_rf 6 t ∧ i = 12)) S0 S ∧ (0 ≤ r ∧ r ≤ 1) ∧ (r = 1 → ((S0 (zz_rf 6 t) 0 = 3 ∨ S0 (zz_rf 6 t) 0 = 2) ∧ S (zz_rf 6 t) 12 = S0 (zz_rf 6 p0) 12) ∨ (S0 (zz_rf 6 t) 0 ≠ 3 ∧ S0 (zz_rf 6 t) 0 ≠ 2 ∧ S (zz_rf 6 t) 12 = S0 (zz_rf 6 t) 12)) ∧ (zn_fit (S0 (zz_rf 6 t) 0) (S0 (zz_rf 6 t) 3) (S0 (zz_rf 6 t) 4) (S0 (zz_rf 6 t) 5) (S0 (zz_rf 6 t) 6) (S0 (zz_rf 6 t) 7) (S0 (zz_rf 6 t) 12) → ((1 ≤ S0 (zz_rf 6 p0) 10 ∧ S0 (zz_rf 6 p0) 10 ≤ 63) ∧ (1 ≤ S0 (zz_rf 6 p0) 11 ∧ S0 (zz_rf 6 p0) 11 ≤ 63) ∧ (1 ≤ S0 (zz_rf 6 p0) 12 ∧ S0 (zz_rf 6 p0) 12 ≤ 63)) → p0 ≠ t → p1 ≠ t → (S0 (zz_rf 6 t) 0 = 1 ∨ (S0 (zz_rf 6 t) 0 = 2 ∧ S0 (zz_rf 6 t) 6 = 0) ∨ S0 (zz_rf 6 t) 0 = 3) → (r = 1 ∧ zn_res (S0 (zz_rf 6 t) 0) (S0 (zz_rf 6 t) 3) (S0 (zz_rf 6 t) 4) (S0 (zz_rf 6 t) 5) (S0 (zz_rf 6 t) 6) (S0 (zz_rf 6 t) 12) (S0 (zz_rf 6 t) 9) (S0 (zz_rf 6 p0) 10) (S0 (zz_rf 6 p0) 11) (S0 (zz_rf 6 p0) 12) (S0 (zz_rf 6 p1) 10) (S0 (zz_rf 6 p1) 11) (S0 (zz_rf 6 p1) 12) ∧ S (zz_rf 6 t) 10 = zn_out (S0 (zz_rf 6 t) 0) (S0 (zz_rf 6 t) 3) (S0 (zz_rf 6 t) 5) (S0 (zz_rf 6 t) 6) (S0 (zz_rf 6 p0) 10) ∧ S (zz_rf 6 t) 11 = zn_out (S0 (zz_rf 6 t) 0) (S0 (zz_rf 6 t) 4) (S0 (zz_rf 6 t) 5) (S0 (zz_rf 6 t) 6) (S0 (zz_rf 6 p0) 11) ∧ S (zz_rf 6 t) 12 = zn_ch (S0 (zz_rf 6 t) 0) (S0 (zz_rf 6 t) 12) (S0 (zz_rf 6 p0) 12)) ∨ (r = 0 ∧ ¬ zn_res (S0 (zz_rf 6 t) 0) (S0 (zz_rf 6 t) 3) (S0 (zz_rf 6 t) 4) (S0 (zz_rf 6 t) 5) (S0 (zz_rf 6 t) 6) (S0 (zz_rf 6 t) 12) (S0 (zz_rf 6 t) 9) (S0 (zz_rf 6 p0) 10) (S0 (zz_rf 6 p0) 11) (S0 (zz_rf 6 p0) 12) (S0 (zz_rf 6 p1) 10) (S0 (zz_rf 6 p1) 11) (S0 (zz_rf 6 p1) 12)))
set_option maxHeartbeats 4000000 in
theorem zc_takeResult_4_11 {g : mm_G} {l : Launch} (t : Int) (p0 : Int) (p1 : Int) (S0 : zz_S) (n : Nat) (hn : zz_end ≤ n) (G_S0 : zz_G S0) (ht : 0 ≤ t ∧ t ≤ 23) (hp0 : 0 ≤ p0 ∧ p0 ≤ 23) (hp1 : 0 ≤ p1 ∧ p1 ≤ 23) : mm_Met g l zy_takeResult_4_11 zr_takeResult_4_11 [.ref (zz_rf 6 t), .ref (zz_rf 6 p0), .ref (zz_rf 6 p1)] (zz_M S0 n) n (zz_QI n (zp_takeResult_4_11 t p0 p1 S0)) := by
  refine zz_enter (by decide) (Nat.le_of_ble_eq_true rfl) (zz_less (ls1 := [some (.ref (zz_rf 6 t)), some (.ref (zz_rf 6 p0)), some (.ref (zz_rf 6 p1))]) ⟨rfl, ⟨rfl, ⟨rfl, trivial⟩⟩⟩ ?_)
  have F_S0 : zz_fr [] [] (fun a i => (a = zz_rf 6 t ∧ i = 10) ∨ (a = zz_rf 6 t ∧ i = 11) ∨ (a = zz_rf 6 t ∧ i = 12)) S0 S0 := zz_fr.refl
  have b_p0 := zz_rf6 (z := p0) (by omega)
  have b_p1 := zz_rf6 (z := p1) (by omega)
  have b_t := zz_rf6 (z := t) (by omega)
  refine zz_aload_n (x := zz_rf 6 t) rfl zd_4_11_0 ?_
  have g1 := zz_G.r G_S0 (zz_rf 6 t) 0 (-2147483648) 2147483647 (zR_k6_0 (by omega)) (zB_k6 (by omega))
  refine zz_geti (z := S0 (zz_rf 6 t) 0) zd_4_11_1 zf_Layer_13 (zT_k6 (by omega)) rfl (zN_k6 hn (by omega)) rfl ?_
  refine zz_iconst zd_4_11_4 ?_
  refine zz_icmp_ne (by omega) (by omega) zd_4_11_5 (fun c2 => ?_) (fun c2 => ?_)
  · refine zz_aload_n (x := zz_rf 6 p0) rfl zd_4_11_63 ?_
    have g3 := zz_G.r G_S0 (zz_rf 6 p0) 10 (-2147483648) 2147483647 (zR_k6_10 (by omega)) (zB_k6 (by omega))
    refine zz_geti (z := S0 (zz_rf 6 p0) 10) zd_4_11_64 zf_Layer_54 (zT_k6 (by omega)) rfl (zN_k6 hn (by omega)) rfl ?_
    refine zz_iconst zd_4_11_67 ?_
    refine zz_aload_n (x := zz_rf 6 t) rfl zd_4_11_68 ?_
    have g4 := zz_G.r G_S0 (zz_rf 6 t) 6 (-2147483648) 2147483647 (zR_k6_6 (by omega)) (zB_k6 (by omega))
    refine zz_geti (z := S0 (zz_rf 6 t) 6) zd_4_11_69 zf_Layer_32 (zT_k6 (by omega)) rfl (zN_k6 hn (by omega)) rfl ?_
    refine zz_imul zd_4_11_72 ?_
    refine zz_nrm (fun v5 hv5 ev5 => ?_)
    refine zz_iadd zd_4_11_73 ?_
    refine zz_nrm (fun v6 hv6 ev6 => ?_)
    refine zz_aload_n (x := zz_rf 6 t) rfl zd_4_11_74 ?_
    have g7 := zz_G.r G_S0 (zz_rf 6 t) 3 (-2147483648) 2147483647 (zR_k6_3 (by omega)) (zB_k6 (by omega))
    refine zz_geti (z := S0 (zz_rf 6 t) 3) zd_4_11_75 zf_Layer_23 (zT_k6 (by omega)) rfl (zN_k6 hn (by omega)) rfl ?_
    refine zz_isub zd_4_11_78 ?_
    refine zz_nrm (fun v8 hv8 ev8 => ?_)
    refine zz_istore_n [some (.ref (zz_rf 6 t)), some (.ref (zz_rf 6 p0)), some (.ref (zz_rf 6 p1)), some (zi v8)] zd_4_11_79 (by decide) rfl ?_
    refine zz_aload_n (x := zz_rf 6 p0) rfl zd_4_11_80 ?_
    have g9 := zz_G.r G_S0 (zz_rf 6 p0) 11 (-2147483648) 2147483647 (zR_k6_11 (by omega)) (zB_k6 (by omega))
    refine zz_geti (z := S0 (zz_rf 6 p0) 11) zd_4_11_81 zf_Layer_57 (zT_k6 (by omega)) rfl (zN_k6 hn (by omega)) rfl ?_
    refine zz_iconst zd_4_11_84 ?_
    refine zz_aload_n (x := zz_rf 6 t) rfl zd_4_11_85 ?_
    refine zz_geti (z := S0 (zz_rf 6 t) 6) zd_4_11_86 zf_Layer_32 (zT_k6 (by omega)) rfl (zN_k6 hn (by omega)) rfl ?_
    refine zz_imul zd_4_11_89 ?_
    refine zz_nrm (fun v10 hv10 ev10 => ?_)
    refine zz_iadd zd_4_11_90 ?_
    refine zz_nrm (fun v11 hv11 ev11 => ?_)
    refine zz_aload_n (x := zz_rf 6 t) rfl zd_4_11_91 ?_
    have g12 := zz_G.r G_S0 (zz_rf 6 t) 4 (-2147483648) 2147483647 (zR_k6_4 (by omega)) (zB_k6 (by omega))
    refine zz_geti (z := S0 (zz_rf 6 t) 4) zd_4_11_92 zf_Layer_26 (zT_k6 (by omega)) rfl (zN_k6 hn (by omega)) rfl ?_
    refine zz_isub zd_4_11_95 ?_
    refine zz_nrm (fun v13 hv13 ev13 => ?_)
    refine zz_istore [some (.ref (zz_rf 6 t)), some (.ref (zz_rf 6 p0)), some (.ref (zz_rf 6 p1)), some (zi v8), some (zi v13)] zd_4_11_96 (by decide) rfl ?_
    refine zz_iload_n (x := v8) rfl zd_4_11_98 ?_
    refine zz_if_lt (by omega) zd_4_11_99 (fun c14 => ?_) (fun c14 => ?_)
    · refine zz_iconst zd_4_11_115 ?_
      exact zz_zret zd_4_11_116 rfl (by omega) (Nat.zero_le _) (Nat.zero_le _) ⟨_, _, rfl, G_S0, F_S0, by omega, fun hr => absurd hr (by decide), (fun hf hb hn1 hn2 hK => by obtain ⟨_, ⟨a1, a2⟩, ⟨b1, b2⟩, hs⟩ := hf.resolve_left (fun h => absurd h.1 (by omega)); have s9 : (1 ≤ S0 (zz_rf 6 t) 5 ∧ S0 (zz_rf 6 t) 5 ≤ 3) ∧ 0 ≤ S0 (zz_rf 6 t) 6 ∧ S0 (zz_rf 6 t) 6 ≤ 1 := (by rcases hs with hs | hs; omega; omega); clear hf hs hK; have c_v5 := ev5 (by omega); have c_v6 := ev6 (by omega); have c_v8 := ev8 (by omega); have c_v10 := ev10 (by omega); have c_v11 := ev11 (by omega); have c_v13 := ev13 (by omega); exact Or.inr ⟨rfl, fun hr => by have hr := zn_resn (by omega) hr; omega⟩)⟩
    · refine zz_iload (x := v13) rfl zd_4_11_102 ?_
      refine zz_if_lt (by omega) zd_4_11_104 (fun c15 => ?_) (fun c15 => ?_)
      · refine zz_iconst zd_4_11_115 ?_
        exact zz_zret zd_4_11_116 rfl (by omega) (Nat.zero_le _) (Nat.zero_le _) ⟨_, _, rfl, G_S0, F_S0, by omega, fun hr => absurd hr (by decide), (fun hf hb hn1 hn2 hK => by obtain ⟨_, ⟨a1, a2⟩, ⟨b1, b2⟩, hs⟩ := hf.resolve_left (fun h => absurd h.1 (by omega)); have s9 : (1 ≤ S0 (zz_rf 6 t) 5 ∧ S0 (zz_rf 6 t) 5 ≤ 3) ∧ 0 ≤ S0 (zz_rf 6 t) 6 ∧ S0 (zz_rf 6 t) 6 ≤ 1 := (by rcases hs with hs | hs; omega; omega); clear hf hs hK; have c_v5 := ev5 (by omega); have c_v6 := ev6 (by omega); have c_v8 := ev8 (by omega); have c_v10 := ev10 (by omega); have c_v11 := ev11 (by omega); have c_v13 := ev13 (by omega); exact Or.inr ⟨rfl, fun hr => by have hr := zn_resn (by omega) hr; omega⟩)⟩
      · refine zz_aload_n (x := zz_rf 6 t) rfl zd_4_11_107 ?_
        have g16 := zz_G.r G_S0 (zz_rf 6 t) 5 (-2147483648) 2147483647 (zR_k6_5 (by omega)) (zB_k6 (by omega))
        refine zz_geti (z := S0 (zz_rf 6 t) 5) zd_4_11_108 zf_Layer_29 (zT_k6 (by omega)) rfl (zN_k6 hn (by omega)) rfl ?_
        refine zz_iconst zd_4_11_111 ?_
        refine zz_icmp_ge (by omega) (by omega) zd_4_11_112 (fun c17 => ?_) (fun c17 => ?_)
        · refine zz_aload_n (x := zz_rf 6 t) rfl zd_4_11_117 ?_
          refine zz_iload_n (x := v8) rfl zd_4_11_118 ?_
          refine zz_aload_n (x := zz_rf 6 t) rfl zd_4_11_119 ?_
          refine zz_geti (z := S0 (zz_rf 6 t) 5) zd_4_11_120 zf_Layer_29 (zT_k6 (by omega)) rfl (zN_k6 hn (by omega)) rfl ?_
          refine zz_idiv (by omega) (by omega) zd_4_11_123 (fun v18 hv18 av18 bv18 cv18 => ?_)
          have m19 := zz_divb (by omega) (by omega) av18
          skip
          refine zz_iconst zd_4_11_124 ?_
          refine zz_iadd zd_4_11_125 ?_
          refine zz_nrm (fun v20 hv20 ev20 => ?_)
          refine zz_puti zd_4_11_126 zf_Layer_54 (zT_k6 (by omega)) rfl (zN_k6 hn (by omega)) (fun S21 qS21 => ?_)
          have G_S21 := zz_G.put G_S0 qS21 (-2147483648) 2147483647 (zR_k6_10 (by omega)) (by omega)
          have F_S21 := zz_fr.putv F_S0 qS21 (Or.inl ⟨rfl, rfl⟩)
          refine zz_aload_n (x := zz_rf 6 t) rfl zd_4_11_129 ?_
          refine zz_iload (x := v13) rfl zd_4_11_130 ?_
          refine zz_aload_n (x := zz_rf 6 t) rfl zd_4_11_132 ?_
          refine zz_geti (z := S0 (zz_rf 6 t) 5) zd_4_11_133 zf_Layer_29 (zT_k6 (by omega)) rfl (zN_k6 hn (by omega)) (zz_ro qS21 (fun h => absurd h.2 (by decide)) rfl) ?_
          refine zz_idiv (by omega) (by omega) zd_4_11_136 (fun v22 hv22 av22 bv22 cv22 => ?_)
          have m23 := zz_divb (by omega) (by omega) av22
          skip
          refine zz_iconst zd_4_11_137 ?_
          refine zz_iadd zd_4_11_138 ?_
          refine zz_nrm (fun v24 hv24 ev24 => ?_)
          refine zz_puti zd_4_11_139 zf_Layer_57 (zT_k6 (by omega)) rfl (zN_k6 hn (by omega)) (fun S25 qS25 => ?_)
          have G_S25 := zz_G.put G_S21 qS25 (-2147483648) 2147483647 (zR_k6_11 (by omega)) (by omega)
          have F_S25 := zz_fr.putv F_S21 qS25 (Or.inr (Or.inl ⟨rfl, rfl⟩))
          refine zz_aload_n (x := zz_rf 6 t) rfl zd_4_11_142 ?_
          refine zz_geti (z := S0 (zz_rf 6 t) 0) zd_4_11_143 zf_Layer_13 (zT_k6 (by omega)) rfl (zN_k6 hn (by omega)) (zz_ro qS25 (fun h => absurd h.2 (by decide)) (zz_ro qS21 (fun h => absurd h.2 (by decide)) rfl)) ?_
          refine zz_iconst zd_4_11_146 ?_
          refine zz_icmp_ne (by omega) (by omega) zd_4_11_147 (fun c26 => ?_) (fun c26 => ?_)
          · refine zz_aload_n (x := zz_rf 6 t) rfl zd_4_11_161 ?_
            have g27 := zz_G.r G_S0 (zz_rf 6 t) 9 (-2147483648) 2147483647 (zR_k6_9 (by omega)) (zB_k6 (by omega))
            refine zz_geti (z := S0 (zz_rf 6 t) 9) zd_4_11_162 zf_Layer_42 (zT_k6 (by omega)) rfl (zN_k6 hn (by omega)) (zz_ro qS25 (fun h => absurd h.2 (by decide)) (zz_ro qS21 (fun h => absurd h.2 (by decide)) rfl)) ?_
            refine zz_if_lt (by omega) zd_4_11_165 (fun c28 => ?_) (fun c28 => ?_)
            · refine zz_iconst zd_4_11_184 ?_
              have e29 : S25 (zz_rf 6 t) 12 = S0 (zz_rf 6 t) 12 := (zz_ro qS25 (fun h => absurd h.2 (by decide)) (zz_ro qS21 (fun h => absurd h.2 (by decide)) rfl))
              have e30 : S25 (zz_rf 6 t) 10 = v20 := (zz_ro qS25 (fun h => absurd h.2 (by decide)) (zz_rs qS21))
              have e31 : S25 (zz_rf 6 t) 11 = v24 := (zz_rs qS25)
              exact zz_zret zd_4_11_185 rfl (by omega) (Nat.zero_le _) (Nat.zero_le _) ⟨_, _, rfl, G_S25, F_S25, by omega, fun hr => absurd hr (by decide), (fun hf hb hn1 hn2 hK => by obtain ⟨_, ⟨a1, a2⟩, ⟨b1, b2⟩, hs⟩ := hf.resolve_left (fun h => absurd h.1 (by omega)); have s9 : (1 ≤ S0 (zz_rf 6 t) 5 ∧ S0 (zz_rf 6 t) 5 ≤ 3) ∧ 0 ≤ S0 (zz_rf 6 t) 6 ∧ S0 (zz_rf 6 t) 6 ≤ 1 := (by rcases hs with hs | hs; omega; omega); have f9 : 1 ≤ S0 (zz_rf 6 t) 12 ∧ S0 (zz_rf 6 t) 12 ≤ 16 := (by rcases hs with hs | hs; omega; omega); have k9 : S0 (zz_rf 6 t) 0 = 1 := (by omega); clear hf hs hK; have c_v5 := ev5 (by omega); have c_v6 := ev6 (by omega); have c_v8 := ev8 (by omega); have c_v10 := ev10 (by omega); have c_v11 := ev11 (by omega); have c_v13 := ev13 (by omega); have c_v20 := ev20 (by omega); have c_v24 := ev24 (by omega); have eh9 : v18 = (S0 (zz_rf 6 p0) 10 + 2 * S0 (zz_rf 6 t) 6 - S0 (zz_rf 6 t) 3) / S0 (zz_rf 6 t) 5 := (by rw [av18, Int.tdiv_eq_ediv_of_nonneg (by omega), show v8 = S0 (zz_rf 6 p0) 10 + 2 * S0 (zz_rf 6 t) 6 - S0 (zz_rf 6 t) 3 by omega]); have oeh9 : zn_out (S0 (zz_rf 6 t) 0) (S0 (zz_rf 6 t) 3) (S0 (zz_rf 6 t) 5) (S0 (zz_rf 6 t) 6) (S0 (zz_rf 6 p0) 10) = (S0 (zz_rf 6 p0) 10 + 2 * S0 (zz_rf 6 t) 6 - S0 (zz_rf 6 t) 3) / S0 (zz_rf 6 t) 5 + 1 := if_neg (by omega); have ew9 : v22 = (S0 (zz_rf 6 p0) 11 + 2 * S0 (zz_rf 6 t) 6 - S0 (zz_rf 6 t) 4) / S0 (zz_rf 6 t) 5 := (by rw [av22, Int.tdiv_eq_ediv_of_nonneg (by omega), show v13 = S0 (zz_rf 6 p0) 11 + 2 * S0 (zz_rf 6 t) 6 - S0 (zz_rf 6 t) 4 by omega]); have oew9 : zn_out (S0 (zz_rf 6 t) 0) (S0 (zz_rf 6 t) 4) (S0 (zz_rf 6 t) 5) (S0 (zz_rf 6 t) 6) (S0 (zz_rf 6 p0) 11) = (S0 (zz_rf 6 p0) 11 + 2 * S0 (zz_rf 6 t) 6 - S0 (zz_rf 6 t) 4) / S0 (zz_rf 6 t) 5 + 1 := if_neg (by omega); exact Or.inr ⟨rfl, fun hr => by rw [show S0 (zz_rf 6 t) 0 = 1 by omega] at hr; have hr := zn_res1 hr; omega⟩)⟩
            · refine zz_aload_n (x := zz_rf 6 t) rfl zd_4_11_168 ?_
              refine zz_geti (z := S0 (zz_rf 6 t) 9) zd_4_11_169 zf_Layer_42 (zT_k6 (by omega)) rfl (zN_k6 hn (by omega)) (zz_ro qS25 (fun h => absurd h.2 (by decide)) (zz_ro qS21 (fun h => absurd h.2 (by decide)) rfl)) ?_
              refine zz_sipush (by decide) zd_4_11_172 ?_
              refine zz_aload_n (x := zz_rf 6 t) rfl zd_4_11_175 ?_
              refine zz_aload_n (x := zz_rf 6 p0) rfl zd_4_11_176 ?_
              have e32 : S25 (zz_rf 6 p0) 12 = S0 (zz_rf 6 p0) 12 := (zz_ro qS25 (fun h => absurd h.2 (by decide)) (zz_ro qS21 (fun h => absurd h.2 (by decide)) rfl))
              have e33 : S25 (zz_rf 6 t) 12 = S0 (zz_rf 6 t) 12 := (zz_ro qS25 (fun h => absurd h.2 (by decide)) (zz_ro qS21 (fun h => absurd h.2 (by decide)) rfl))
              have e34 : S25 (zz_rf 6 t) 3 = S0 (zz_rf 6 t) 3 := (zz_ro qS25 (fun h => absurd h.2 (by decide)) (zz_ro qS21 (fun h => absurd h.2 (by decide)) rfl))
              have e35 : S25 (zz_rf 6 t) 4 = S0 (zz_rf 6 t) 4 := (zz_ro qS25 (fun h => absurd h.2 (by decide)) (zz_ro qS21 (fun h => absurd h.2 (by decide)) rfl))
              refine zz_callVI [.ref (zz_rf 6 p0)] zd_4_11_177 zk_Layer_69 (zT_k6 (by omega)) (zN_k6 hn (by omega)) rfl rfl ⟨Nat.le_of_ble_eq_true rfl, Nat.le_of_ble_eq_true rfl⟩ ⟨rfl, rfl⟩ (Nat.zero_le _) (Nat.zero_le _) (zc_parametersSize_4_12 t p0 S25 n hn G_S25 (by omega) (by omega)) (fun v37 S36 hP => ?_)
              obtain ⟨rfl, o38, o39⟩ := hP
              refine zz_isub zd_4_11_180 ?_
              refine zz_nrm (fun v40 hv40 ev40 => ?_)
              refine zz_icmp_le (by omega) (by omega) zd_4_11_181 (fun c41 => ?_) (fun c41 => ?_)
              · refine zz_aload_n (x := zz_rf 6 t) rfl zd_4_11_186 ?_
                refine zz_geti (z := v20) zd_4_11_187 zf_Layer_54 (zT_k6 (by omega)) rfl (zN_k6 hn (by omega)) (zz_ro qS25 (fun h => absurd h.2 (by decide)) (zz_rs qS21)) ?_
                refine zz_iconst zd_4_11_190 ?_
                refine zz_bipush (by decide) zd_4_11_191 ?_
                refine zz_callSI [zi v20, zi 1, zi 63] zd_4_11_193 zk_Layer_63 rfl rfl ⟨Nat.le_of_ble_eq_true rfl, Nat.le_of_ble_eq_true rfl⟩ ⟨rfl, rfl⟩ (Nat.zero_le _) (Nat.zero_le _) (zc_isWithin_4_9 v20 1 63 S25 n hn G_S25 (by omega) (by omega) (by omega)) (fun v43 S42 hP => ?_)
                obtain ⟨rfl, o44, o45⟩ := hP
                rcases (by omega : v43 = 0 ∨ v43 = 1) with rfl | rfl
                · try (replace o44 := o44.resolve_left (fun h => absurd h.1 (by decide)))
                  try (replace o45 := o45.resolve_left (fun h => absurd h.1 (by decide)))
                  refine zz_if_eq (by omega) zd_4_11_196 (fun c46 => ?_) (fun c46 => ?_)
                  · refine zz_iconst zd_4_11_216 ?_
                    have e47 : S25 (zz_rf 6 t) 10 = v20 := (zz_ro qS25 (fun h => absurd h.2 (by decide)) (zz_rs qS21))
                    have e48 : S25 (zz_rf 6 t) 11 = v24 := (zz_rs qS25)
                    exact zz_zret zd_4_11_217 rfl (by omega) (Nat.zero_le _) (Nat.zero_le _) ⟨_, _, rfl, G_S25, F_S25, by omega, fun hr => absurd hr (by decide), (fun hf hb hn1 hn2 hK => by obtain ⟨_, ⟨a1, a2⟩, ⟨b1, b2⟩, hs⟩ := hf.resolve_left (fun h => absurd h.1 (by omega)); have s9 : (1 ≤ S0 (zz_rf 6 t) 5 ∧ S0 (zz_rf 6 t) 5 ≤ 3) ∧ 0 ≤ S0 (zz_rf 6 t) 6 ∧ S0 (zz_rf 6 t) 6 ≤ 1 := (by rcases hs with hs | hs; omega; omega); have f9 : 1 ≤ S0 (zz_rf 6 t) 12 ∧ S0 (zz_rf 6 t) 12 ≤ 16 := (by rcases hs with hs | hs; omega; omega); have k9 : S0 (zz_rf 6 t) 0 = 1 := (by omega); clear hf hs hK; have hp9 := o39; rw [show S25 (zz_rf 6 t) 3 = S0 (zz_rf 6 t) 3 by omega, show S25 (zz_rf 6 t) 4 = S0 (zz_rf 6 t) 4 by omega, show S25 (zz_rf 6 t) 12 = S0 (zz_rf 6 t) 12 by omega, show S25 (zz_rf 6 p0) 12 = S0 (zz_rf 6 p0) 12 by omega] at hp9; have hp9 := hp9 ⟨⟨a1, a2⟩, ⟨b1, b2⟩, f9, by omega⟩; have c_v5 := ev5 (by omega); have c_v6 := ev6 (by omega); have c_v8 := ev8 (by omega); have c_v10 := ev10 (by omega); have c_v11 := ev11 (by omega); have c_v13 := ev13 (by omega); have c_v20 := ev20 (by omega); have c_v24 := ev24 (by omega); have c_v40 := ev40 (by omega); have eh9 : v18 = (S0 (zz_rf 6 p0) 10 + 2 * S0 (zz_rf 6 t) 6 - S0 (zz_rf 6 t) 3) / S0 (zz_rf 6 t) 5 := (by rw [av18, Int.tdiv_eq_ediv_of_nonneg (by omega), show v8 = S0 (zz_rf 6 p0) 10 + 2 * S0 (zz_rf 6 t) 6 - S0 (zz_rf 6 t) 3 by omega]); have oeh9 : zn_out (S0 (zz_rf 6 t) 0) (S0 (zz_rf 6 t) 3) (S0 (zz_rf 6 t) 5) (S0 (zz_rf 6 t) 6) (S0 (zz_rf 6 p0) 10) = (S0 (zz_rf 6 p0) 10 + 2 * S0 (zz_rf 6 t) 6 - S0 (zz_rf 6 t) 3) / S0 (zz_rf 6 t) 5 + 1 := if_neg (by omega); have ew9 : v22 = (S0 (zz_rf 6 p0) 11 + 2 * S0 (zz_rf 6 t) 6 - S0 (zz_rf 6 t) 4) / S0 (zz_rf 6 t) 5 := (by rw [av22, Int.tdiv_eq_ediv_of_nonneg (by omega), show v13 = S0 (zz_rf 6 p0) 11 + 2 * S0 (zz_rf 6 t) 6 - S0 (zz_rf 6 t) 4 by omega]); have oew9 : zn_out (S0 (zz_rf 6 t) 0) (S0 (zz_rf 6 t) 4) (S0 (zz_rf 6 t) 5) (S0 (zz_rf 6 t) 6) (S0 (zz_rf 6 p0) 11) = (S0 (zz_rf 6 p0) 11 + 2 * S0 (zz_rf 6 t) 6 - S0 (zz_rf 6 t) 4) / S0 (zz_rf 6 t) 5 + 1 := if_neg (by omega); exact Or.inr ⟨rfl, fun hr => by rw [show S0 (zz_rf 6 t) 0 = 1 by omega] at hr; have hr := zn_res1 hr; omega⟩)⟩
                  · exfalso; omega
                · try (replace o44 := o44.resolve_right (fun h => absurd h.1 (by decide)))
                  try (replace o45 := o45.resolve_right (fun h => absurd h.1 (by decide)))
                  refine zz_if_eq (by omega) zd_4_11_196 (fun c49 => ?_) (fun c49 => ?_)
                  · exfalso; omega
                  · refine zz_aload_n (x := zz_rf 6 t) rfl zd_4_11_199 ?_
                    refine zz_geti (z := v24) zd_4_11_200 zf_Layer_57 (zT_k6 (by omega)) rfl (zN_k6 hn (by omega)) (zz_rs qS25) ?_
                    refine zz_iconst zd_4_11_203 ?_
                    refine zz_bipush (by decide) zd_4_11_204 ?_
                    refine zz_callSI [zi v24, zi 1, zi 63] zd_4_11_206 zk_Layer_63 rfl rfl ⟨Nat.le_of_ble_eq_true rfl, Nat.le_of_ble_eq_true rfl⟩ ⟨rfl, rfl⟩ (Nat.zero_le _) (Nat.zero_le _) (zc_isWithin_4_9 v24 1 63 S25 n hn G_S25 (by omega) (by omega) (by omega)) (fun v51 S50 hP => ?_)
                    obtain ⟨rfl, o52, o53⟩ := hP
                    rcases (by omega : v51 = 0 ∨ v51 = 1) with rfl | rfl
                    · try (replace o52 := o52.resolve_left (fun h => absurd h.1 (by decide)))
                      try (replace o53 := o53.resolve_left (fun h => absurd h.1 (by decide)))
                      refine zz_if_eq (by omega) zd_4_11_209 (fun c54 => ?_) (fun c54 => ?_)
                      · refine zz_iconst zd_4_11_216 ?_
                        have e55 : S25 (zz_rf 6 t) 10 = v20 := (zz_ro qS25 (fun h => absurd h.2 (by decide)) (zz_rs qS21))
                        have e56 : S25 (zz_rf 6 t) 11 = v24 := (zz_rs qS25)
                        exact zz_zret zd_4_11_217 rfl (by omega) (Nat.zero_le _) (Nat.zero_le _) ⟨_, _, rfl, G_S25, F_S25, by omega, fun hr => absurd hr (by decide), (fun hf hb hn1 hn2 hK => by obtain ⟨_, ⟨a1, a2⟩, ⟨b1, b2⟩, hs⟩ := hf.resolve_left (fun h => absurd h.1 (by omega)); have s9 : (1 ≤ S0 (zz_rf 6 t) 5 ∧ S0 (zz_rf 6 t) 5 ≤ 3) ∧ 0 ≤ S0 (zz_rf 6 t) 6 ∧ S0 (zz_rf 6 t) 6 ≤ 1 := (by rcases hs with hs | hs; omega; omega); have f9 : 1 ≤ S0 (zz_rf 6 t) 12 ∧ S0 (zz_rf 6 t) 12 ≤ 16 := (by rcases hs with hs | hs; omega; omega); have k9 : S0 (zz_rf 6 t) 0 = 1 := (by omega); clear hf hs hK; have hp9 := o39; rw [show S25 (zz_rf 6 t) 3 = S0 (zz_rf 6 t) 3 by omega, show S25 (zz_rf 6 t) 4 = S0 (zz_rf 6 t) 4 by omega, show S25 (zz_rf 6 t) 12 = S0 (zz_rf 6 t) 12 by omega, show S25 (zz_rf 6 p0) 12 = S0 (zz_rf 6 p0) 12 by omega] at hp9; have hp9 := hp9 ⟨⟨a1, a2⟩, ⟨b1, b2⟩, f9, by omega⟩; have c_v5 := ev5 (by omega); have c_v6 := ev6 (by omega); have c_v8 := ev8 (by omega); have c_v10 := ev10 (by omega); have c_v11 := ev11 (by omega); have c_v13 := ev13 (by omega); have c_v20 := ev20 (by omega); have c_v24 := ev24 (by omega); have c_v40 := ev40 (by omega); have eh9 : v18 = (S0 (zz_rf 6 p0) 10 + 2 * S0 (zz_rf 6 t) 6 - S0 (zz_rf 6 t) 3) / S0 (zz_rf 6 t) 5 := (by rw [av18, Int.tdiv_eq_ediv_of_nonneg (by omega), show v8 = S0 (zz_rf 6 p0) 10 + 2 * S0 (zz_rf 6 t) 6 - S0 (zz_rf 6 t) 3 by omega]); have oeh9 : zn_out (S0 (zz_rf 6 t) 0) (S0 (zz_rf 6 t) 3) (S0 (zz_rf 6 t) 5) (S0 (zz_rf 6 t) 6) (S0 (zz_rf 6 p0) 10) = (S0 (zz_rf 6 p0) 10 + 2 * S0 (zz_rf 6 t) 6 - S0 (zz_rf 6 t) 3) / S0 (zz_rf 6 t) 5 + 1 := if_neg (by omega); have ew9 : v22 = (S0 (zz_rf 6 p0) 11 + 2 * S0 (zz_rf 6 t) 6 - S0 (zz_rf 6 t) 4) / S0 (zz_rf 6 t) 5 := (by rw [av22, Int.tdiv_eq_ediv_of_nonneg (by omega), show v13 = S0 (zz_rf 6 p0) 11 + 2 * S0 (zz_rf 6 t) 6 - S0 (zz_rf 6 t) 4 by omega]); have oew9 : zn_out (S0 (zz_rf 6 t) 0) (S0 (zz_rf 6 t) 4) (S0 (zz_rf 6 t) 5) (S0 (zz_rf 6 t) 6) (S0 (zz_rf 6 p0) 11) = (S0 (zz_rf 6 p0) 11 + 2 * S0 (zz_rf 6 t) 6 - S0 (zz_rf 6 t) 4) / S0 (zz_rf 6 t) 5 + 1 := if_neg (by omega); exact Or.inr ⟨rfl, fun hr => by rw [show S0 (zz_rf 6 t) 0 = 1 by omega] at hr; have hr := zn_res1 hr; omega⟩)⟩
                      · exfalso; omega
                    · try (replace o52 := o52.resolve_right (fun h => absurd h.1 (by decide)))
                      try (replace o53 := o53.resolve_right (fun h => absurd h.1 (by decide)))
                      refine zz_if_eq (by omega) zd_4_11_209 (fun c57 => ?_) (fun c57 => ?_)
                      · exfalso; omega
                      · refine zz_iconst zd_4_11_212 ?_
                        refine zz_goto zd_4_11_213 ?_
                        have e58 : S25 (zz_rf 6 t) 10 = v20 := (zz_ro qS25 (fun h => absurd h.2 (by decide)) (zz_rs qS21))
                        have e59 : S25 (zz_rf 6 t) 11 = v24 := (zz_rs qS25)
                        exact zz_zret zd_4_11_217 rfl (by omega) (Nat.zero_le _) (Nat.zero_le _) ⟨_, _, rfl, G_S25, F_S25, by omega, fun _ => Or.inr ⟨by omega, by omega, by omega⟩, (fun hf hb hn1 hn2 hK => by obtain ⟨_, ⟨a1, a2⟩, ⟨b1, b2⟩, hs⟩ := hf.resolve_left (fun h => absurd h.1 (by omega)); have s9 : (1 ≤ S0 (zz_rf 6 t) 5 ∧ S0 (zz_rf 6 t) 5 ≤ 3) ∧ 0 ≤ S0 (zz_rf 6 t) 6 ∧ S0 (zz_rf 6 t) 6 ≤ 1 := (by rcases hs with hs | hs; omega; omega); have f9 : 1 ≤ S0 (zz_rf 6 t) 12 ∧ S0 (zz_rf 6 t) 12 ≤ 16 := (by rcases hs with hs | hs; omega; omega); have k9 : S0 (zz_rf 6 t) 0 = 1 := (by omega); clear hf hs hK; have hp9 := o39; rw [show S25 (zz_rf 6 t) 3 = S0 (zz_rf 6 t) 3 by omega, show S25 (zz_rf 6 t) 4 = S0 (zz_rf 6 t) 4 by omega, show S25 (zz_rf 6 t) 12 = S0 (zz_rf 6 t) 12 by omega, show S25 (zz_rf 6 p0) 12 = S0 (zz_rf 6 p0) 12 by omega] at hp9; have hp9 := hp9 ⟨⟨a1, a2⟩, ⟨b1, b2⟩, f9, by omega⟩; have c_v5 := ev5 (by omega); have c_v6 := ev6 (by omega); have c_v8 := ev8 (by omega); have c_v10 := ev10 (by omega); have c_v11 := ev11 (by omega); have c_v13 := ev13 (by omega); have c_v20 := ev20 (by omega); have c_v24 := ev24 (by omega); have c_v40 := ev40 (by omega); have eh9 : v18 = (S0 (zz_rf 6 p0) 10 + 2 * S0 (zz_rf 6 t) 6 - S0 (zz_rf 6 t) 3) / S0 (zz_rf 6 t) 5 := (by rw [av18, Int.tdiv_eq_ediv_of_nonneg (by omega), show v8 = S0 (zz_rf 6 p0) 10 + 2 * S0 (zz_rf 6 t) 6 - S0 (zz_rf 6 t) 3 by omega]); have oeh9 : zn_out (S0 (zz_rf 6 t) 0) (S0 (zz_rf 6 t) 3) (S0 (zz_rf 6 t) 5) (S0 (zz_rf 6 t) 6) (S0 (zz_rf 6 p0) 10) = (S0 (zz_rf 6 p0) 10 + 2 * S0 (zz_rf 6 t) 6 - S0 (zz_rf 6 t) 3) / S0 (zz_rf 6 t) 5 + 1 := if_neg (by omega); have ew9 : v22 = (S0 (zz_rf 6 p0) 11 + 2 * S0 (zz_rf 6 t) 6 - S0 (zz_rf 6 t) 4) / S0 (zz_rf 6 t) 5 := (by rw [av22, Int.tdiv_eq_ediv_of_nonneg (by omega), show v13 = S0 (zz_rf 6 p0) 11 + 2 * S0 (zz_rf 6 t) 6 - S0 (zz_rf 6 t) 4 by omega]); have oew9 : zn_out (S0 (zz_rf 6 t) 0) (S0 (zz_rf 6 t) 4) (S0 (zz_rf 6 t) 5) (S0 (zz_rf 6 t) 6) (S0 (zz_rf 6 p0) 11) = (S0 (zz_rf 6 p0) 11 + 2 * S0 (zz_rf 6 t) 6 - S0 (zz_rf 6 t) 4) / S0 (zz_rf 6 t) 5 + 1 := if_neg (by omega); exact Or.inl ⟨rfl, Or.inr ⟨by omega, by omega, by omega, Or.inr ⟨by omega, by omega, by omega⟩, by omega, by omega⟩, by omega, by omega, (by unfold zn_ch; rw [if_pos (by omega)]; omega)⟩)⟩
              · refine zz_iconst zd_4_11_184 ?_
                have e60 : S25 (zz_rf 6 t) 10 = v20 := (zz_ro qS25 (fun h => absurd h.2 (by decide)) (zz_rs qS21))
                have e61 : S25 (zz_rf 6 t) 11 = v24 := (zz_rs qS25)
                exact zz_zret zd_4_11_185 rfl (by omega) (Nat.zero_le _) (Nat.zero_le _) ⟨_, _, rfl, G_S25, F_S25, by omega, fun hr => absurd hr (by decide), (fun hf hb hn1 hn2 hK => by obtain ⟨_, ⟨a1, a2⟩, ⟨b1, b2⟩, hs⟩ := hf.resolve_left (fun h => absurd h.1 (by omega)); have s9 : (1 ≤ S0 (zz_rf 6 t) 5 ∧ S0 (zz_rf 6 t) 5 ≤ 3) ∧ 0 ≤ S0 (zz_rf 6 t) 6 ∧ S0 (zz_rf 6 t) 6 ≤ 1 := (by rcases hs with hs | hs; omega; omega); have f9 : 1 ≤ S0 (zz_rf 6 t) 12 ∧ S0 (zz_rf 6 t) 12 ≤ 16 := (by rcases hs with hs | hs; omega; omega); have k9 : S0 (zz_rf 6 t) 0 = 1 := (by omega); clear hf hs hK; have hp9 := o39; rw [show S25 (zz_rf 6 t) 3 = S0 (zz_rf 6 t) 3 by omega, show S25 (zz_rf 6 t) 4 = S0 (zz_rf 6 t) 4 by omega, show S25 (zz_rf 6 t) 12 = S0 (zz_rf 6 t) 12 by omega, show S25 (zz_rf 6 p0) 12 = S0 (zz_rf 6 p0) 12 by omega] at hp9; have hp9 := hp9 ⟨⟨a1, a2⟩, ⟨b1, b2⟩, f9, by omega⟩; have c_v5 := ev5 (by omega); have c_v6 := ev6 (by omega); have c_v8 := ev8 (by omega); have c_v10 := ev10 (by omega); have c_v11 := ev11 (by omega); have c_v13 := ev13 (by omega); have c_v20 := ev20 (by omega); have c_v24 := ev24 (by omega); have c_v40 := ev40 (by omega); have eh9 : v18 = (S0 (zz_rf 6 p0) 10 + 2 * S0 (zz_rf 6 t) 6 - S0 (zz_rf 6 t) 3) / S0 (zz_rf 6 t) 5 := (by rw [av18, Int.tdiv_eq_ediv_of_nonneg (by omega), show v8 = S0 (zz_rf 6 p0) 10 + 2 * S0 (zz_rf 6 t) 6 - S0 (zz_rf 6 t) 3 by omega]); have oeh9 : zn_out (S0 (zz_rf 6 t) 0) (S0 (zz_rf 6 t) 3) (S0 (zz_rf 6 t) 5) (S0 (zz_rf 6 t) 6) (S0 (zz_rf 6 p0) 10) = (S0 (zz_rf 6 p0) 10 + 2 * S0 (zz_rf 6 t) 6 - S0 (zz_rf 6 t) 3) / S0 (zz_rf 6 t) 5 + 1 := if_neg (by omega); have ew9 : v22 = (S0 (zz_rf 6 p0) 11 + 2 * S0 (zz_rf 6 t) 6 - S0 (zz_rf 6 t) 4) / S0 (zz_rf 6 t) 5 := (by rw [av22, Int.tdiv_eq_ediv_of_nonneg (by omega), show v13 = S0 (zz_rf 6 p0) 11 + 2 * S0 (zz_rf 6 t) 6 - S0 (zz_rf 6 t) 4 by omega]); have oew9 : zn_out (S0 (zz_rf 6 t) 0) (S0 (zz_rf 6 t) 4) (S0 (zz_rf 6 t) 5) (S0 (zz_rf 6 t) 6) (S0 (zz_rf 6 p0) 11) = (S0 (zz_rf 6 p0) 11 + 2 * S0 (zz_rf 6 t) 6 - S0 (zz_rf 6 t) 4) / S0 (zz_rf 6 t) 5 + 1 := if_neg (by omega); exact Or.inr ⟨rfl, fun hr => by rw [show S0 (zz_rf 6 t) 0 = 1 by omega] at hr; have hr := zn_res1 hr; omega⟩)⟩
          · refine zz_aload_n (x := zz_rf 6 t) rfl zd_4_11_150 ?_
            refine zz_aload_n (x := zz_rf 6 p0) rfl zd_4_11_151 ?_
            have g62 := zz_G.r G_S0 (zz_rf 6 p0) 12 (-2147483648) 2147483647 (zR_k6_12 (by omega)) (zB_k6 (by omega))
            refine zz_geti (z := S0 (zz_rf 6 p0) 12) zd_4_11_152 zf_Layer_60 (zT_k6 (by omega)) rfl (zN_k6 hn (by omega)) (zz_ro qS25 (fun h => absurd h.2 (by decide)) (zz_ro qS21 (fun h => absurd h.2 (by decide)) rfl)) ?_
            refine zz_puti zd_4_11_155 zf_Layer_60 (zT_k6 (by omega)) rfl (zN_k6 hn (by omega)) (fun S63 qS63 => ?_)
            have G_S63 := zz_G.put G_S25 qS63 (-2147483648) 2147483647 (zR_k6_12 (by omega)) (by omega)
            have F_S63 := zz_fr.putv F_S25 qS63 (Or.inr (Or.inr (⟨rfl, rfl⟩)))
            refine zz_goto zd_4_11_158 ?_
            refine zz_aload_n (x := zz_rf 6 t) rfl zd_4_11_186 ?_
            refine zz_geti (z := v20) zd_4_11_187 zf_Layer_54 (zT_k6 (by omega)) rfl (zN_k6 hn (by omega)) (zz_ro qS63 (fun h => absurd h.2 (by decide)) (zz_ro qS25 (fun h => absurd h.2 (by decide)) (zz_rs qS21))) ?_
            refine zz_iconst zd_4_11_190 ?_
            refine zz_bipush (by decide) zd_4_11_191 ?_
            refine zz_callSI [zi v20, zi 1, zi 63] zd_4_11_193 zk_Layer_63 rfl rfl ⟨Nat.le_of_ble_eq_true rfl, Nat.le_of_ble_eq_true rfl⟩ ⟨rfl, rfl⟩ (Nat.zero_le _) (Nat.zero_le _) (zc_isWithin_4_9 v20 1 63 S63 n hn G_S63 (by omega) (by omega) (by omega)) (fun v65 S64 hP => ?_)
            obtain ⟨rfl, o66, o67⟩ := hP
            rcases (by omega : v65 = 0 ∨ v65 = 1) with rfl | rfl
            · try (replace o66 := o66.resolve_left (fun h => absurd h.1 (by decide)))
              try (replace o67 := o67.resolve_left (fun h => absurd h.1 (by decide)))
              refine zz_if_eq (by omega) zd_4_11_196 (fun c68 => ?_) (fun c68 => ?_)
              · refine zz_iconst zd_4_11_216 ?_
                have e69 : S63 (zz_rf 6 t) 12 = S0 (zz_rf 6 p0) 12 := (zz_rs qS63)
                have e70 : S63 (zz_rf 6 t) 10 = v20 := (zz_ro qS63 (fun h => absurd h.2 (by decide)) (zz_ro qS25 (fun h => absurd h.2 (by decide)) (zz_rs qS21)))
                have e71 : S63 (zz_rf 6 t) 11 = v24 := (zz_ro qS63 (fun h => absurd h.2 (by decide)) (zz_rs qS25))
                exact zz_zret zd_4_11_217 rfl (by omega) (Nat.zero_le _) (Nat.zero_le _) ⟨_, _, rfl, G_S63, F_S63, by omega, fun hr => absurd hr (by decide), (fun hf hb hn1 hn2 hK => by obtain ⟨_, ⟨a1, a2⟩, ⟨b1, b2⟩, hs⟩ := hf.resolve_left (fun h => absurd h.1 (by omega)); have s9 : (1 ≤ S0 (zz_rf 6 t) 5 ∧ S0 (zz_rf 6 t) 5 ≤ 3) ∧ 0 ≤ S0 (zz_rf 6 t) 6 ∧ S0 (zz_rf 6 t) 6 ≤ 1 := (by rcases hs with hs | hs; omega; omega); clear hf hs hK; have c_v5 := ev5 (by omega); have c_v6 := ev6 (by omega); have c_v8 := ev8 (by omega); have c_v10 := ev10 (by omega); have c_v11 := ev11 (by omega); have c_v13 := ev13 (by omega); have c_v20 := ev20 (by omega); have c_v24 := ev24 (by omega); have eh9 : v18 = (S0 (zz_rf 6 p0) 10 + 2 * S0 (zz_rf 6 t) 6 - S0 (zz_rf 6 t) 3) / S0 (zz_rf 6 t) 5 := (by rw [av18, Int.tdiv_eq_ediv_of_nonneg (by omega), show v8 = S0 (zz_rf 6 p0) 10 + 2 * S0 (zz_rf 6 t) 6 - S0 (zz_rf 6 t) 3 by omega]); have oeh9 : zn_out (S0 (zz_rf 6 t) 0) (S0 (zz_rf 6 t) 3) (S0 (zz_rf 6 t) 5) (S0 (zz_rf 6 t) 6) (S0 (zz_rf 6 p0) 10) = (S0 (zz_rf 6 p0) 10 + 2 * S0 (zz_rf 6 t) 6 - S0 (zz_rf 6 t) 3) / S0 (zz_rf 6 t) 5 + 1 := if_neg (by omega); have ew9 : v22 = (S0 (zz_rf 6 p0) 11 + 2 * S0 (zz_rf 6 t) 6 - S0 (zz_rf 6 t) 4) / S0 (zz_rf 6 t) 5 := (by rw [av22, Int.tdiv_eq_ediv_of_nonneg (by omega), show v13 = S0 (zz_rf 6 p0) 11 + 2 * S0 (zz_rf 6 t) 6 - S0 (zz_rf 6 t) 4 by omega]); have oew9 : zn_out (S0 (zz_rf 6 t) 0) (S0 (zz_rf 6 t) 4) (S0 (zz_rf 6 t) 5) (S0 (zz_rf 6 t) 6) (S0 (zz_rf 6 p0) 11) = (S0 (zz_rf 6 p0) 11 + 2 * S0 (zz_rf 6 t) 6 - S0 (zz_rf 6 t) 4) / S0 (zz_rf 6 t) 5 + 1 := if_neg (by omega); exact Or.inr ⟨rfl, fun hr => by rw [show S0 (zz_rf 6 t) 0 = 2 by omega] at hr; have hr := zn_res2 hr; omega⟩)⟩
              · exfalso; omega
            · try (replace o66 := o66.resolve_right (fun h => absurd h.1 (by decide)))
              try (replace o67 := o67.resolve_right (fun h => absurd h.1 (by decide)))
              refine zz_if_eq (by omega) zd_4_11_196 (fun c72 => ?_) (fun c72 => ?_)
              · exfalso; omega
              · refine zz_aload_n (x := zz_rf 6 t) rfl zd_4_11_199 ?_
                refine zz_geti (z := v24) zd_4_11_200 zf_Layer_57 (zT_k6 (by omega)) rfl (zN_k6 hn (by omega)) (zz_ro qS63 (fun h => absurd h.2 (by decide)) (zz_rs qS25)) ?_
                refine zz_iconst zd_4_11_203 ?_
                refine zz_bipush (by decide) zd_4_11_204 ?_
                refine zz_callSI [zi v24, zi 1, zi 63] zd_4_11_206 zk_Layer_63 rfl rfl ⟨Nat.le_of_ble_eq_true rfl, Nat.le_of_ble_eq_true rfl⟩ ⟨rfl, rfl⟩ (Nat.zero_le _) (Nat.zero_le _) (zc_isWithin_4_9 v24 1 63 S63 n hn G_S63 (by omega) (by omega) (by omega)) (fun v74 S73 hP => ?_)
                obtain ⟨rfl, o75, o76⟩ := hP
                rcases (by omega : v74 = 0 ∨ v74 = 1) with rfl | rfl
                · try (replace o75 := o75.resolve_left (fun h => absurd h.1 (by decide)))
                  try (replace o76 := o76.resolve_left (fun h => absurd h.1 (by decide)))
                  refine zz_if_eq (by omega) zd_4_11_209 (fun c77 => ?_) (fun c77 => ?_)
                  · refine zz_iconst zd_4_11_216 ?_
                    have e78 : S63 (zz_rf 6 t) 12 = S0 (zz_rf 6 p0) 12 := (zz_rs qS63)
                    have e79 : S63 (zz_rf 6 t) 10 = v20 := (zz_ro qS63 (fun h => absurd h.2 (by decide)) (zz_ro qS25 (fun h => absurd h.2 (by decide)) (zz_rs qS21)))
                    have e80 : S63 (zz_rf 6 t) 11 = v24 := (zz_ro qS63 (fun h => absurd h.2 (by decide)) (zz_rs qS25))
                    exact zz_zret zd_4_11_217 rfl (by omega) (Nat.zero_le _) (Nat.zero_le _) ⟨_, _, rfl, G_S63, F_S63, by omega, fun hr => absurd hr (by decide), (fun hf hb hn1 hn2 hK => by obtain ⟨_, ⟨a1, a2⟩, ⟨b1, b2⟩, hs⟩ := hf.resolve_left (fun h => absurd h.1 (by omega)); have s9 : (1 ≤ S0 (zz_rf 6 t) 5 ∧ S0 (zz_rf 6 t) 5 ≤ 3) ∧ 0 ≤ S0 (zz_rf 6 t) 6 ∧ S0 (zz_rf 6 t) 6 ≤ 1 := (by rcases hs with hs | hs; omega; omega); clear hf hs hK; have c_v5 := ev5 (by omega); have c_v6 := ev6 (by omega); have c_v8 := ev8 (by omega); have c_v10 := ev10 (by omega); have c_v11 := ev11 (by omega); have c_v13 := ev13 (by omega); have c_v20 := ev20 (by omega); have c_v24 := ev24 (by omega); have eh9 : v18 = (S0 (zz_rf 6 p0) 10 + 2 * S0 (zz_rf 6 t) 6 - S0 (zz_rf 6 t) 3) / S0 (zz_rf 6 t) 5 := (by rw [av18, Int.tdiv_eq_ediv_of_nonneg (by omega), show v8 = S0 (zz_rf 6 p0) 10 + 2 * S0 (zz_rf 6 t) 6 - S0 (zz_rf 6 t) 3 by omega]); have oeh9 : zn_out (S0 (zz_rf 6 t) 0) (S0 (zz_rf 6 t) 3) (S0 (zz_rf 6 t) 5) (S0 (zz_rf 6 t) 6) (S0 (zz_rf 6 p0) 10) = (S0 (zz_rf 6 p0) 10 + 2 * S0 (zz_rf 6 t) 6 - S0 (zz_rf 6 t) 3) / S0 (zz_rf 6 t) 5 + 1 := if_neg (by omega); have ew9 : v22 = (S0 (zz_rf 6 p0) 11 + 2 * S0 (zz_rf 6 t) 6 - S0 (zz_rf 6 t) 4) / S0 (zz_rf 6 t) 5 := (by rw [av22, Int.tdiv_eq_ediv_of_nonneg (by omega), show v13 = S0 (zz_rf 6 p0) 11 + 2 * S0 (zz_rf 6 t) 6 - S0 (zz_rf 6 t) 4 by omega]); have oew9 : zn_out (S0 (zz_rf 6 t) 0) (S0 (zz_rf 6 t) 4) (S0 (zz_rf 6 t) 5) (S0 (zz_rf 6 t) 6) (S0 (zz_rf 6 p0) 11) = (S0 (zz_rf 6 p0) 11 + 2 * S0 (zz_rf 6 t) 6 - S0 (zz_rf 6 t) 4) / S0 (zz_rf 6 t) 5 + 1 := if_neg (by omega); exact Or.inr ⟨rfl, fun hr => by rw [show S0 (zz_rf 6 t) 0 = 2 by omega] at hr; have hr := zn_res2 hr; omega⟩)⟩
                  · exfalso; omega
                · try (replace o75 := o75.resolve_right (fun h => absurd h.1 (by decide)))
                  try (replace o76 := o76.resolve_right (fun h => absurd h.1 (by decide)))
                  refine zz_if_eq (by omega) zd_4_11_209 (fun c81 => ?_) (fun c81 => ?_)
                  · exfalso; omega
                  · refine zz_iconst zd_4_11_212 ?_
                    refine zz_goto zd_4_11_213 ?_
                    have e82 : S63 (zz_rf 6 t) 12 = S0 (zz_rf 6 p0) 12 := (zz_rs qS63)
                    have e83 : S63 (zz_rf 6 t) 10 = v20 := (zz_ro qS63 (fun h => absurd h.2 (by decide)) (zz_ro qS25 (fun h => absurd h.2 (by decide)) (zz_rs qS21)))
                    have e84 : S63 (zz_rf 6 t) 11 = v24 := (zz_ro qS63 (fun h => absurd h.2 (by decide)) (zz_rs qS25))
                    exact zz_zret zd_4_11_217 rfl (by omega) (Nat.zero_le _) (Nat.zero_le _) ⟨_, _, rfl, G_S63, F_S63, by omega, fun _ => Or.inl ⟨Or.inr (by omega), by omega⟩, (fun hf hb hn1 hn2 hK => by obtain ⟨_, ⟨a1, a2⟩, ⟨b1, b2⟩, hs⟩ := hf.resolve_left (fun h => absurd h.1 (by omega)); have s9 : (1 ≤ S0 (zz_rf 6 t) 5 ∧ S0 (zz_rf 6 t) 5 ≤ 3) ∧ 0 ≤ S0 (zz_rf 6 t) 6 ∧ S0 (zz_rf 6 t) 6 ≤ 1 := (by rcases hs with hs | hs; omega; omega); clear hf hs hK; have c_v5 := ev5 (by omega); have c_v6 := ev6 (by omega); have c_v8 := ev8 (by omega); have c_v10 := ev10 (by omega); have c_v11 := ev11 (by omega); have c_v13 := ev13 (by omega); have c_v20 := ev20 (by omega); have c_v24 := ev24 (by omega); have eh9 : v18 = (S0 (zz_rf 6 p0) 10 + 2 * S0 (zz_rf 6 t) 6 - S0 (zz_rf 6 t) 3) / S0 (zz_rf 6 t) 5 := (by rw [av18, Int.tdiv_eq_ediv_of_nonneg (by omega), show v8 = S0 (zz_rf 6 p0) 10 + 2 * S0 (zz_rf 6 t) 6 - S0 (zz_rf 6 t) 3 by omega]); have oeh9 : zn_out (S0 (zz_rf 6 t) 0) (S0 (zz_rf 6 t) 3) (S0 (zz_rf 6 t) 5) (S0 (zz_rf 6 t) 6) (S0 (zz_rf 6 p0) 10) = (S0 (zz_rf 6 p0) 10 + 2 * S0 (zz_rf 6 t) 6 - S0 (zz_rf 6 t) 3) / S0 (zz_rf 6 t) 5 + 1 := if_neg (by omega); have ew9 : v22 = (S0 (zz_rf 6 p0) 11 + 2 * S0 (zz_rf 6 t) 6 - S0 (zz_rf 6 t) 4) / S0 (zz_rf 6 t) 5 := (by rw [av22, Int.tdiv_eq_ediv_of_nonneg (by omega), show v13 = S0 (zz_rf 6 p0) 11 + 2 * S0 (zz_rf 6 t) 6 - S0 (zz_rf 6 t) 4 by omega]); have oew9 : zn_out (S0 (zz_rf 6 t) 0) (S0 (zz_rf 6 t) 4) (S0 (zz_rf 6 t) 5) (S0 (zz_rf 6 t) 6) (S0 (zz_rf 6 p0) 11) = (S0 (zz_rf 6 p0) 11 + 2 * S0 (zz_rf 6 t) 6 - S0 (zz_rf 6 t) 4) / S0 (zz_rf 6 t) 5 + 1 := if_neg (by omega); exact Or.inl ⟨rfl, Or.inr ⟨by omega, by omega, by omega, Or.inl (by omega), by omega, by omega⟩, by omega, by omega, (by unfold zn_ch; rw [if_neg (by omega)]; omega)⟩)⟩
        · refine zz_iconst zd_4_11_115 ?_
          exact zz_zret zd_4_11_116 rfl (by omega) (Nat.zero_le _) (Nat.zero_le _) ⟨_, _, rfl, G_S0, F_S0, by omega, fun hr => absurd hr (by decide), (fun hf hb hn1 hn2 hK => by obtain ⟨_, ⟨a1, a2⟩, ⟨b1, b2⟩, hs⟩ := hf.resolve_left (fun h => absurd h.1 (by omega)); have s9 : (1 ≤ S0 (zz_rf 6 t) 5 ∧ S0 (zz_rf 6 t) 5 ≤ 3) ∧ 0 ≤ S0 (zz_rf 6 t) 6 ∧ S0 (zz_rf 6 t) 6 ≤ 1 := (by rcases hs with hs | hs; omega; omega); clear hf hs hK; have c_v5 := ev5 (by omega); have c_v6 := ev6 (by omega); have c_v8 := ev8 (by omega); have c_v10 := ev10 (by omega); have c_v11 := ev11 (by omega); have c_v13 := ev13 (by omega); exact Or.inr ⟨rfl, fun hr => by have hr := zn_resn (by omega) hr; omega⟩)⟩
  · refine zz_aload_n (x := zz_rf 6 t) rfl zd_4_11_8 ?_
    refine zz_aload_n (x := zz_rf 6 p0) rfl zd_4_11_9 ?_
    have g85 := zz_G.r G_S0 (zz_rf 6 p0) 10 (-2147483648) 2147483647 (zR_k6_10 (by omega)) (zB_k6 (by omega))
    refine zz_geti (z := S0 (zz_rf 6 p0) 10) zd_4_11_10 zf_Layer_54 (zT_k6 (by omega)) rfl (zN_k6 hn (by omega)) rfl ?_
    refine zz_aload_n (x := zz_rf 6 p0) rfl zd_4_11_13 ?_
    have g86 := zz_G.r G_S0 (zz_rf 6 p0) 11 (-2147483648) 2147483647 (zR_k6_11 (by omega)) (zB_k6 (by omega))
    refine zz_geti (z := S0 (zz_rf 6 p0) 11) zd_4_11_14 zf_Layer_57 (zT_k6 (by omega)) rfl (zN_k6 hn (by omega)) rfl ?_
    refine zz_aload_n (x := zz_rf 6 p0) rfl zd_4_11_17 ?_
    have g87 := zz_G.r G_S0 (zz_rf 6 p0) 12 (-2147483648) 2147483647 (zR_k6_12 (by omega)) (zB_k6 (by omega))
    refine zz_geti (z := S0 (zz_rf 6 p0) 12) zd_4_11_18 zf_Layer_60 (zT_k6 (by omega)) rfl (zN_k6 hn (by omega)) rfl ?_
    refine zz_callVV [zi (S0 (zz_rf 6 p0) 10), zi (S0 (zz_rf 6 p0) 11), zi (S0 (zz_rf 6 p0) 12)] zd_4_11_21 zk_Layer_45 (zT_k6 (by omega)) (zN_k6 hn (by omega)) rfl rfl ⟨Nat.le_of_ble_eq_true rfl, Nat.le_of_ble_eq_true rfl⟩ ⟨rfl, rfl⟩ (Nat.zero_le _) (Nat.zero_le _) (zc_takeForm_4_3 t (S0 (zz_rf 6 p0) 10) (S0 (zz_rf 6 p0) 11) (S0 (zz_rf 6 p0) 12) S0 n hn G_S0 (by omega) (by omega) (by omega) (by omega)) (fun S88 hP => ?_)
    obtain ⟨G_S88, fS88, o90, o91⟩ := hP
    have F_S88 := zz_fr.trans F_S0 fS88 rfl (fun a i h => by rcases h with h | h | h; exact Or.inr (Or.inr (Or.inl h)); exact Or.inr (Or.inr (Or.inr (Or.inl h))); exact Or.inr (Or.inr (Or.inr (Or.inr (h)))))
    have b92 := zz_rf6 (z := t) (by omega)
    refine zz_aload_n (x := zz_rf 6 t) rfl zd_4_11_24 ?_
    have g93 := zz_G.r G_S88 (zz_rf 6 t) 10 (-2147483648) 2147483647 (zR_k6_10 (by omega)) (zB_k6 (by omega))
    refine zz_geti (z := S88 (zz_rf 6 t) 10) zd_4_11_25 zf_Layer_54 (zT_k6 (by omega)) rfl (zN_k6 hn (by omega)) rfl ?_
    refine zz_aload_n (x := zz_rf 6 p1) rfl zd_4_11_28 ?_
    have g94 := zz_G.r G_S88 (zz_rf 6 p1) 10 (-2147483648) 2147483647 (zR_k6_10 (by omega)) (zB_k6 (by omega))
    refine zz_geti (z := S88 (zz_rf 6 p1) 10) zd_4_11_29 zf_Layer_54 (zT_k6 (by omega)) rfl (zN_k6 hn (by omega)) rfl ?_
    refine zz_icmp_ne (by omega) (by omega) zd_4_11_32 (fun c95 => ?_) (fun c95 => ?_)
    · refine zz_iconst zd_4_11_61 ?_
      exact zz_zret zd_4_11_62 rfl (by omega) (Nat.zero_le _) (Nat.zero_le _) ⟨_, _, rfl, G_S88, F_S88, by omega, fun hr => absurd hr (by decide), (fun hf hb hn1 hn2 hK => by clear hf hK; have u10 : S88 (zz_rf 6 p1) 10 = S0 (zz_rf 6 p1) 10 := F_S88 _ _ rfl rfl (fun h => by omega); have u11 : S88 (zz_rf 6 p1) 11 = S0 (zz_rf 6 p1) 11 := F_S88 _ _ rfl rfl (fun h => by omega); have u12 : S88 (zz_rf 6 p1) 12 = S0 (zz_rf 6 p1) 12 := F_S88 _ _ rfl rfl (fun h => by omega); exact Or.inr ⟨rfl, fun hr => by rw [show S0 (zz_rf 6 t) 0 = 3 by omega] at hr; have hr := zn_res3 hr; omega⟩)⟩
    · refine zz_aload_n (x := zz_rf 6 t) rfl zd_4_11_35 ?_
      have g96 := zz_G.r G_S88 (zz_rf 6 t) 11 (-2147483648) 2147483647 (zR_k6_11 (by omega)) (zB_k6 (by omega))
      refine zz_geti (z := S88 (zz_rf 6 t) 11) zd_4_11_36 zf_Layer_57 (zT_k6 (by omega)) rfl (zN_k6 hn (by omega)) rfl ?_
      refine zz_aload_n (x := zz_rf 6 p1) rfl zd_4_11_39 ?_
      have g97 := zz_G.r G_S88 (zz_rf 6 p1) 11 (-2147483648) 2147483647 (zR_k6_11 (by omega)) (zB_k6 (by omega))
      refine zz_geti (z := S88 (zz_rf 6 p1) 11) zd_4_11_40 zf_Layer_57 (zT_k6 (by omega)) rfl (zN_k6 hn (by omega)) rfl ?_
      refine zz_icmp_ne (by omega) (by omega) zd_4_11_43 (fun c98 => ?_) (fun c98 => ?_)
      · refine zz_iconst zd_4_11_61 ?_
        exact zz_zret zd_4_11_62 rfl (by omega) (Nat.zero_le _) (Nat.zero_le _) ⟨_, _, rfl, G_S88, F_S88, by omega, fun hr => absurd hr (by decide), (fun hf hb hn1 hn2 hK => by clear hf hK; have u10 : S88 (zz_rf 6 p1) 10 = S0 (zz_rf 6 p1) 10 := F_S88 _ _ rfl rfl (fun h => by omega); have u11 : S88 (zz_rf 6 p1) 11 = S0 (zz_rf 6 p1) 11 := F_S88 _ _ rfl rfl (fun h => by omega); have u12 : S88 (zz_rf 6 p1) 12 = S0 (zz_rf 6 p1) 12 := F_S88 _ _ rfl rfl (fun h => by omega); exact Or.inr ⟨rfl, fun hr => by rw [show S0 (zz_rf 6 t) 0 = 3 by omega] at hr; have hr := zn_res3 hr; omega⟩)⟩
      · refine zz_aload_n (x := zz_rf 6 t) rfl zd_4_11_46 ?_
        have g99 := zz_G.r G_S88 (zz_rf 6 t) 12 (-2147483648) 2147483647 (zR_k6_12 (by omega)) (zB_k6 (by omega))
        refine zz_geti (z := S88 (zz_rf 6 t) 12) zd_4_11_47 zf_Layer_60 (zT_k6 (by omega)) rfl (zN_k6 hn (by omega)) rfl ?_
        refine zz_aload_n (x := zz_rf 6 p1) rfl zd_4_11_50 ?_
        have g100 := zz_G.r G_S88 (zz_rf 6 p1) 12 (-2147483648) 2147483647 (zR_k6_12 (by omega)) (zB_k6 (by omega))
        refine zz_geti (z := S88 (zz_rf 6 p1) 12) zd_4_11_51 zf_Layer_60 (zT_k6 (by omega)) rfl (zN_k6 hn (by omega)) rfl ?_
        refine zz_icmp_ne (by omega) (by omega) zd_4_11_54 (fun c101 => ?_) (fun c101 => ?_)
        · refine zz_iconst zd_4_11_61 ?_
          exact zz_zret zd_4_11_62 rfl (by omega) (Nat.zero_le _) (Nat.zero_le _) ⟨_, _, rfl, G_S88, F_S88, by omega, fun hr => absurd hr (by decide), (fun hf hb hn1 hn2 hK => by clear hf hK; have u10 : S88 (zz_rf 6 p1) 10 = S0 (zz_rf 6 p1) 10 := F_S88 _ _ rfl rfl (fun h => by omega); have u11 : S88 (zz_rf 6 p1) 11 = S0 (zz_rf 6 p1) 11 := F_S88 _ _ rfl rfl (fun h => by omega); have u12 : S88 (zz_rf 6 p1) 12 = S0 (zz_rf 6 p1) 12 := F_S88 _ _ rfl rfl (fun h => by omega); exact Or.inr ⟨rfl, fun hr => by rw [show S0 (zz_rf 6 t) 0 = 3 by omega] at hr; have hr := zn_res3 hr; omega⟩)⟩
        · refine zz_iconst zd_4_11_57 ?_
          refine zz_goto zd_4_11_58 ?_
          exact zz_zret zd_4_11_62 rfl (by omega) (Nat.zero_le _) (Nat.zero_le _) ⟨_, _, rfl, G_S88, F_S88, by omega, fun _ => Or.inl ⟨Or.inl (by omega), by omega⟩, (fun hf hb hn1 hn2 hK => by clear hf hK; have u10 : S88 (zz_rf 6 p1) 10 = S0 (zz_rf 6 p1) 10 := F_S88 _ _ rfl rfl (fun h => by omega); have u11 : S88 (zz_rf 6 p1) 11 = S0 (zz_rf 6 p1) 11 := F_S88 _ _ rfl rfl (fun h => by omega); have u12 : S88 (zz_rf 6 p1) 12 = S0 (zz_rf 6 p1) 12 := F_S88 _ _ rfl rfl (fun h => by omega); exact Or.inl ⟨rfl, Or.inl ⟨by omega, by omega, by omega, by omega⟩, (by unfold zn_out; rw [if_pos (by omega)]; omega), (by unfold zn_out; rw [if_pos (by omega)]; omega), (by unfold zn_ch; rw [if_neg (by omega)]; omega)⟩)⟩
theorem zk_Network_52 : mm_Vl "TensorForge$Network" 52 2 2 zy_takeResult_4_11 := ⟨zyw_takeResult_4_11, (R_Layer, F_Layer, 15), rfl, mm_tb_1 1001 (by decide +kernel) rfl, mm_tb_1 1002 (by decide +kernel) rfl, mm_tb_1 1003 (by decide +kernel) rfl⟩
abbrev zy_endOfAll_7_8 : mm_Y := (⟨"TensorForge$Network", "endOfAll", "()I"⟩, prog_7_method_8_code, 3, (some .int))
theorem zyw_endOfAll_7_8 : mm_Yw zy_endOfAll_7_8 0 := ⟨mm_tb_1 1012 (by decide +kernel) rfl, mm_tb_1 2 (by decide +kernel) rfl, ⟨by decide, by decide⟩, by decide +kernel⟩
theorem zf_Network_63 : mm_Fl "TensorForge$Network" 63 2 13 .int false := ⟨R_Layer, F_Layer, 15, t_Layer, rfl, i_Layer, by decide, mm_tb_1 108 (by decide +kernel) rfl, rfl, t_Layer_ok, n_Layer, rfl, by decide +kernel⟩
abbrev zy_size_4_7 : mm_Y := (⟨"TensorForge$Layer", "size", "()I"⟩, prog_4_method_7_code, 1, (some .int))
theorem zyw_size_4_7 : mm_Yw zy_size_4_7 0 := ⟨mm_tb_1 1016 (by decide +kernel) rfl, mm_tb_1 3 (by decide +kernel) rfl, ⟨by decide, by decide⟩, by decide +kernel⟩
theorem zg_7_7_58 : zq_at zy_offer_7_7.2.1 58 154 ∧ zq_at zy_offer_7_7.2.1 59 0 ∧ zq_at zy_offer_7_7.2.1 60 5 ∧ zq_at zy_offer_7_7.2.1 63 42 ∧ zq_at zy_offer_7_7.2.1 64 182 ∧ zq_at zy_offer_7_7.2.1 65 0 ∧ zq_at zy_offer_7_7.2.1 66 56 := by decide +kernel
theorem zd_7_7_58 : zz_B zy_offer_7_7 58 (Instr.ifCond .ne) 63 61 := ⟨5, zq_154 zg_7_7_58.1 zg_7_7_58.2.1 zg_7_7_58.2.2.1 (by decide), rfl, rfl⟩
theorem zd_7_7_63 : zz_D zy_offer_7_7 63 (.aload_n 0) 1 64 := ⟨zq_42 zg_7_7_58.2.2.2.1, rfl⟩
theorem zd_7_7_64 : zz_D zy_offer_7_7 64 (.invokevirtual 56) 3 67 := ⟨zq_182 zg_7_7_58.2.2.2.2.1 zg_7_7_58.2.2.2.2.2.1 zg_7_7_58.2.2.2.2.2.2 rfl, rfl⟩
theorem zg_7_8_0 : zq_at zy_endOfAll_7_8.2.1 0 3 ∧ zq_at zy_endOfAll_7_8.2.1 1 60 ∧ zq_at zy_endOfAll_7_8.2.1 2 3 ∧ zq_at zy_endOfAll_7_8.2.1 3 61 ∧ zq_at zy_endOfAll_7_8.2.1 4 28 ∧ zq_at zy_endOfAll_7_8.2.1 5 42 ∧ zq_at zy_endOfAll_7_8.2.1 6 180 ∧ zq_at zy_endOfAll_7_8.2.1 7 0 ∧ zq_at zy_endOfAll_7_8.2.1 8 16 ∧ zq_at zy_endOfAll_7_8.2.1 9 162 ∧ zq_at zy_endOfAll_7_8.2.1 10 0 ∧ zq_at zy_endOfAll_7_8.2.1 11 33 ∧ zq_at zy_endOfAll_7_8.2.1 42 27 ∧ zq_at zy_endOfAll_7_8.2.1 43 172 ∧ zq_at zy_endOfAll_7_8.2.1 12 27 ∧ zq_at zy_endOfAll_7_8.2.1 13 42 ∧ zq_at zy_endOfAll_7_8.2.1 14 180 ∧ zq_at zy_endOfAll_7_8.2.1 15 0 ∧ zq_at zy_endOfAll_7_8.2.1 16 11 ∧ zq_at zy_endOfAll_7_8.2.1 17 28 ∧ zq_at zy_endOfAll_7_8.2.1 18 50 ∧ zq_at zy_endOfAll_7_8.2.1 19 180 ∧ zq_at zy_endOfAll_7_8.2.1 20 0 ∧ zq_at zy_endOfAll_7_8.2.1 21 63 := by decide +kernel
theorem zd_7_8_0 : zz_D zy_endOfAll_7_8 0 (.iconst 0) 1 1 := ⟨zq_3 zg_7_8_0.1, rfl⟩
theorem zd_7_8_1 : zz_D zy_endOfAll_7_8 1 (.istore_n 1) 1 2 := ⟨zq_60 zg_7_8_0.2.1, rfl⟩
theorem zd_7_8_2 : zz_D zy_endOfAll_7_8 2 (.iconst 0) 1 3 := ⟨zq_3 zg_7_8_0.2.2.1, rfl⟩
theorem zd_7_8_3 : zz_D zy_endOfAll_7_8 3 (.istore_n 2) 1 4 := ⟨zq_61 zg_7_8_0.2.2.2.1, rfl⟩
theorem zd_7_8_4 : zz_D zy_endOfAll_7_8 4 (.iload_n 2) 1 5 := ⟨zq_28 zg_7_8_0.2.2.2.2.1, rfl⟩
theorem zd_7_8_5 : zz_D zy_endOfAll_7_8 5 (.aload_n 0) 1 6 := ⟨zq_42 zg_7_8_0.2.2.2.2.2.1, rfl⟩
theorem zd_7_8_6 : zz_D zy_endOfAll_7_8 6 (.getfield 16) 3 9 := ⟨zq_180 zg_7_8_0.2.2.2.2.2.2.1 zg_7_8_0.2.2.2.2.2.2.2.1 zg_7_8_0.2.2.2.2.2.2.2.2.1 rfl, rfl⟩
theorem zd_7_8_9 : zz_B zy_endOfAll_7_8 9 (Instr.if_icmp .ge) 42 12 := ⟨33, zq_162 zg_7_8_0.2.2.2.2.2.2.2.2.2.1 zg_7_8_0.2.2.2.2.2.2.2.2.2.2.1 zg_7_8_0.2.2.2.2.2.2.2.2.2.2.2.1 (by decide), rfl, rfl⟩
theorem zd_7_8_42 : zz_D zy_endOfAll_7_8 42 (.iload_n 1) 1 43 := ⟨zq_27 zg_7_8_0.2.2.2.2.2.2.2.2.2.2.2.2.1, rfl⟩
theorem zd_7_8_43 : zz_D zy_endOfAll_7_8 43 (.ireturn) 1 44 := ⟨zq_172 zg_7_8_0.2.2.2.2.2.2.2.2.2.2.2.2.2.1, rfl⟩
theorem zd_7_8_12 : zz_D zy_endOfAll_7_8 12 (.iload_n 1) 1 13 := ⟨zq_27 zg_7_8_0.2.2.2.2.2.2.2.2.2.2.2.2.2.2.1, rfl⟩
theorem zd_7_8_13 : zz_D zy_endOfAll_7_8 13 (.aload_n 0) 1 14 := ⟨zq_42 zg_7_8_0.2.2.2.2.2.2.2.2.2.2.2.2.2.2.2.1, rfl⟩
theorem zd_7_8_14 : zz_D zy_endOfAll_7_8 14 (.getfield 11) 3 17 := ⟨zq_180 zg_7_8_0.2.2.2.2.2.2.2.2.2.2.2.2.2.2.2.2.1 zg_7_8_0.2.2.2.2.2.2.2.2.2.2.2.2.2.2.2.2.2.1 zg_7_8_0.2.2.2.2.2.2.2.2.2.2.2.2.2.2.2.2.2.2.1 rfl, rfl⟩
theorem zd_7_8_17 : zz_D zy_endOfAll_7_8 17 (.iload_n 2) 1 18 := ⟨zq_28 zg_7_8_0.2.2.2.2.2.2.2.2.2.2.2.2.2.2.2.2.2.2.2.1, rfl⟩
theorem zd_7_8_18 : zz_D zy_endOfAll_7_8 18 (.aaload) 1 19 := ⟨zq_50 zg_7_8_0.2.2.2.2.2.2.2.2.2.2.2.2.2.2.2.2.2.2.2.2.1, rfl⟩
theorem zd_7_8_19 : zz_D zy_endOfAll_7_8 19 (.getfield 63) 3 22 := ⟨zq_180 zg_7_8_0.2.2.2.2.2.2.2.2.2.2.2.2.2.2.2.2.2.2.2.2.2.1 zg_7_8_0.2.2.2.2.2.2.2.2.2.2.2.2.2.2.2.2.2.2.2.2.2.2.1 zg_7_8_0.2.2.2.2.2.2.2.2.2.2.2.2.2.2.2.2.2.2.2.2.2.2.2 rfl, rfl⟩
theorem zg_7_8_22 : zq_at zy_endOfAll_7_8.2.1 22 42 ∧ zq_at zy_endOfAll_7_8.2.1 23 180 ∧ zq_at zy_endOfAll_7_8.2.1 24 0 ∧ zq_at zy_endOfAll_7_8.2.1 25 11 ∧ zq_at zy_endOfAll_7_8.2.1 26 28 ∧ zq_at zy_endOfAll_7_8.2.1 27 50 ∧ zq_at zy_endOfAll_7_8.2.1 28 182 ∧ zq_at zy_endOfAll_7_8.2.1 29 0 ∧ zq_at zy_endOfAll_7_8.2.1 30 60 := by decide +kernel
theorem zd_7_8_22 : zz_D zy_endOfAll_7_8 22 (.aload_n 0) 1 23 := ⟨zq_42 zg_7_8_22.1, rfl⟩
theorem zd_7_8_23 : zz_D zy_endOfAll_7_8 23 (.getfield 11) 3 26 := ⟨zq_180 zg_7_8_22.2.1 zg_7_8_22.2.2.1 zg_7_8_22.2.2.2.1 rfl, rfl⟩
theorem zd_7_8_26 : zz_D zy_endOfAll_7_8 26 (.iload_n 2) 1 27 := ⟨zq_28 zg_7_8_22.2.2.2.2.1, rfl⟩
theorem zd_7_8_27 : zz_D zy_endOfAll_7_8 27 (.aaload) 1 28 := ⟨zq_50 zg_7_8_22.2.2.2.2.2.1, rfl⟩
theorem zd_7_8_28 : zz_D zy_endOfAll_7_8 28 (.invokevirtual 60) 3 31 := ⟨zq_182 zg_7_8_22.2.2.2.2.2.2.1 zg_7_8_22.2.2.2.2.2.2.2.1 zg_7_8_22.2.2.2.2.2.2.2.2 rfl, rfl⟩
theorem zg_4_7_0 : zq_at zy_size_4_7.2.1 0 42 ∧ zq_at zy_size_4_7.2.1 1 180 ∧ zq_at zy_size_4_7.2.1 2 0 ∧ zq_at zy_size_4_7.2.1 3 54 ∧ zq_at zy_size_4_7.2.1 4 42 ∧ zq_at zy_size_4_7.2.1 5 180 ∧ zq_at zy_size_4_7.2.1 6 0 ∧ zq_at zy_size_4_7.2.1 7 57 ∧ zq_at zy_size_4_7.2.1 8 104 ∧ zq_at zy_size_4_7.2.1 9 42 ∧ zq_at zy_size_4_7.2.1 10 180 ∧ zq_at zy_size_4_7.2.1 11 0 ∧ zq_at zy_size_4_7.2.1 12 60 ∧ zq_at zy_size_4_7.2.1 13 104 ∧ zq_at zy_size_4_7.2.1 14 172 := by decide +kernel
theorem zd_4_7_0 : zz_D zy_size_4_7 0 (.aload_n 0) 1 1 := ⟨zq_42 zg_4_7_0.1, rfl⟩
theorem zd_4_7_1 : zz_D zy_size_4_7 1 (.getfield 54) 3 4 := ⟨zq_180 zg_4_7_0.2.1 zg_4_7_0.2.2.1 zg_4_7_0.2.2.2.1 rfl, rfl⟩
theorem zd_4_7_4 : zz_D zy_size_4_7 4 (.aload_n 0) 1 5 := ⟨zq_42 zg_4_7_0.2.2.2.2.1, rfl⟩
theorem zd_4_7_5 : zz_D zy_size_4_7 5 (.getfield 57) 3 8 := ⟨zq_180 zg_4_7_0.2.2.2.2.2.1 zg_4_7_0.2.2.2.2.2.2.1 zg_4_7_0.2.2.2.2.2.2.2.1 rfl, rfl⟩
theorem zd_4_7_8 : zz_D zy_size_4_7 8 (.imul) 1 9 := ⟨zq_104 zg_4_7_0.2.2.2.2.2.2.2.2.1, rfl⟩
theorem zd_4_7_9 : zz_D zy_size_4_7 9 (.aload_n 0) 1 10 := ⟨zq_42 zg_4_7_0.2.2.2.2.2.2.2.2.2.1, rfl⟩
theorem zd_4_7_10 : zz_D zy_size_4_7 10 (.getfield 60) 3 13 := ⟨zq_180 zg_4_7_0.2.2.2.2.2.2.2.2.2.2.1 zg_4_7_0.2.2.2.2.2.2.2.2.2.2.2.1 zg_4_7_0.2.2.2.2.2.2.2.2.2.2.2.2.1 rfl, rfl⟩
theorem zd_4_7_13 : zz_D zy_size_4_7 13 (.imul) 1 14 := ⟨zq_104 zg_4_7_0.2.2.2.2.2.2.2.2.2.2.2.2.2.1, rfl⟩
theorem zd_4_7_14 : zz_D zy_size_4_7 14 (.ireturn) 1 15 := ⟨zq_172 zg_4_7_0.2.2.2.2.2.2.2.2.2.2.2.2.2.2, rfl⟩

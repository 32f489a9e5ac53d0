-- TensorForge$Reaches areThere ()Z
abbrev zr_areThere_9_3x_1037 : Room := { frames := 0, cells := 0, slots := 0, locals := 0 }
def zp_areThere_9_3x_1037  (S0 : zz_S) : Int → zz_S → Prop := fun r S => S0 = S ∧ (0 ≤ r ∧ r ≤ 1) ∧ (r = 1 → S0 1039 0 < 4096 ∧ S0 1041 0 < 4096 ∧ S0 1039 1 < 512 ∧ S0 1041 1 < 512 ∧ S0 1039 2 < 512 ∧ S0 1041 2 < 512 ∧ S0 1039 3 < 256 ∧ S0 1041 3 < 256 ∧ S0 1039 4 < 256 ∧ S0 1041 4 < 256) ∧ (r = 0 → 4096 ≤ S0 1039 0 ∨ 4096 ≤ S0 1041 0 ∨ 512 ≤ S0 1039 1 ∨ 512 ≤ S0 1041 1 ∨ 512 ≤ S0 1039 2 ∨ 512 ≤ S0 1041 2 ∨ 256 ≤ S0 1039 3 ∨ 256 ≤ S0 1041 3 ∨ 256 ≤ S0 1039 4 ∨ 256 ≤ S0 1041 4)
theorem zc_areThere_9_3x_1037 {g : mm_G} {l : Launch}  (S0 : zz_S) (n : Nat) (hn : zz_end ≤ n) (G_S0 : zz_G S0)  : mm_Met g l zy_areThere_9_3 zr_areThere_9_3x_1037 [.ref 1037] (zz_M S0 n) n (zz_QI n (zp_areThere_9_3x_1037  S0)) := by
  refine zz_enter (by decide) (Nat.le_of_ble_eq_true rfl) (zz_less (ls1 := [some (.ref 1037)]) ⟨rfl, trivial⟩ ?_)
  refine zz_iconst zd_9_3_0 ?_
  refine zz_istore_n [some (.ref 1037), some (zi 0)] zd_9_3_1 (by decide) rfl ?_
  refine zz_iload_n (x := 0) rfl zd_9_3_2 ?_
  refine zz_iconst zd_9_3_3 ?_
  refine zz_icmp_ge (by omega) (by omega) zd_9_3_4 (fun c1 => ?_) (fun c1 => ?_)
  · exfalso; omega
  · refine zz_aload_n (x := 1037) rfl zd_9_3_7 ?_
    refine zz_getr (kd := 0) (z := 1039) zd_9_3_8 zf_Reaches_15 zT_1037 rfl (zz_ltn hn rfl) (zz_G.eq G_S0 1037 1 1039 rfl rfl) (by decide) 1039 rfl ?_
    refine zz_iload_n (x := 0) rfl zd_9_3_11 ?_
    have g2 := zz_G.r G_S0 1039 0 (-2147483648) 2147483647 rfl rfl
    refine zz_iald (z := S0 1039 0) zd_9_3_12 zT_1039 rfl (zz_ltn hn rfl) (by decide) (by decide) rfl ?_
    refine zz_gets (q0 := 0) zd_9_3_13 rfl (by decide) zs_Reaches_44 ?_
    refine zz_iload_n (x := 0) rfl zd_9_3_16 ?_
    refine zz_tiald 4096 zd_9_3_17 rfl (by decide) rfl (by decide) (by decide) rfl ?_
    refine zz_icmp_ge (by omega) (by omega) zd_9_3_18 (fun c3 => ?_) (fun c3 => ?_)
    · refine zz_iconst zd_9_3_35 ?_
      exact zz_zret zd_9_3_36 rfl (by omega) (Nat.zero_le _) (Nat.zero_le _) ⟨_, _, rfl, rfl, by omega, by omega, by omega⟩
    · refine zz_aload_n (x := 1037) rfl zd_9_3_21 ?_
      refine zz_getr (kd := 0) (z := 1041) zd_9_3_22 zf_Reaches_21 zT_1037 rfl (zz_ltn hn rfl) (zz_G.eq G_S0 1037 3 1041 rfl rfl) (by decide) 1041 rfl ?_
      refine zz_iload_n (x := 0) rfl zd_9_3_25 ?_
      have g4 := zz_G.r G_S0 1041 0 (-2147483648) 2147483647 rfl rfl
      refine zz_iald (z := S0 1041 0) zd_9_3_26 zT_1041 rfl (zz_ltn hn rfl) (by decide) (by decide) rfl ?_
      refine zz_gets (q0 := 0) zd_9_3_27 rfl (by decide) zs_Reaches_44 ?_
      refine zz_iload_n (x := 0) rfl zd_9_3_30 ?_
      refine zz_tiald 4096 zd_9_3_31 rfl (by decide) rfl (by decide) (by decide) rfl ?_
      refine zz_icmp_lt (by omega) (by omega) zd_9_3_32 (fun c5 => ?_) (fun c5 => ?_)
      · refine zz_iinc [some (.ref 1037), some (zi 1)] zd_9_3_37 rfl rfl ?_
        refine zz_goto zd_9_3_40 ?_
        refine zz_iload_n (x := 1) rfl zd_9_3_2 ?_
        refine zz_iconst zd_9_3_3 ?_
        refine zz_icmp_ge (by omega) (by omega) zd_9_3_4 (fun c6 => ?_) (fun c6 => ?_)
        · exfalso; omega
        · refine zz_aload_n (x := 1037) rfl zd_9_3_7 ?_
          refine zz_getr (kd := 0) (z := 1039) zd_9_3_8 zf_Reaches_15 zT_1037 rfl (zz_ltn hn rfl) (zz_G.eq G_S0 1037 1 1039 rfl rfl) (by decide) 1039 rfl ?_
          refine zz_iload_n (x := 1) rfl zd_9_3_11 ?_
          have g7 := zz_G.r G_S0 1039 1 (-2147483648) 2147483647 rfl rfl
          refine zz_iald (z := S0 1039 1) zd_9_3_12 zT_1039 rfl (zz_ltn hn rfl) (by decide) (by decide) rfl ?_
          refine zz_gets (q0 := 0) zd_9_3_13 rfl (by decide) zs_Reaches_44 ?_
          refine zz_iload_n (x := 1) rfl zd_9_3_16 ?_
          refine zz_tiald 512 zd_9_3_17 rfl (by decide) rfl (by decide) (by decide) rfl ?_
          refine zz_icmp_ge (by omega) (by omega) zd_9_3_18 (fun c8 => ?_) (fun c8 => ?_)
          · refine zz_iconst zd_9_3_35 ?_
            exact zz_zret zd_9_3_36 rfl (by omega) (Nat.zero_le _) (Nat.zero_le _) ⟨_, _, rfl, rfl, by omega, by omega, by omega⟩
          · refine zz_aload_n (x := 1037) rfl zd_9_3_21 ?_
            refine zz_getr (kd := 0) (z := 1041) zd_9_3_22 zf_Reaches_21 zT_1037 rfl (zz_ltn hn rfl) (zz_G.eq G_S0 1037 3 1041 rfl rfl) (by decide) 1041 rfl ?_
            refine zz_iload_n (x := 1) rfl zd_9_3_25 ?_
            have g9 := zz_G.r G_S0 1041 1 (-2147483648) 2147483647 rfl rfl
            refine zz_iald (z := S0 1041 1) zd_9_3_26 zT_1041 rfl (zz_ltn hn rfl) (by decide) (by decide) rfl ?_
            refine zz_gets (q0 := 0) zd_9_3_27 rfl (by decide) zs_Reaches_44 ?_
            refine zz_iload_n (x := 1) rfl zd_9_3_30 ?_
            refine zz_tiald 512 zd_9_3_31 rfl (by decide) rfl (by decide) (by decide) rfl ?_
            refine zz_icmp_lt (by omega) (by omega) zd_9_3_32 (fun c10 => ?_) (fun c10 => ?_)
            · refine zz_iinc [some (.ref 1037), some (zi 2)] zd_9_3_37 rfl rfl ?_
              refine zz_goto zd_9_3_40 ?_
              refine zz_iload_n (x := 2) rfl zd_9_3_2 ?_
              refine zz_iconst zd_9_3_3 ?_
              refine zz_icmp_ge (by omega) (by omega) zd_9_3_4 (fun c11 => ?_) (fun c11 => ?_)
              · exfalso; omega
              · refine zz_aload_n (x := 1037) rfl zd_9_3_7 ?_
                refine zz_getr (kd := 0) (z := 1039) zd_9_3_8 zf_Reaches_15 zT_1037 rfl (zz_ltn hn rfl) (zz_G.eq G_S0 1037 1 1039 rfl rfl) (by decide) 1039 rfl ?_
                refine zz_iload_n (x := 2) rfl zd_9_3_11 ?_
                have g12 := zz_G.r G_S0 1039 2 (-2147483648) 2147483647 rfl rfl
                refine zz_iald (z := S0 1039 2) zd_9_3_12 zT_1039 rfl (zz_ltn hn rfl) (by decide) (by decide) rfl ?_
                refine zz_gets (q0 := 0) zd_9_3_13 rfl (by decide) zs_Reaches_44 ?_
                refine zz_iload_n (x := 2) rfl zd_9_3_16 ?_
                refine zz_tiald 512 zd_9_3_17 rfl (by decide) rfl (by decide) (by decide) rfl ?_
                refine zz_icmp_ge (by omega) (by omega) zd_9_3_18 (fun c13 => ?_) (fun c13 => ?_)
                · refine zz_iconst zd_9_3_35 ?_
                  exact zz_zret zd_9_3_36 rfl (by omega) (Nat.zero_le _) (Nat.zero_le _) ⟨_, _, rfl, rfl, by omega, by omega, by omega⟩
                · refine zz_aload_n (x := 1037) rfl zd_9_3_21 ?_
                  refine zz_getr (kd := 0) (z := 1041) zd_9_3_22 zf_Reaches_21 zT_1037 rfl (zz_ltn hn rfl) (zz_G.eq G_S0 1037 3 1041 rfl rfl) (by decide) 1041 rfl ?_
                  refine zz_iload_n (x := 2) rfl zd_9_3_25 ?_
                  have g14 := zz_G.r G_S0 1041 2 (-2147483648) 2147483647 rfl rfl
                  refine zz_iald (z := S0 1041 2) zd_9_3_26 zT_1041 rfl (zz_ltn hn rfl) (by decide) (by decide) rfl ?_
                  refine zz_gets (q0 := 0) zd_9_3_27 rfl (by decide) zs_Reaches_44 ?_
                  refine zz_iload_n (x := 2) rfl zd_9_3_30 ?_
                  refine zz_tiald 512 zd_9_3_31 rfl (by decide) rfl (by decide) (by decide) rfl ?_
                  refine zz_icmp_lt (by omega) (by omega) zd_9_3_32 (fun c15 => ?_) (fun c15 => ?_)
                  · refine zz_iinc [some (.ref 1037), some (zi 3)] zd_9_3_37 rfl rfl ?_
                    refine zz_goto zd_9_3_40 ?_
                    refine zz_iload_n (x := 3) rfl zd_9_3_2 ?_
                    refine zz_iconst zd_9_3_3 ?_
                    refine zz_icmp_ge (by omega) (by omega) zd_9_3_4 (fun c16 => ?_) (fun c16 => ?_)
                    · exfalso; omega
                    · refine zz_aload_n (x := 1037) rfl zd_9_3_7 ?_
                      refine zz_getr (kd := 0) (z := 1039) zd_9_3_8 zf_Reaches_15 zT_1037 rfl (zz_ltn hn rfl) (zz_G.eq G_S0 1037 1 1039 rfl rfl) (by decide) 1039 rfl ?_
                      refine zz_iload_n (x := 3) rfl zd_9_3_11 ?_
                      have g17 := zz_G.r G_S0 1039 3 (-2147483648) 2147483647 rfl rfl
                      refine zz_iald (z := S0 1039 3) zd_9_3_12 zT_1039 rfl (zz_ltn hn rfl) (by decide) (by decide) rfl ?_
                      refine zz_gets (q0 := 0) zd_9_3_13 rfl (by decide) zs_Reaches_44 ?_
                      refine zz_iload_n (x := 3) rfl zd_9_3_16 ?_
                      refine zz_tiald 256 zd_9_3_17 rfl (by decide) rfl (by decide) (by decide) rfl ?_
                      refine zz_icmp_ge (by omega) (by omega) zd_9_3_18 (fun c18 => ?_) (fun c18 => ?_)
                      · refine zz_iconst zd_9_3_35 ?_
                        exact zz_zret zd_9_3_36 rfl (by omega) (Nat.zero_le _) (Nat.zero_le _) ⟨_, _, rfl, rfl, by omega, by omega, by omega⟩
                      · refine zz_aload_n (x := 1037) rfl zd_9_3_21 ?_
                        refine zz_getr (kd := 0) (z := 1041) zd_9_3_22 zf_Reaches_21 zT_1037 rfl (zz_ltn hn rfl) (zz_G.eq G_S0 1037 3 1041 rfl rfl) (by decide) 1041 rfl ?_
                        refine zz_iload_n (x := 3) rfl zd_9_3_25 ?_
                        have g19 := zz_G.r G_S0 1041 3 (-2147483648) 2147483647 rfl rfl
                        refine zz_iald (z := S0 1041 3) zd_9_3_26 zT_1041 rfl (zz_ltn hn rfl) (by decide) (by decide) rfl ?_
                        refine zz_gets (q0 := 0) zd_9_3_27 rfl (by decide) zs_Reaches_44 ?_
                        refine zz_iload_n (x := 3) rfl zd_9_3_30 ?_
                        refine zz_tiald 256 zd_9_3_31 rfl (by decide) rfl (by decide) (by decide) rfl ?_
                        refine zz_icmp_lt (by omega) (by omega) zd_9_3_32 (fun c20 => ?_) (fun c20 => ?_)
                        · refine zz_iinc [some (.ref 1037), some (zi 4)] zd_9_3_37 rfl rfl ?_
                          refine zz_goto zd_9_3_40 ?_
                          refine zz_iload_n (x := 4) rfl zd_9_3_2 ?_
                          refine zz_iconst zd_9_3_3 ?_
                          refine zz_icmp_ge (by omega) (by omega) zd_9_3_4 (fun c21 => ?_) (fun c21 => ?_)
                          · exfalso; omega
                          · refine zz_aload_n (x := 1037) rfl zd_9_3_7 ?_
                            refine zz_getr (kd := 0) (z := 1039) zd_9_3_8 zf_Reaches_15 zT_1037 rfl (zz_ltn hn rfl) (zz_G.eq G_S0 1037 1 1039 rfl rfl) (by decide) 1039 rfl ?_
                            refine zz_iload_n (x := 4) rfl zd_9_3_11 ?_
                            have g22 := zz_G.r G_S0 1039 4 (-2147483648) 2147483647 rfl rfl
                            refine zz_iald (z := S0 1039 4) zd_9_3_12 zT_1039 rfl (zz_ltn hn rfl) (by decide) (by decide) rfl ?_
                            refine zz_gets (q0 := 0) zd_9_3_13 rfl (by decide) zs_Reaches_44 ?_
                            refine zz_iload_n (x := 4) rfl zd_9_3_16 ?_
                            refine zz_tiald 256 zd_9_3_17 rfl (by decide) rfl (by decide) (by decide) rfl ?_
                            refine zz_icmp_ge (by omega) (by omega) zd_9_3_18 (fun c23 => ?_) (fun c23 => ?_)
                            · refine zz_iconst zd_9_3_35 ?_
                              exact zz_zret zd_9_3_36 rfl (by omega) (Nat.zero_le _) (Nat.zero_le _) ⟨_, _, rfl, rfl, by omega, by omega, by omega⟩
                            · refine zz_aload_n (x := 1037) rfl zd_9_3_21 ?_
                              refine zz_getr (kd := 0) (z := 1041) zd_9_3_22 zf_Reaches_21 zT_1037 rfl (zz_ltn hn rfl) (zz_G.eq G_S0 1037 3 1041 rfl rfl) (by decide) 1041 rfl ?_
                              refine zz_iload_n (x := 4) rfl zd_9_3_25 ?_
                              have g24 := zz_G.r G_S0 1041 4 (-2147483648) 2147483647 rfl rfl
                              refine zz_iald (z := S0 1041 4) zd_9_3_26 zT_1041 rfl (zz_ltn hn rfl) (by decide) (by decide) rfl ?_
                              refine zz_gets (q0 := 0) zd_9_3_27 rfl (by decide) zs_Reaches_44 ?_
                              refine zz_iload_n (x := 4) rfl zd_9_3_30 ?_
                              refine zz_tiald 256 zd_9_3_31 rfl (by decide) rfl (by decide) (by decide) rfl ?_
                              refine zz_icmp_lt (by omega) (by omega) zd_9_3_32 (fun c25 => ?_) (fun c25 => ?_)
                              · refine zz_iinc [some (.ref 1037), some (zi 5)] zd_9_3_37 rfl rfl ?_
                                refine zz_goto zd_9_3_40 ?_
                                refine zz_iload_n (x := 5) rfl zd_9_3_2 ?_
                                refine zz_iconst zd_9_3_3 ?_
                                refine zz_icmp_ge (by omega) (by omega) zd_9_3_4 (fun c26 => ?_) (fun c26 => ?_)
                                · refine zz_iconst zd_9_3_43 ?_
                                  exact zz_zret zd_9_3_44 rfl (by omega) (Nat.zero_le _) (Nat.zero_le _) ⟨_, _, rfl, rfl, by omega, by omega, by omega⟩
                                · exfalso; omega
                              · refine zz_iconst zd_9_3_35 ?_
                                exact zz_zret zd_9_3_36 rfl (by omega) (Nat.zero_le _) (Nat.zero_le _) ⟨_, _, rfl, rfl, by omega, by omega, by omega⟩
                        · refine zz_iconst zd_9_3_35 ?_
                          exact zz_zret zd_9_3_36 rfl (by omega) (Nat.zero_le _) (Nat.zero_le _) ⟨_, _, rfl, rfl, by omega, by omega, by omega⟩
                  · refine zz_iconst zd_9_3_35 ?_
                    exact zz_zret zd_9_3_36 rfl (by omega) (Nat.zero_le _) (Nat.zero_le _) ⟨_, _, rfl, rfl, by omega, by omega, by omega⟩
            · refine zz_iconst zd_9_3_35 ?_
              exact zz_zret zd_9_3_36 rfl (by omega) (Nat.zero_le _) (Nat.zero_le _) ⟨_, _, rfl, rfl, by omega, by omega, by omega⟩
      · refine zz_iconst zd_9_3_35 ?_
        exact zz_zret zd_9_3_36 rfl (by omega) (Nat.zero_le _) (Nat.zero_le _) ⟨_, _, rfl, rfl, by omega, by omega, by omega⟩
theorem zk_Machine_68 : mm_Vl "TensorForge$Machine" 68 4 0 zy_areThere_9_3 := ⟨zyw_areThere_9_3, (R_Reaches, F_Reaches, 4), rfl, mm_tb_1 551 (by decide +kernel) rfl, mm_tb_1 552 (by decide +kernel) rfl, mm_tb_1 553 (by decide +kernel) rfl⟩
theorem zg_6_6_51 : zq_at zy_forbids_6_6.2.1 51 154 ∧ zq_at zy_forbids_6_6.2.1 52 0 ∧ zq_at zy_forbids_6_6.2.1 53 7 ∧ zq_at zy_forbids_6_6.2.1 54 4 ∧ zq_at zy_forbids_6_6.2.1 55 167 ∧ zq_at zy_forbids_6_6.2.1 56 0 ∧ zq_at zy_forbids_6_6.2.1 57 4 ∧ zq_at zy_forbids_6_6.2.1 59 172 ∧ zq_at zy_forbids_6_6.2.1 58 3 := by decide +kernel
theorem zd_6_6_51 : zz_B zy_forbids_6_6 51 (Instr.ifCond .ne) 58 54 := ⟨7, zq_154 zg_6_6_51.1 zg_6_6_51.2.1 zg_6_6_51.2.2.1 (by decide), rfl, rfl⟩
theorem zd_6_6_54 : zz_D zy_forbids_6_6 54 (.iconst 1) 1 55 := ⟨zq_4 zg_6_6_51.2.2.2.1, rfl⟩
theorem zd_6_6_55 : zz_B zy_forbids_6_6 55 Instr.goto 59 58 := ⟨4, zq_167 zg_6_6_51.2.2.2.2.1 zg_6_6_51.2.2.2.2.2.1 zg_6_6_51.2.2.2.2.2.2.1 (by decide), rfl, rfl⟩
theorem zd_6_6_59 : zz_D zy_forbids_6_6 59 (.ireturn) 1 60 := ⟨zq_172 zg_6_6_51.2.2.2.2.2.2.2.1, rfl⟩
theorem zd_6_6_58 : zz_D zy_forbids_6_6 58 (.iconst 0) 1 59 := ⟨zq_3 zg_6_6_51.2.2.2.2.2.2.2.2, rfl⟩
-- TensorForge$Machine forbids (J)Z
abbrev zr_forbids_6_6 : Room := { frames := 4, cells := 0, slots := 0, locals := 76 }
def zp_forbids_6_6 (p0 : Int) (S0 : zz_S) : Int → zz_S → Prop := fun r S => zz_G S ∧ zz_fr [(1038, 0), (1038, 1), (1038, 2), (1038, 3), (1038, 4), (1039, 0), (1039, 1), (1039, 2), (1039, 3), (1039, 4), (1040, 0), (1040, 1), (1040, 2), (1040, 3), (1040, 4), (1041, 0), (1041, 1), (1041, 2), (1041, 3), (1041, 4)] [] (fun _ _ => False) S0 S ∧ (0 ≤ r ∧ r ≤ 1) ∧ (r = 0 → zz_lcl p0 (S0 1031 6)) ∧ (r = zz_il (zz_fy p0 0 15) (zz_fy p0 4 1) (zz_fy p0 5 1) (zz_fy p0 6 1) (zz_fy p0 7 1) (zz_fy p0 8 4095) (zz_fy p0 20 63) (zz_fy p0 26 31) (zz_fy p0 31 511) (zz_fy p0 40 511) (zz_fy p0 49 1023) (zz_fy p0 59 31) (S0 1031 6))
theorem zc_forbids_6_6 {g : mm_G} {l : Launch} (p0 : Int) (S0 : zz_S) (n : Nat) (hn : zz_end ≤ n) (G_S0 : zz_G S0) (hp0 : (-9223372036854775808) ≤ p0 ∧ p0 ≤ 9223372036854775807) : mm_Met g l zy_forbids_6_6 zr_forbids_6_6 [.ref 1031, zl p0] (zz_M S0 n) n (zz_QI n (zp_forbids_6_6 p0 S0)) := by
  refine zz_enter (by decide) (Nat.le_of_ble_eq_true rfl) (zz_less (ls1 := [some (.ref 1031), some (zl p0), none]) ⟨rfl, ⟨rfl, trivial⟩⟩ ?_)
  have F_S0 : zz_fr [(1038, 0), (1038, 1), (1038, 2), (1038, 3), (1038, 4), (1039, 0), (1039, 1), (1039, 2), (1039, 3), (1039, 4), (1040, 0), (1040, 1), (1040, 2), (1040, 3), (1040, 4), (1041, 0), (1041, 1), (1041, 2), (1041, 3), (1041, 4)] [] (fun _ _ => False) S0 S0 := zz_fr.refl
  refine zz_lload_n (x := p0) rfl zd_6_6_0 ?_
  refine zz_callSI [zl p0] zd_6_6_1 zk_Machine_49 rfl rfl ⟨Nat.le_of_ble_eq_true rfl, Nat.le_of_ble_eq_true rfl⟩ ⟨rfl, rfl⟩ (Nat.zero_le _) (Nat.zero_le _) (zc_hasStrangeField_12_9 p0 S0 n hn G_S0 (by omega)) (fun v2 S1 hP => ?_)
  obtain ⟨rfl, o3, o4, o5⟩ := hP
  rcases (by omega : v2 = 0 ∨ v2 = 1) with rfl | rfl
  · refine zz_if_ne (by omega) zd_6_6_4 (fun c6 => ?_) (fun c6 => ?_)
    · exfalso; omega
    · refine zz_aload_n (x := 1031) rfl zd_6_6_7 ?_
      refine zz_lload_n (x := p0) rfl zd_6_6_8 ?_
      have g7 := zz_G.r G_S0 1031 6 2 8 rfl rfl
      refine zz_callVI [zl p0] zd_6_6_9 zk_Machine_55 zT_1031 (zz_ltn hn rfl) rfl rfl ⟨Nat.le_of_ble_eq_true rfl, Nat.le_of_ble_eq_true rfl⟩ ⟨rfl, rfl⟩ (Nat.zero_le _) (Nat.zero_le _) (zc_shapeFits_6_7 p0 S0 n hn G_S0 (by omega)) (fun v9 S8 hP => ?_)
      obtain ⟨rfl, o10, o11, o12⟩ := hP
      rcases (by omega : v9 = 0 ∨ v9 = 1) with rfl | rfl
      · refine zz_if_eq (by omega) zd_6_6_12 (fun c13 => ?_) (fun c13 => ?_)
        · refine zz_iconst zd_6_6_30 ?_
          exact zz_zret zd_6_6_31 rfl (by omega) (Nat.zero_le _) (Nat.zero_le _) ⟨_, _, rfl, G_S0, F_S0, by omega, fun hr => absurd hr (by decide), (zz_il1 (Or.inr (Or.inl (by omega)))).symm⟩
        · exfalso; omega
      · refine zz_if_eq (by omega) zd_6_6_12 (fun c14 => ?_) (fun c14 => ?_)
        · exfalso; omega
        · refine zz_aload_n (x := 1031) rfl zd_6_6_15 ?_
          refine zz_lload_n (x := p0) rfl zd_6_6_16 ?_
          refine zz_callVI [zl p0] zd_6_6_17 zk_Machine_58 zT_1031 (zz_ltn hn rfl) rfl rfl ⟨Nat.le_of_ble_eq_true rfl, Nat.le_of_ble_eq_true rfl⟩ ⟨rfl, rfl⟩ (Nat.zero_le _) (Nat.zero_le _) (zc_numberFits_6_8 p0 S0 n hn G_S0 (by omega)) (fun v16 S15 hP => ?_)
          obtain ⟨rfl, o17, o18, o19⟩ := hP
          rcases (by omega : v16 = 0 ∨ v16 = 1) with rfl | rfl
          · refine zz_if_eq (by omega) zd_6_6_20 (fun c20 => ?_) (fun c20 => ?_)
            · refine zz_iconst zd_6_6_30 ?_
              exact zz_zret zd_6_6_31 rfl (by omega) (Nat.zero_le _) (Nat.zero_le _) ⟨_, _, rfl, G_S0, F_S0, by omega, fun hr => absurd hr (by decide), (zz_il1 (Or.inr (Or.inr (Or.inl (by omega))))).symm⟩
            · exfalso; omega
          · refine zz_if_eq (by omega) zd_6_6_20 (fun c21 => ?_) (fun c21 => ?_)
            · exfalso; omega
            · refine zz_lload_n (x := p0) rfl zd_6_6_23 ?_
              refine zz_callSI [zl p0] zd_6_6_24 zk_Machine_61 rfl rfl ⟨Nat.le_of_ble_eq_true rfl, Nat.le_of_ble_eq_true rfl⟩ ⟨rfl, rfl⟩ (Nat.zero_le _) (Nat.zero_le _) (zc_tokensFit_6_9 p0 S0 n hn G_S0 (by omega)) (fun v23 S22 hP => ?_)
              obtain ⟨rfl, o24, o25⟩ := hP
              rcases (by omega : v23 = 0 ∨ v23 = 1) with rfl | rfl
              · refine zz_if_ne (by omega) zd_6_6_27 (fun c26 => ?_) (fun c26 => ?_)
                · exfalso; omega
                · refine zz_iconst zd_6_6_30 ?_
                  exact zz_zret zd_6_6_31 rfl (by omega) (Nat.zero_le _) (Nat.zero_le _) ⟨_, _, rfl, G_S0, F_S0, by omega, fun hr => absurd hr (by decide), (zz_il1 (Or.inr (Or.inr (Or.inr (Or.inl (by omega)))))).symm⟩
              · refine zz_if_ne (by omega) zd_6_6_27 (fun c27 => ?_) (fun c27 => ?_)
                · refine zz_aload_n (x := 1031) rfl zd_6_6_32 ?_
                  refine zz_getr (kd := 3) (z := 4) zd_6_6_33 zf_Machine_32 zT_1031 rfl (zz_ltn hn rfl) (zz_G.eq G_S0 1031 5 4 rfl rfl) (by decide) 1037 rfl ?_
                  refine zz_lload_n (x := p0) rfl zd_6_6_36 ?_
                  refine zz_aload_n (x := 1031) rfl zd_6_6_37 ?_
                  refine zz_geti (z := S0 1031 6) zd_6_6_38 zf_Machine_36 zT_1031 rfl (zz_ltn hn rfl) rfl ?_
                  refine zz_callVV [zl p0, zi (S0 1031 6)] zd_6_6_41 zk_Machine_64 zT_1037 (zz_ltn hn rfl) rfl rfl ⟨Nat.le_of_ble_eq_true rfl, Nat.le_of_ble_eq_true rfl⟩ ⟨rfl, rfl⟩ (Nat.zero_le _) (Nat.zero_le _) (zc_take_9_2x_1037 p0 (S0 1031 6) S0 n hn G_S0 (by omega) (by omega)) (fun S28 hP => ?_)
                  obtain ⟨G_S28, fS28, o30, o31, o32, o33, o34, o35, o36, o37, o38⟩ := hP
                  have F_S28 := zz_fr.trans F_S0 fS28 rfl zz_nv
                  refine zz_aload_n (x := 1031) rfl zd_6_6_44 ?_
                  refine zz_getr (kd := 3) (z := 4) zd_6_6_45 zf_Machine_32 zT_1031 rfl (zz_ltn hn rfl) (zz_G.eq G_S28 1031 5 4 rfl rfl) (by decide) 1037 rfl ?_
                  have g39 := zz_G.r G_S28 1039 0 (-2147483648) 2147483647 rfl rfl
                  have g40 := zz_G.r G_S28 1039 1 (-2147483648) 2147483647 rfl rfl
                  have g41 := zz_G.r G_S28 1039 2 (-2147483648) 2147483647 rfl rfl
                  have g42 := zz_G.r G_S28 1039 3 (-2147483648) 2147483647 rfl rfl
                  have g43 := zz_G.r G_S28 1039 4 (-2147483648) 2147483647 rfl rfl
                  have g44 := zz_G.r G_S28 1041 0 (-2147483648) 2147483647 rfl rfl
                  have g45 := zz_G.r G_S28 1041 1 (-2147483648) 2147483647 rfl rfl
                  have g46 := zz_G.r G_S28 1041 2 (-2147483648) 2147483647 rfl rfl
                  have g47 := zz_G.r G_S28 1041 3 (-2147483648) 2147483647 rfl rfl
                  have g48 := zz_G.r G_S28 1041 4 (-2147483648) 2147483647 rfl rfl
                  refine zz_callVI [] zd_6_6_48 zk_Machine_68 zT_1037 (zz_ltn hn rfl) rfl rfl ⟨Nat.le_of_ble_eq_true rfl, Nat.le_of_ble_eq_true rfl⟩ ⟨rfl, rfl⟩ (Nat.zero_le _) (Nat.zero_le _) (zc_areThere_9_3x_1037  S28 n hn G_S28 ) (fun v50 S49 hP => ?_)
                  obtain ⟨rfl, o51, o52, o53⟩ := hP
                  rcases (by omega : v50 = 0 ∨ v50 = 1) with rfl | rfl
                  · refine zz_if_ne (by omega) zd_6_6_51 (fun c54 => ?_) (fun c54 => ?_)
                    · exfalso; omega
                    · refine zz_iconst zd_6_6_54 ?_
                      refine zz_goto zd_6_6_55 ?_
                      exact zz_zret zd_6_6_59 rfl (by omega) (Nat.zero_le _) (Nat.zero_le _) ⟨_, _, rfl, G_S28, F_S28, by omega, fun hr => absurd hr (by decide), (zz_il1 (Or.inr (Or.inr (Or.inr (Or.inr (zz_re1 (by omega) o30 o31 o32 o33 o34 o35 o36 o37 o38 (o53 rfl))))))).symm⟩
                  · refine zz_if_ne (by omega) zd_6_6_51 (fun c55 => ?_) (fun c55 => ?_)
                    · refine zz_iconst zd_6_6_58 ?_
                      exact zz_zret zd_6_6_59 rfl (by omega) (Nat.zero_le _) (Nat.zero_le _) ⟨_, _, rfl, G_S28, F_S28, by omega, fun _ => zz_lc_mk2 (o4 rfl) (o11 rfl) (o18 rfl) o30 o31 o32 o33 o34 o35 o36 o37 o38 (o52 rfl), (zz_il0 (by omega) (by omega) (by omega) (by omega) (zz_re0 (by omega) o30 o31 o32 o33 o34 o35 o36 o37 o38 (o52 rfl))).symm⟩
                    · exfalso; omega
                · exfalso; omega
  · refine zz_if_ne (by omega) zd_6_6_4 (fun c56 => ?_) (fun c56 => ?_)
    · refine zz_iconst zd_6_6_30 ?_
      exact zz_zret zd_6_6_31 rfl (by omega) (Nat.zero_le _) (Nat.zero_le _) ⟨_, _, rfl, G_S0, F_S0, by omega, fun hr => absurd hr (by decide), (zz_il1 (Or.inl (by omega))).symm⟩
    · exfalso; omega
theorem zk_TF_141 : mm_Vl "TensorForge" 141 3 1 zy_forbids_6_6 := ⟨zyw_forbids_6_6, (R_Machine, F_Machine, 14), rfl, mm_tb_1 485 (by decide +kernel) rfl, mm_tb_1 486 (by decide +kernel) rfl, mm_tb_1 487 (by decide +kernel) rfl⟩
theorem zg_1_10_8 : zq_at zy_illegal_1_10.2.1 8 172 := by decide +kernel
theorem zd_1_10_8 : zz_D zy_illegal_1_10 8 (.ireturn) 1 9 := ⟨zq_172 zg_1_10_8, rfl⟩
-- TensorForge illegal (J)Z
abbrev zr_illegal_1_10 : Room := { frames := 5, cells := 0, slots := 0, locals := 90 }
def zp_illegal_1_10 (p0 : Int) (S0 : zz_S) : Int → zz_S → Prop := fun r S => zz_G S ∧ zz_fr [(1038, 0), (1038, 1), (1038, 2), (1038, 3), (1038, 4), (1039, 0), (1039, 1), (1039, 2), (1039, 3), (1039, 4), (1040, 0), (1040, 1), (1040, 2), (1040, 3), (1040, 4), (1041, 0), (1041, 1), (1041, 2), (1041, 3), (1041, 4)] [] (fun _ _ => False) S0 S ∧ (0 ≤ r ∧ r ≤ 1) ∧ (r = zz_il (zz_fy p0 0 15) (zz_fy p0 4 1) (zz_fy p0 5 1) (zz_fy p0 6 1) (zz_fy p0 7 1) (zz_fy p0 8 4095) (zz_fy p0 20 63) (zz_fy p0 26 31) (zz_fy p0 31 511) (zz_fy p0 40 511) (zz_fy p0 49 1023) (zz_fy p0 59 31) (S0 1031 6))
theorem zc_illegal_1_10 {g : mm_G} {l : Launch} (p0 : Int) (S0 : zz_S) (n : Nat) (hn : zz_end ≤ n) (G_S0 : zz_G S0) (hp0 : (-9223372036854775808) ≤ p0 ∧ p0 ≤ 9223372036854775807) : mm_Met g l zy_illegal_1_10 zr_illegal_1_10 [.ref 1000, zl p0] (zz_M S0 n) n (zz_QI n (zp_illegal_1_10 p0 S0)) := by
  refine zz_enter (by decide) (Nat.le_of_ble_eq_true rfl) (zz_less (ls1 := [some (.ref 1000), some (zl p0), none]) ⟨rfl, ⟨rfl, trivial⟩⟩ ?_)
  have F_S0 : zz_fr [(1038, 0), (1038, 1), (1038, 2), (1038, 3), (1038, 4), (1039, 0), (1039, 1), (1039, 2), (1039, 3), (1039, 4), (1040, 0), (1040, 1), (1040, 2), (1040, 3), (1040, 4), (1041, 0), (1041, 1), (1041, 2), (1041, 3), (1041, 4)] [] (fun _ _ => False) S0 S0 := zz_fr.refl
  refine zz_aload_n (x := 1000) rfl zd_1_10_0 ?_
  refine zz_getr (kd := 0) (z := 1031) zd_1_10_1 zf_TF_33 zT_1000 rfl (zz_ltn hn rfl) (zz_G.eq G_S0 1000 0 1031 rfl rfl) (by decide) 1031 rfl ?_
  refine zz_lload_n (x := p0) rfl zd_1_10_4 ?_
  have g1 := zz_G.r G_S0 1031 6 2 8 rfl rfl
  refine zz_callVI [zl p0] zd_1_10_5 zk_TF_141 zT_1031 (zz_ltn hn rfl) rfl rfl ⟨Nat.le_of_ble_eq_true rfl, Nat.le_of_ble_eq_true rfl⟩ ⟨rfl, rfl⟩ (Nat.zero_le _) (Nat.zero_le _) (zc_forbids_6_6 p0 S0 n hn G_S0 (by omega)) (fun v3 S2 hP => ?_)
  obtain ⟨G_S2, fS2, o4, o5, o6⟩ := hP
  have F_S2 := zz_fr.trans F_S0 fS2 rfl zz_nv
  rcases (by omega : v3 = 0 ∨ v3 = 1) with rfl | rfl
  · exact zz_zret zd_1_10_8 rfl (by omega) (Nat.zero_le _) (Nat.zero_le _) ⟨_, _, rfl, G_S2, F_S2, by omega, by omega⟩
  · exact zz_zret zd_1_10_8 rfl (by omega) (Nat.zero_le _) (Nat.zero_le _) ⟨_, _, rfl, G_S2, F_S2, by omega, by omega⟩
abbrev zy_put_1_11 : mm_Y := (⟨"TensorForge", "put", "(I)I"⟩, prog_1_method_11_code, 2, (some .int))
theorem zyw_put_1_11 : mm_Yw zy_put_1_11 1 := ⟨mm_tb_1 1222 (by decide +kernel) rfl, mm_tb_1 1 (by decide +kernel) rfl, ⟨by decide, by decide⟩, by decide +kernel⟩
theorem zz_bsh (b : BitVec 32) (n : Nat) (hn : n ≤ 24) : (b >>> n) &&& 255#32 = (b.sshiftRight n) &&& 255#32 := by
  apply BitVec.eq_of_getLsbD_eq
  intro i hi
  rw [BitVec.getLsbD_and, BitVec.getLsbD_and]
  by_cases h : i < 8
  · have h1 : n + i < 32 := by omega
    rw [BitVec.getLsbD_ushiftRight, BitVec.getLsbD_sshiftRight, if_pos h1, decide_eq_false (show ¬ 32 ≤ i by omega), Bool.not_false, Bool.true_and]
  · have h2 : (255#32).getLsbD i = false := by
      rw [BitVec.getLsbD_ofNat]
      have h3 : Nat.testBit 255 i = false := by
        rw [show (255 : Nat) = 2 ^ 8 - 1 from rfl, Nat.testBit_two_pow_sub_one]
        exact decide_eq_false h
      rw [h3, Bool.and_false]
    rw [h2, Bool.and_false, Bool.and_false]
theorem zz_sgl {p x v w : Int} (hx : 0 ≤ x ∧ x < 4) (e1 : v = (((Int32.ofInt p).toUInt32 >>> ((Int32.ofInt (8 * x)).toUInt32 &&& Int32.toUInt32 31)).toInt32).toInt) (e2 : w = (Int32.ofInt v &&& Int32.ofInt 255).toInt) : w = zz_sg p x.toNat := by
  have key : ∀ b : Int32, ∀ k : Nat, k < 4 → ((b.toUInt32 >>> ((Int32.ofInt (8 * (k : Int))).toUInt32 &&& Int32.toUInt32 31)).toInt32 &&& Int32.ofInt 255) = ((b >>> (Int32.ofInt (8 * (k : Int)) &&& 31)) &&& Int32.ofInt 255) := by
    intro b k hk
    apply Int32.toBitVec_inj.1
    rcases (by omega : k = 0 ∨ k = 1 ∨ k = 2 ∨ k = 3) with rfl | rfl | rfl | rfl
    · exact zz_bsh b.toBitVec 0 (by decide)
    · exact zz_bsh b.toBitVec 8 (by decide)
    · exact zz_bsh b.toBitVec 16 (by decide)
    · exact zz_bsh b.toBitVec 24 (by decide)
  obtain ⟨k, rfl⟩ : ∃ k : Nat, x = (k : Int) := ⟨x.toNat, by omega⟩
  rw [e2, e1, Int.toNat_natCast, Int32.ofInt_toInt, key _ k (by omega)]
  unfold zz_sg
  rw [Int32.ofInt_toInt]
theorem zz_cty {p x w : Int} (hx : 0 ≤ x) (hw : w = zz_sg p x.toNat) : (0 < w ∧ zz_ct p (x + 1).toNat = zz_ct p x.toNat + 1) ∨ (w ≤ 0 ∧ zz_ct p (x + 1).toNat = zz_ct p x.toNat) := by
  have h1 : (x + 1).toNat = x.toNat + 1 := by omega
  rw [h1, hw]
  show (0 < zz_sg p x.toNat ∧ zz_ct p x.toNat + (if 0 < zz_sg p x.toNat then 1 else 0) = _) ∨ (zz_sg p x.toNat ≤ 0 ∧ zz_ct p x.toNat + (if 0 < zz_sg p x.toNat then 1 else 0) = _)
  by_cases h : 0 < zz_sg p x.toNat
  · exact Or.inl ⟨h, by rw [if_pos h]⟩
  · exact Or.inr ⟨by omega, by rw [if_neg h, Int.add_zero]⟩
theorem zz_byr {p : Int} {k : Nat} : 0 ≤ zz_sg p k ∧ zz_sg p k ≤ 255 := by
  have h := (zz_and32 (Int32.ofInt (Int32.ofInt p >>> (Int32.ofInt (8 * (k : Int)) &&& 31)).toInt) (Int32.ofInt 255)).2 (by decide)
  exact h
abbrev zy_areSigns_11_2 : mm_Y := (⟨"TensorForge$Text", "areSigns", "(I)Z"⟩, prog_11_method_2_code, 3, (some .boolean))
theorem zyw_areSigns_11_2 : mm_Yw zy_areSigns_11_2 1 := ⟨mm_tb_1 1225 (by decide +kernel) rfl, mm_tb_1 7 (by decide +kernel) rfl, ⟨by decide, by decide⟩, by decide +kernel⟩
theorem zg_1_11_0 : zq_at zy_put_1_11.2.1 0 27 ∧ zq_at zy_put_1_11.2.1 1 184 ∧ zq_at zy_put_1_11.2.1 2 0 ∧ zq_at zy_put_1_11.2.1 3 145 := by decide +kernel
theorem zd_1_11_0 : zz_D zy_put_1_11 0 (.iload_n 1) 1 1 := ⟨zq_27 zg_1_11_0.1, rfl⟩
theorem zd_1_11_1 : zz_D zy_put_1_11 1 (.invokestatic 145) 3 4 := ⟨zq_184 zg_1_11_0.2.1 zg_1_11_0.2.2.1 zg_1_11_0.2.2.2 rfl, rfl⟩
theorem zg_11_2_0 : zq_at zy_areSigns_11_2.2.1 0 3 ∧ zq_at zy_areSigns_11_2.2.1 1 60 ∧ zq_at zy_areSigns_11_2.2.1 2 27 ∧ zq_at zy_areSigns_11_2.2.1 3 7 ∧ zq_at zy_areSigns_11_2.2.1 4 162 ∧ zq_at zy_areSigns_11_2.2.1 5 0 ∧ zq_at zy_areSigns_11_2.2.1 6 44 ∧ zq_at zy_areSigns_11_2.2.1 48 4 ∧ zq_at zy_areSigns_11_2.2.1 49 172 ∧ zq_at zy_areSigns_11_2.2.1 7 26 ∧ zq_at zy_areSigns_11_2.2.1 8 16 ∧ zq_at zy_areSigns_11_2.2.1 9 8 ∧ zq_at zy_areSigns_11_2.2.1 10 27 ∧ zq_at zy_areSigns_11_2.2.1 11 104 ∧ zq_at zy_areSigns_11_2.2.1 12 124 ∧ zq_at zy_areSigns_11_2.2.1 13 17 ∧ zq_at zy_areSigns_11_2.2.1 14 0 ∧ zq_at zy_areSigns_11_2.2.1 15 255 ∧ zq_at zy_areSigns_11_2.2.1 16 126 ∧ zq_at zy_areSigns_11_2.2.1 17 61 ∧ zq_at zy_areSigns_11_2.2.1 18 28 ∧ zq_at zy_areSigns_11_2.2.1 19 153 ∧ zq_at zy_areSigns_11_2.2.1 20 0 ∧ zq_at zy_areSigns_11_2.2.1 21 23 := by decide +kernel
theorem zd_11_2_0 : zz_D zy_areSigns_11_2 0 (.iconst 0) 1 1 := ⟨zq_3 zg_11_2_0.1, rfl⟩
theorem zd_11_2_1 : zz_D zy_areSigns_11_2 1 (.istore_n 1) 1 2 := ⟨zq_60 zg_11_2_0.2.1, rfl⟩
theorem zd_11_2_2 : zz_D zy_areSigns_11_2 2 (.iload_n 1) 1 3 := ⟨zq_27 zg_11_2_0.2.2.1, rfl⟩
theorem zd_11_2_3 : zz_D zy_areSigns_11_2 3 (.iconst 4) 1 4 := ⟨zq_7 zg_11_2_0.2.2.2.1, rfl⟩
theorem zd_11_2_4 : zz_B zy_areSigns_11_2 4 (Instr.if_icmp .ge) 48 7 := ⟨44, zq_162 zg_11_2_0.2.2.2.2.1 zg_11_2_0.2.2.2.2.2.1 zg_11_2_0.2.2.2.2.2.2.1 (by decide), rfl, rfl⟩
theorem zd_11_2_48 : zz_D zy_areSigns_11_2 48 (.iconst 1) 1 49 := ⟨zq_4 zg_11_2_0.2.2.2.2.2.2.2.1, rfl⟩
theorem zd_11_2_49 : zz_D zy_areSigns_11_2 49 (.ireturn) 1 50 := ⟨zq_172 zg_11_2_0.2.2.2.2.2.2.2.2.1, rfl⟩
theorem zd_11_2_7 : zz_D zy_areSigns_11_2 7 (.iload_n 0) 1 8 := ⟨zq_26 zg_11_2_0.2.2.2.2.2.2.2.2.2.1, rfl⟩
theorem zd_11_2_8 : zz_D zy_areSigns_11_2 8 (.bipush 8) 2 10 := ⟨zq_16 zg_11_2_0.2.2.2.2.2.2.2.2.2.2.1 zg_11_2_0.2.2.2.2.2.2.2.2.2.2.2.1 (by decide), rfl⟩
theorem zd_11_2_10 : zz_D zy_areSigns_11_2 10 (.iload_n 1) 1 11 := ⟨zq_27 zg_11_2_0.2.2.2.2.2.2.2.2.2.2.2.2.1, rfl⟩
theorem zd_11_2_11 : zz_D zy_areSigns_11_2 11 (.imul) 1 12 := ⟨zq_104 zg_11_2_0.2.2.2.2.2.2.2.2.2.2.2.2.2.1, rfl⟩
theorem zd_11_2_12 : zz_D zy_areSigns_11_2 12 (.iushr) 1 13 := ⟨zq_124 zg_11_2_0.2.2.2.2.2.2.2.2.2.2.2.2.2.2.1, rfl⟩
theorem zd_11_2_13 : zz_D zy_areSigns_11_2 13 (.sipush 255) 3 16 := ⟨zq_17 zg_11_2_0.2.2.2.2.2.2.2.2.2.2.2.2.2.2.2.1 zg_11_2_0.2.2.2.2.2.2.2.2.2.2.2.2.2.2.2.2.1 zg_11_2_0.2.2.2.2.2.2.2.2.2.2.2.2.2.2.2.2.2.1 (by decide), rfl⟩
theorem zd_11_2_16 : zz_D zy_areSigns_11_2 16 (.iand) 1 17 := ⟨zq_126 zg_11_2_0.2.2.2.2.2.2.2.2.2.2.2.2.2.2.2.2.2.2.1, rfl⟩
theorem zd_11_2_17 : zz_D zy_areSigns_11_2 17 (.istore_n 2) 1 18 := ⟨zq_61 zg_11_2_0.2.2.2.2.2.2.2.2.2.2.2.2.2.2.2.2.2.2.2.1, rfl⟩
theorem zd_11_2_18 : zz_D zy_areSigns_11_2 18 (.iload_n 2) 1 19 := ⟨zq_28 zg_11_2_0.2.2.2.2.2.2.2.2.2.2.2.2.2.2.2.2.2.2.2.2.1, rfl⟩
theorem zd_11_2_19 : zz_B zy_areSigns_11_2 19 (Instr.ifCond .eq) 42 22 := ⟨23, zq_153 zg_11_2_0.2.2.2.2.2.2.2.2.2.2.2.2.2.2.2.2.2.2.2.2.2.1 zg_11_2_0.2.2.2.2.2.2.2.2.2.2.2.2.2.2.2.2.2.2.2.2.2.2.1 zg_11_2_0.2.2.2.2.2.2.2.2.2.2.2.2.2.2.2.2.2.2.2.2.2.2.2 (by decide), rfl, rfl⟩
theorem zg_11_2_42 : zq_at zy_areSigns_11_2.2.1 42 132 ∧ zq_at zy_areSigns_11_2.2.1 43 1 ∧ zq_at zy_areSigns_11_2.2.1 44 1 ∧ zq_at zy_areSigns_11_2.2.1 45 167 ∧ zq_at zy_areSigns_11_2.2.1 46 255 ∧ zq_at zy_areSigns_11_2.2.1 47 213 ∧ zq_at zy_areSigns_11_2.2.1 22 28 ∧ zq_at zy_areSigns_11_2.2.1 23 16 ∧ zq_at zy_areSigns_11_2.2.1 24 10 ∧ zq_at zy_areSigns_11_2.2.1 25 159 ∧ zq_at zy_areSigns_11_2.2.1 26 0 ∧ zq_at zy_areSigns_11_2.2.1 27 17 ∧ zq_at zy_areSigns_11_2.2.1 28 28 ∧ zq_at zy_areSigns_11_2.2.1 29 16 ∧ zq_at zy_areSigns_11_2.2.1 30 32 ∧ zq_at zy_areSigns_11_2.2.1 31 161 ∧ zq_at zy_areSigns_11_2.2.1 32 0 ∧ zq_at zy_areSigns_11_2.2.1 33 9 ∧ zq_at zy_areSigns_11_2.2.1 40 3 ∧ zq_at zy_areSigns_11_2.2.1 41 172 ∧ zq_at zy_areSigns_11_2.2.1 34 28 ∧ zq_at zy_areSigns_11_2.2.1 35 16 ∧ zq_at zy_areSigns_11_2.2.1 36 126 := by decide +kernel
theorem zd_11_2_42 : zz_D zy_areSigns_11_2 42 (.iinc 1 1) 3 45 := ⟨zq_132 zg_11_2_42.1 zg_11_2_42.2.1 zg_11_2_42.2.2.1 (by decide), rfl⟩
theorem zd_11_2_45 : zz_B zy_areSigns_11_2 45 Instr.goto 2 48 := ⟨(-43), zq_167 zg_11_2_42.2.2.2.1 zg_11_2_42.2.2.2.2.1 zg_11_2_42.2.2.2.2.2.1 (by decide), rfl, rfl⟩
theorem zd_11_2_22 : zz_D zy_areSigns_11_2 22 (.iload_n 2) 1 23 := ⟨zq_28 zg_11_2_42.2.2.2.2.2.2.1, rfl⟩
theorem zd_11_2_23 : zz_D zy_areSigns_11_2 23 (.bipush 10) 2 25 := ⟨zq_16 zg_11_2_42.2.2.2.2.2.2.2.1 zg_11_2_42.2.2.2.2.2.2.2.2.1 (by decide), rfl⟩
theorem zd_11_2_25 : zz_B zy_areSigns_11_2 25 (Instr.if_icmp .eq) 42 28 := ⟨17, zq_159 zg_11_2_42.2.2.2.2.2.2.2.2.2.1 zg_11_2_42.2.2.2.2.2.2.2.2.2.2.1 zg_11_2_42.2.2.2.2.2.2.2.2.2.2.2.1 (by decide), rfl, rfl⟩
theorem zd_11_2_28 : zz_D zy_areSigns_11_2 28 (.iload_n 2) 1 29 := ⟨zq_28 zg_11_2_42.2.2.2.2.2.2.2.2.2.2.2.2.1, rfl⟩
theorem zd_11_2_29 : zz_D zy_areSigns_11_2 29 (.bipush 32) 2 31 := ⟨zq_16 zg_11_2_42.2.2.2.2.2.2.2.2.2.2.2.2.2.1 zg_11_2_42.2.2.2.2.2.2.2.2.2.2.2.2.2.2.1 (by decide), rfl⟩
theorem zd_11_2_31 : zz_B zy_areSigns_11_2 31 (Instr.if_icmp .lt) 40 34 := ⟨9, zq_161 zg_11_2_42.2.2.2.2.2.2.2.2.2.2.2.2.2.2.2.1 zg_11_2_42.2.2.2.2.2.2.2.2.2.2.2.2.2.2.2.2.1 zg_11_2_42.2.2.2.2.2.2.2.2.2.2.2.2.2.2.2.2.2.1 (by decide), rfl, rfl⟩
theorem zd_11_2_40 : zz_D zy_areSigns_11_2 40 (.iconst 0) 1 41 := ⟨zq_3 zg_11_2_42.2.2.2.2.2.2.2.2.2.2.2.2.2.2.2.2.2.2.1, rfl⟩
theorem zd_11_2_41 : zz_D zy_areSigns_11_2 41 (.ireturn) 1 42 := ⟨zq_172 zg_11_2_42.2.2.2.2.2.2.2.2.2.2.2.2.2.2.2.2.2.2.2.1, rfl⟩
theorem zd_11_2_34 : zz_D zy_areSigns_11_2 34 (.iload_n 2) 1 35 := ⟨zq_28 zg_11_2_42.2.2.2.2.2.2.2.2.2.2.2.2.2.2.2.2.2.2.2.2.1, rfl⟩
theorem zd_11_2_35 : zz_D zy_areSigns_11_2 35 (.bipush 126) 2 37 := ⟨zq_16 zg_11_2_42.2.2.2.2.2.2.2.2.2.2.2.2.2.2.2.2.2.2.2.2.2.1 zg_11_2_42.2.2.2.2.2.2.2.2.2.2.2.2.2.2.2.2.2.2.2.2.2.2 (by decide), rfl⟩
theorem zg_11_2_37 : zq_at zy_areSigns_11_2.2.1 37 164 ∧ zq_at zy_areSigns_11_2.2.1 38 0 ∧ zq_at zy_areSigns_11_2.2.1 39 5 := by decide +kernel
theorem zd_11_2_37 : zz_B zy_areSigns_11_2 37 (Instr.if_icmp .le) 42 40 := ⟨5, zq_164 zg_11_2_37.1 zg_11_2_37.2.1 zg_11_2_37.2.2 (by decide), rfl, rfl⟩
-- TensorForge$Text areSigns (I)Z
abbrev zr_areSigns_11_2 : Room := { frames := 0, cells := 0, slots := 0, locals := 0 }
def zp_areSigns_11_2 (p0 : Int) (S0 : zz_S) : Int → zz_S → Prop := fun r S => S0 = S ∧ (0 ≤ r ∧ r ≤ 1) ∧ (r = zz_gk p0 4)
theorem zb_areSigns_11_2_2 {g : mm_G} {l : Launch} (p0 : Int) (S0 : zz_S) (n : Nat) (hn : zz_end ≤ n) (G_S0 : zz_G S0) (hp0 : (-2147483648) ≤ p0 ∧ p0 ≤ 2147483647) (x1 : Int) (S : zz_S) (G_S : zz_G S) (F_S : zz_fr [] [] (fun _ _ => False) S0 S) (i2_0 : 0 ≤ x1 ∧ x1 ≤ 4) (i2_1 : zz_gk p0 x1.toNat = 1) (R : Nat) (hR : (4 - x1).toNat = R) (k2 : ∀ (x1 : Int) (S : zz_S), zz_G S → zz_fr [] [] (fun _ _ => False) S0 S → (0 ≤ x1 ∧ x1 ≤ 4) → (zz_gk p0 x1.toNat = 1) → (4 - x1).toNat < R → zz_E g l zy_areSigns_11_2 zr_areSigns_11_2 (zz_QI n (zp_areSigns_11_2 p0 S0)) S n 2 [some (zi p0), some (zi x1)] [] 0 0) : zz_E g l zy_areSigns_11_2 zr_areSigns_11_2 (zz_QI n (zp_areSigns_11_2 p0 S0)) S n 2 [some (zi p0), some (zi x1)] [] 0 0 := by
  refine zz_iload_n (x := x1) rfl zd_11_2_2 ?_
  refine zz_iconst zd_11_2_3 ?_
  refine zz_icmp_ge (by omega) (by omega) zd_11_2_4 (fun c1 => ?_) (fun c1 => ?_)
  · have h49 := zz_gk14 (p := p0) (x := x1) (by omega)
    refine zz_iconst zd_11_2_48 ?_
    exact zz_zret zd_11_2_49 rfl (by omega) (Nat.zero_le _) (Nat.zero_le _) ⟨_, _, rfl, zz_fr.eq F_S, by omega, by omega⟩
  · refine zz_iload_n (x := p0) rfl zd_11_2_7 ?_
    refine zz_bipush (by decide) zd_11_2_8 ?_
    refine zz_iload_n (x := x1) rfl zd_11_2_10 ?_
    refine zz_imul zd_11_2_11 ?_
    refine zz_iushr zd_11_2_12 (fun v2 hv2 ev2 => ?_)
    refine zz_sipush (by decide) zd_11_2_13 ?_
    refine zz_iand (by omega) (by omega) zd_11_2_16 (fun v3 hv3 av3 bv3 ev3 => ?_)
    refine zz_istore_n [some (zi p0), some (zi x1), some (zi v3)] zd_11_2_17 (by decide) rfl ?_
    have hb9 := zz_sgl (p := p0) (x := x1) (by omega) (by assumption) (by assumption)
    have hg9 := zz_gks (p := p0) (x := x1) (by omega) hb9
    refine zz_iload_n (x := v3) rfl zd_11_2_18 ?_
    refine zz_if_eq (by omega) zd_11_2_19 (fun c4 => ?_) (fun c4 => ?_)
    · refine zz_iinc [some (zi p0), some (zi (x1 + 1)), some (zi v3)] zd_11_2_42 rfl rfl ?_
      refine zz_goto zd_11_2_45 ?_
      refine zz_less (ls1 := [some (zi p0), some (zi (x1 + 1))]) ⟨rfl, ⟨rfl, trivial⟩⟩ ?_
      exact k2 (x1 + 1) S G_S F_S (by omega) (by omega) (by omega)
    · refine zz_iload_n (x := v3) rfl zd_11_2_22 ?_
      refine zz_bipush (by decide) zd_11_2_23 ?_
      refine zz_icmp_eq (by omega) (by omega) zd_11_2_25 (fun c5 => ?_) (fun c5 => ?_)
      · refine zz_iinc [some (zi p0), some (zi (x1 + 1)), some (zi v3)] zd_11_2_42 rfl rfl ?_
        refine zz_goto zd_11_2_45 ?_
        refine zz_less (ls1 := [some (zi p0), some (zi (x1 + 1))]) ⟨rfl, ⟨rfl, trivial⟩⟩ ?_
        exact k2 (x1 + 1) S G_S F_S (by omega) (by omega) (by omega)
      · refine zz_iload_n (x := v3) rfl zd_11_2_28 ?_
        refine zz_bipush (by decide) zd_11_2_29 ?_
        refine zz_icmp_lt (by omega) (by omega) zd_11_2_31 (fun c6 => ?_) (fun c6 => ?_)
        · have hz9 := zz_gk4 (p := p0) (x := x1) (by omega) (hg9.2.1 (by omega))
          refine zz_iconst zd_11_2_40 ?_
          exact zz_zret zd_11_2_41 rfl (by omega) (Nat.zero_le _) (Nat.zero_le _) ⟨_, _, rfl, zz_fr.eq F_S, by omega, by omega⟩
        · refine zz_iload_n (x := v3) rfl zd_11_2_34 ?_
          refine zz_bipush (by decide) zd_11_2_35 ?_
          refine zz_icmp_le (by omega) (by omega) zd_11_2_37 (fun c7 => ?_) (fun c7 => ?_)
          · refine zz_iinc [some (zi p0), some (zi (x1 + 1)), some (zi v3)] zd_11_2_42 rfl rfl ?_
            refine zz_goto zd_11_2_45 ?_
            refine zz_less (ls1 := [some (zi p0), some (zi (x1 + 1))]) ⟨rfl, ⟨rfl, trivial⟩⟩ ?_
            exact k2 (x1 + 1) S G_S F_S (by omega) (by omega) (by omega)
          · have hz9 := zz_gk4 (p := p0) (x := x1) (by omega) (hg9.2.1 (by omega))
            refine zz_iconst zd_11_2_40 ?_
            exact zz_zret zd_11_2_41 rfl (by omega) (Nat.zero_le _) (Nat.zero_le _) ⟨_, _, rfl, zz_fr.eq F_S, by omega, by omega⟩
theorem zi_areSigns_11_2 {g : mm_G} {l : Launch} (p0 : Int) (S0 : zz_S) (n : Nat) (hn : zz_end ≤ n) (G_S0 : zz_G S0) (hp0 : (-2147483648) ≤ p0 ∧ p0 ≤ 2147483647) : ∀ N : Nat, (∀ (x1 : Int) (S : zz_S), zz_G S → zz_fr [] [] (fun _ _ => False) S0 S → (0 ≤ x1 ∧ x1 ≤ 4) → (zz_gk p0 x1.toNat = 1) → (4 - x1).toNat < N → zz_E g l zy_areSigns_11_2 zr_areSigns_11_2 (zz_QI n (zp_areSigns_11_2 p0 S0)) S n 2 [some (zi p0), some (zi x1)] [] 0 0) := by
  intro N
  induction N with
  | zero => exact fun x1 S _ _ _ _ h => absurd h (Nat.not_lt_zero _)
  | succ N ih =>
    exact fun x1 S a b j0 j1 hR => zb_areSigns_11_2_2 p0 S0 n hn G_S0 hp0 x1 S a b j0 j1 _ rfl (fun x1 S a b j0 j1 h => ih x1 S a b j0 j1 (Nat.lt_of_lt_of_le h (Nat.le_of_lt_succ hR)))
theorem zc_areSigns_11_2 {g : mm_G} {l : Launch} (p0 : Int) (S0 : zz_S) (n : Nat) (hn : zz_end ≤ n) (G_S0 : zz_G S0) (hp0 : (-2147483648) ≤ p0 ∧ p0 ≤ 2147483647) : mm_Met g l zy_areSigns_11_2 zr_areSigns_11_2 [zi p0] (zz_M S0 n) n (zz_QI n (zp_areSigns_11_2 p0 S0)) := by
  refine zz_enter (by decide) (Nat.le_of_ble_eq_true rfl) (zz_less (ls1 := [some (zi p0)]) ⟨rfl, trivial⟩ ?_)
  have F_S0 : zz_fr [] [] (fun _ _ => False) S0 S0 := zz_fr.refl
  have k2 : ∀ (x1 : Int) (S : zz_S), zz_G S → zz_fr [] [] (fun _ _ => False) S0 S → (0 ≤ x1 ∧ x1 ≤ 4) → (zz_gk p0 x1.toNat = 1) → zz_E g l zy_areSigns_11_2 zr_areSigns_11_2 (zz_QI n (zp_areSigns_11_2 p0 S0)) S n 2 [some (zi p0), some (zi x1)] [] 0 0 := fun x1 S a b j0 j1 => (zi_areSigns_11_2 (g := g) (l := l) p0 S0 n hn G_S0 hp0 _) x1 S a b j0 j1 (Nat.lt_succ_self _)
  refine zz_iconst zd_11_2_0 ?_
  refine zz_istore_n [some (zi p0), some (zi 0)] zd_11_2_1 (by decide) rfl ?_
  refine zz_less (ls1 := [some (zi p0), some (zi 0)]) ⟨rfl, ⟨rfl, trivial⟩⟩ ?_
  exact k2 0 S0 G_S0 F_S0 (by omega) (by exact rfl)
theorem zk_TF_145 : mm_Sl "TensorForge" 145 1 zy_areSigns_11_2 := ⟨zyw_areSigns_11_2, mm_tb_1 1223 (by decide +kernel) rfl, mm_tb_1 1224 (by decide +kernel) rfl⟩
theorem zt_1_11_7 : zz_Thr zy_put_1_11 7 87 149 91 := ⟨by decide +kernel, by decide +kernel, by decide +kernel, by decide +kernel, by decide +kernel⟩
theorem zxl_TF_87_149_91 : mm_Xl "TensorForge" 87 149 91 0 := ⟨mm_tb_1 1048 (by decide +kernel) rfl, mm_tb_1 1049 (by decide +kernel) rfl, mm_tb_1 16 (by decide +kernel) rfl, ⟨38, by decide +kernel⟩, zxa_TF_91⟩
abbrev zy_hasRoomFor_11_3 : mm_Y := (⟨"TensorForge$Text", "hasRoomFor", "(I)Z"⟩, prog_11_method_3_code, 4, (some .boolean))
theorem zyw_hasRoomFor_11_3 : mm_Yw zy_hasRoomFor_11_3 1 := ⟨mm_tb_1 1230 (by decide +kernel) rfl, mm_tb_1 7 (by decide +kernel) rfl, ⟨by decide, by decide⟩, by decide +kernel⟩
theorem zg_1_11_4 : zq_at zy_put_1_11.2.1 4 154 ∧ zq_at zy_put_1_11.2.1 5 0 ∧ zq_at zy_put_1_11.2.1 6 13 ∧ zq_at zy_put_1_11.2.1 17 42 ∧ zq_at zy_put_1_11.2.1 18 180 ∧ zq_at zy_put_1_11.2.1 19 0 ∧ zq_at zy_put_1_11.2.1 20 49 ∧ zq_at zy_put_1_11.2.1 21 27 ∧ zq_at zy_put_1_11.2.1 22 182 ∧ zq_at zy_put_1_11.2.1 23 0 ∧ zq_at zy_put_1_11.2.1 24 151 := by decide +kernel
theorem zd_1_11_4 : zz_B zy_put_1_11 4 (Instr.ifCond .ne) 17 7 := ⟨13, zq_154 zg_1_11_4.1 zg_1_11_4.2.1 zg_1_11_4.2.2.1 (by decide), rfl, rfl⟩
theorem zd_1_11_17 : zz_D zy_put_1_11 17 (.aload_n 0) 1 18 := ⟨zq_42 zg_1_11_4.2.2.2.1, rfl⟩
theorem zd_1_11_18 : zz_D zy_put_1_11 18 (.getfield 49) 3 21 := ⟨zq_180 zg_1_11_4.2.2.2.2.1 zg_1_11_4.2.2.2.2.2.1 zg_1_11_4.2.2.2.2.2.2.1 rfl, rfl⟩
theorem zd_1_11_21 : zz_D zy_put_1_11 21 (.iload_n 1) 1 22 := ⟨zq_27 zg_1_11_4.2.2.2.2.2.2.2.1, rfl⟩
theorem zd_1_11_22 : zz_D zy_put_1_11 22 (.invokevirtual 151) 3 25 := ⟨zq_182 zg_1_11_4.2.2.2.2.2.2.2.2.1 zg_1_11_4.2.2.2.2.2.2.2.2.2.1 zg_1_11_4.2.2.2.2.2.2.2.2.2.2 rfl, rfl⟩
theorem zg_11_3_0 : zq_at zy_hasRoomFor_11_3.2.1 0 3 ∧ zq_at zy_hasRoomFor_11_3.2.1 1 61 ∧ zq_at zy_hasRoomFor_11_3.2.1 2 3 ∧ zq_at zy_hasRoomFor_11_3.2.1 3 62 ∧ zq_at zy_hasRoomFor_11_3.2.1 4 29 ∧ zq_at zy_hasRoomFor_11_3.2.1 5 7 ∧ zq_at zy_hasRoomFor_11_3.2.1 6 162 ∧ zq_at zy_hasRoomFor_11_3.2.1 7 0 ∧ zq_at zy_hasRoomFor_11_3.2.1 8 25 ∧ zq_at zy_hasRoomFor_11_3.2.1 31 42 ∧ zq_at zy_hasRoomFor_11_3.2.1 32 180 ∧ zq_at zy_hasRoomFor_11_3.2.1 33 0 ∧ zq_at zy_hasRoomFor_11_3.2.1 34 15 ∧ zq_at zy_hasRoomFor_11_3.2.1 35 28 ∧ zq_at zy_hasRoomFor_11_3.2.1 36 96 ∧ zq_at zy_hasRoomFor_11_3.2.1 37 17 ∧ zq_at zy_hasRoomFor_11_3.2.1 38 5 ∧ zq_at zy_hasRoomFor_11_3.2.1 39 220 ∧ zq_at zy_hasRoomFor_11_3.2.1 40 163 ∧ zq_at zy_hasRoomFor_11_3.2.1 41 0 ∧ zq_at zy_hasRoomFor_11_3.2.1 42 7 ∧ zq_at zy_hasRoomFor_11_3.2.1 47 3 ∧ zq_at zy_hasRoomFor_11_3.2.1 48 172 ∧ zq_at zy_hasRoomFor_11_3.2.1 43 4 := by decide +kernel
theorem zd_11_3_0 : zz_D zy_hasRoomFor_11_3 0 (.iconst 0) 1 1 := ⟨zq_3 zg_11_3_0.1, rfl⟩
theorem zd_11_3_1 : zz_D zy_hasRoomFor_11_3 1 (.istore_n 2) 1 2 := ⟨zq_61 zg_11_3_0.2.1, rfl⟩
theorem zd_11_3_2 : zz_D zy_hasRoomFor_11_3 2 (.iconst 0) 1 3 := ⟨zq_3 zg_11_3_0.2.2.1, rfl⟩
theorem zd_11_3_3 : zz_D zy_hasRoomFor_11_3 3 (.istore_n 3) 1 4 := ⟨zq_62 zg_11_3_0.2.2.2.1, rfl⟩
theorem zd_11_3_4 : zz_D zy_hasRoomFor_11_3 4 (.iload_n 3) 1 5 := ⟨zq_29 zg_11_3_0.2.2.2.2.1, rfl⟩
theorem zd_11_3_5 : zz_D zy_hasRoomFor_11_3 5 (.iconst 4) 1 6 := ⟨zq_7 zg_11_3_0.2.2.2.2.2.1, rfl⟩
theorem zd_11_3_6 : zz_B zy_hasRoomFor_11_3 6 (Instr.if_icmp .ge) 31 9 := ⟨25, zq_162 zg_11_3_0.2.2.2.2.2.2.1 zg_11_3_0.2.2.2.2.2.2.2.1 zg_11_3_0.2.2.2.2.2.2.2.2.1 (by decide), rfl, rfl⟩
theorem zd_11_3_31 : zz_D zy_hasRoomFor_11_3 31 (.aload_n 0) 1 32 := ⟨zq_42 zg_11_3_0.2.2.2.2.2.2.2.2.2.1, rfl⟩
theorem zd_11_3_32 : zz_D zy_hasRoomFor_11_3 32 (.getfield 15) 3 35 := ⟨zq_180 zg_11_3_0.2.2.2.2.2.2.2.2.2.2.1 zg_11_3_0.2.2.2.2.2.2.2.2.2.2.2.1 zg_11_3_0.2.2.2.2.2.2.2.2.2.2.2.2.1 rfl, rfl⟩
theorem zd_11_3_35 : zz_D zy_hasRoomFor_11_3 35 (.iload_n 2) 1 36 := ⟨zq_28 zg_11_3_0.2.2.2.2.2.2.2.2.2.2.2.2.2.1, rfl⟩
theorem zd_11_3_36 : zz_D zy_hasRoomFor_11_3 36 (.iadd) 1 37 := ⟨zq_96 zg_11_3_0.2.2.2.2.2.2.2.2.2.2.2.2.2.2.1, rfl⟩
theorem zd_11_3_37 : zz_D zy_hasRoomFor_11_3 37 (.sipush 1500) 3 40 := ⟨zq_17 zg_11_3_0.2.2.2.2.2.2.2.2.2.2.2.2.2.2.2.1 zg_11_3_0.2.2.2.2.2.2.2.2.2.2.2.2.2.2.2.2.1 zg_11_3_0.2.2.2.2.2.2.2.2.2.2.2.2.2.2.2.2.2.1 (by decide), rfl⟩
theorem zd_11_3_40 : zz_B zy_hasRoomFor_11_3 40 (Instr.if_icmp .gt) 47 43 := ⟨7, zq_163 zg_11_3_0.2.2.2.2.2.2.2.2.2.2.2.2.2.2.2.2.2.2.1 zg_11_3_0.2.2.2.2.2.2.2.2.2.2.2.2.2.2.2.2.2.2.2.1 zg_11_3_0.2.2.2.2.2.2.2.2.2.2.2.2.2.2.2.2.2.2.2.2.1 (by decide), rfl, rfl⟩
theorem zd_11_3_47 : zz_D zy_hasRoomFor_11_3 47 (.iconst 0) 1 48 := ⟨zq_3 zg_11_3_0.2.2.2.2.2.2.2.2.2.2.2.2.2.2.2.2.2.2.2.2.2.1, rfl⟩
theorem zd_11_3_48 : zz_D zy_hasRoomFor_11_3 48 (.ireturn) 1 49 := ⟨zq_172 zg_11_3_0.2.2.2.2.2.2.2.2.2.2.2.2.2.2.2.2.2.2.2.2.2.2.1, rfl⟩
theorem zd_11_3_43 : zz_D zy_hasRoomFor_11_3 43 (.iconst 1) 1 44 := ⟨zq_4 zg_11_3_0.2.2.2.2.2.2.2.2.2.2.2.2.2.2.2.2.2.2.2.2.2.2.2, rfl⟩
theorem zg_11_3_44 : zq_at zy_hasRoomFor_11_3.2.1 44 167 ∧ zq_at zy_hasRoomFor_11_3.2.1 45 0 ∧ zq_at zy_hasRoomFor_11_3.2.1 46 4 ∧ zq_at zy_hasRoomFor_11_3.2.1 9 27 ∧ zq_at zy_hasRoomFor_11_3.2.1 10 16 ∧ zq_at zy_hasRoomFor_11_3.2.1 11 8 ∧ zq_at zy_hasRoomFor_11_3.2.1 12 29 ∧ zq_at zy_hasRoomFor_11_3.2.1 13 104 ∧ zq_at zy_hasRoomFor_11_3.2.1 14 124 ∧ zq_at zy_hasRoomFor_11_3.2.1 15 17 ∧ zq_at zy_hasRoomFor_11_3.2.1 16 0 ∧ zq_at zy_hasRoomFor_11_3.2.1 17 255 ∧ zq_at zy_hasRoomFor_11_3.2.1 18 126 ∧ zq_at zy_hasRoomFor_11_3.2.1 19 153 ∧ zq_at zy_hasRoomFor_11_3.2.1 20 0 ∧ zq_at zy_hasRoomFor_11_3.2.1 21 6 ∧ zq_at zy_hasRoomFor_11_3.2.1 25 132 ∧ zq_at zy_hasRoomFor_11_3.2.1 26 3 ∧ zq_at zy_hasRoomFor_11_3.2.1 27 1 ∧ zq_at zy_hasRoomFor_11_3.2.1 28 167 ∧ zq_at zy_hasRoomFor_11_3.2.1 29 255 ∧ zq_at zy_hasRoomFor_11_3.2.1 30 232 := by decide +kernel
theorem zd_11_3_44 : zz_B zy_hasRoomFor_11_3 44 Instr.goto 48 47 := ⟨4, zq_167 zg_11_3_44.1 zg_11_3_44.2.1 zg_11_3_44.2.2.1 (by decide), rfl, rfl⟩
theorem zd_11_3_9 : zz_D zy_hasRoomFor_11_3 9 (.iload_n 1) 1 10 := ⟨zq_27 zg_11_3_44.2.2.2.1, rfl⟩
theorem zd_11_3_10 : zz_D zy_hasRoomFor_11_3 10 (.bipush 8) 2 12 := ⟨zq_16 zg_11_3_44.2.2.2.2.1 zg_11_3_44.2.2.2.2.2.1 (by decide), rfl⟩
theorem zd_11_3_12 : zz_D zy_hasRoomFor_11_3 12 (.iload_n 3) 1 13 := ⟨zq_29 zg_11_3_44.2.2.2.2.2.2.1, rfl⟩
theorem zd_11_3_13 : zz_D zy_hasRoomFor_11_3 13 (.imul) 1 14 := ⟨zq_104 zg_11_3_44.2.2.2.2.2.2.2.1, rfl⟩
theorem zd_11_3_14 : zz_D zy_hasRoomFor_11_3 14 (.iushr) 1 15 := ⟨zq_124 zg_11_3_44.2.2.2.2.2.2.2.2.1, rfl⟩
theorem zd_11_3_15 : zz_D zy_hasRoomFor_11_3 15 (.sipush 255) 3 18 := ⟨zq_17 zg_11_3_44.2.2.2.2.2.2.2.2.2.1 zg_11_3_44.2.2.2.2.2.2.2.2.2.2.1 zg_11_3_44.2.2.2.2.2.2.2.2.2.2.2.1 (by decide), rfl⟩
theorem zd_11_3_18 : zz_D zy_hasRoomFor_11_3 18 (.iand) 1 19 := ⟨zq_126 zg_11_3_44.2.2.2.2.2.2.2.2.2.2.2.2.1, rfl⟩
theorem zd_11_3_19 : zz_B zy_hasRoomFor_11_3 19 (Instr.ifCond .eq) 25 22 := ⟨6, zq_153 zg_11_3_44.2.2.2.2.2.2.2.2.2.2.2.2.2.1 zg_11_3_44.2.2.2.2.2.2.2.2.2.2.2.2.2.2.1 zg_11_3_44.2.2.2.2.2.2.2.2.2.2.2.2.2.2.2.1 (by decide), rfl, rfl⟩
theorem zd_11_3_25 : zz_D zy_hasRoomFor_11_3 25 (.iinc 3 1) 3 28 := ⟨zq_132 zg_11_3_44.2.2.2.2.2.2.2.2.2.2.2.2.2.2.2.2.1 zg_11_3_44.2.2.2.2.2.2.2.2.2.2.2.2.2.2.2.2.2.1 zg_11_3_44.2.2.2.2.2.2.2.2.2.2.2.2.2.2.2.2.2.2.1 (by decide), rfl⟩
theorem zd_11_3_28 : zz_B zy_hasRoomFor_11_3 28 Instr.goto 4 31 := ⟨(-24), zq_167 zg_11_3_44.2.2.2.2.2.2.2.2.2.2.2.2.2.2.2.2.2.2.2.1 zg_11_3_44.2.2.2.2.2.2.2.2.2.2.2.2.2.2.2.2.2.2.2.2.1 zg_11_3_44.2.2.2.2.2.2.2.2.2.2.2.2.2.2.2.2.2.2.2.2.2 (by decide), rfl, rfl⟩
theorem zg_11_3_22 : zq_at zy_hasRoomFor_11_3.2.1 22 132 ∧ zq_at zy_hasRoomFor_11_3.2.1 23 2 ∧ zq_at zy_hasRoomFor_11_3.2.1 24 1 := by decide +kernel
theorem zd_11_3_22 : zz_D zy_hasRoomFor_11_3 22 (.iinc 2 1) 3 25 := ⟨zq_132 zg_11_3_22.1 zg_11_3_22.2.1 zg_11_3_22.2.2 (by decide), rfl⟩
-- TensorForge$Text hasRoomFor (I)Z
abbrev zr_hasRoomFor_11_3 : Room := { frames := 0, cells := 0, slots := 0, locals := 0 }
def zp_hasRoomFor_11_3 (p0 : Int) (S0 : zz_S) : Int → zz_S → Prop := fun r S => S0 = S ∧ (0 ≤ r ∧ r ≤ 1) ∧ ((r = 1 ∧ S0 1070 1 + zz_ct p0 4 ≤ 1500) ∨ (r = 0 ∧ S0 1070 1 + zz_ct p0 4 > 1500))
theorem zb_hasRoomFor_11_3_4 {g : mm_G} {l : Launch} (p0 : Int) (S0 : zz_S) (n : Nat) (hn : zz_end ≤ n) (G_S0 : zz_G S0) (hp0 : (-2147483648) ≤ p0 ∧ p0 ≤ 2147483647) (x2 : Int) (x3 : Int) (S : zz_S) (G_S : zz_G S) (F_S : zz_fr [] [] (fun _ _ => False) S0 S) (i4_0 : 0 ≤ x2 ∧ x2 ≤ 4) (i4_1 : 0 ≤ x3 ∧ x3 ≤ 4) (i4_2 : x2 = zz_ct p0 x3.toNat) (i4_3 : x2 ≤ x3) (R : Nat) (hR : (4 - x3).toNat = R) (k4 : ∀ (x2 : Int) (x3 : Int) (S : zz_S), zz_G S → zz_fr [] [] (fun _ _ => False) S0 S → (0 ≤ x2 ∧ x2 ≤ 4) → (0 ≤ x3 ∧ x3 ≤ 4) → (x2 = zz_ct p0 x3.toNat) → (x2 ≤ x3) → (4 - x3).toNat < R → zz_E g l zy_hasRoomFor_11_3 zr_hasRoomFor_11_3 (zz_QI n (zp_hasRoomFor_11_3 p0 S0)) S n 4 [some (.ref 1070), some (zi p0), some (zi x2), some (zi x3)] [] 0 0) : zz_E g l zy_hasRoomFor_11_3 zr_hasRoomFor_11_3 (zz_QI n (zp_hasRoomFor_11_3 p0 S0)) S n 4 [some (.ref 1070), some (zi p0), some (zi x2), some (zi x3)] [] 0 0 := by
  refine zz_iload_n (x := x3) rfl zd_11_3_4 ?_
  refine zz_iconst zd_11_3_5 ?_
  refine zz_icmp_ge (by omega) (by omega) zd_11_3_6 (fun c1 => ?_) (fun c1 => ?_)
  · have h49 := zz_gk14 (p := p0) (x := x3) (by omega)
    refine zz_aload_n (x := 1070) rfl zd_11_3_31 ?_
    have g2 := zz_G.r G_S0 1070 1 0 1500 rfl rfl
    refine zz_geti (z := S0 1070 1) zd_11_3_32 zf_Text_15 zT_1070 rfl (zz_ltn hn rfl) (zz_rc F_S rfl rfl (fun h => h) rfl) ?_
    refine zz_iload_n (x := x2) rfl zd_11_3_35 ?_
    refine zz_iadd zd_11_3_36 ?_
    refine zz_sipush (by decide) zd_11_3_37 ?_
    refine zz_icmp_gt (by omega) (by omega) zd_11_3_40 (fun c3 => ?_) (fun c3 => ?_)
    · refine zz_iconst zd_11_3_47 ?_
      exact zz_zret zd_11_3_48 rfl (by omega) (Nat.zero_le _) (Nat.zero_le _) ⟨_, _, rfl, zz_fr.eq F_S, by omega, by omega⟩
    · refine zz_iconst zd_11_3_43 ?_
      refine zz_goto zd_11_3_44 ?_
      exact zz_zret zd_11_3_48 rfl (by omega) (Nat.zero_le _) (Nat.zero_le _) ⟨_, _, rfl, zz_fr.eq F_S, by omega, by omega⟩
  · refine zz_iload_n (x := p0) rfl zd_11_3_9 ?_
    refine zz_bipush (by decide) zd_11_3_10 ?_
    refine zz_iload_n (x := x3) rfl zd_11_3_12 ?_
    refine zz_imul zd_11_3_13 ?_
    refine zz_iushr zd_11_3_14 (fun v4 hv4 ev4 => ?_)
    refine zz_sipush (by decide) zd_11_3_15 ?_
    refine zz_iand (by omega) (by omega) zd_11_3_18 (fun v5 hv5 av5 bv5 ev5 => ?_)
    have hb9 := zz_sgl (p := p0) (x := x3) (by omega) (by assumption) (by assumption)
    have hc9 := zz_cty (p := p0) (x := x3) (by omega) hb9
    refine zz_if_eq (by omega) zd_11_3_19 (fun c6 => ?_) (fun c6 => ?_)
    · refine zz_iinc [some (.ref 1070), some (zi p0), some (zi x2), some (zi (x3 + 1))] zd_11_3_25 rfl rfl ?_
      refine zz_goto zd_11_3_28 ?_
      refine zz_less (ls1 := [some (.ref 1070), some (zi p0), some (zi x2), some (zi (x3 + 1))]) ⟨rfl, ⟨rfl, ⟨rfl, ⟨rfl, trivial⟩⟩⟩⟩ ?_
      exact k4 x2 (x3 + 1) S G_S F_S (by omega) (by omega) (by omega) (by omega) (by omega)
    · refine zz_iinc [some (.ref 1070), some (zi p0), some (zi (x2 + 1)), some (zi x3)] zd_11_3_22 rfl rfl ?_
      refine zz_iinc [some (.ref 1070), some (zi p0), some (zi (x2 + 1)), some (zi (x3 + 1))] zd_11_3_25 rfl rfl ?_
      refine zz_goto zd_11_3_28 ?_
      refine zz_less (ls1 := [some (.ref 1070), some (zi p0), some (zi (x2 + 1)), some (zi (x3 + 1))]) ⟨rfl, ⟨rfl, ⟨rfl, ⟨rfl, trivial⟩⟩⟩⟩ ?_
      exact k4 (x2 + 1) (x3 + 1) S G_S F_S (by omega) (by omega) (by omega) (by omega) (by omega)
theorem zi_hasRoomFor_11_3 {g : mm_G} {l : Launch} (p0 : Int) (S0 : zz_S) (n : Nat) (hn : zz_end ≤ n) (G_S0 : zz_G S0) (hp0 : (-2147483648) ≤ p0 ∧ p0 ≤ 2147483647) : ∀ N : Nat, (∀ (x2 : Int) (x3 : Int) (S : zz_S), zz_G S → zz_fr [] [] (fun _ _ => False) S0 S → (0 ≤ x2 ∧ x2 ≤ 4) → (0 ≤ x3 ∧ x3 ≤ 4) → (x2 = zz_ct p0 x3.toNat) → (x2 ≤ x3) → (4 - x3).toNat < N → zz_E g l zy_hasRoomFor_11_3 zr_hasRoomFor_11_3 (zz_QI n (zp_hasRoomFor_11_3 p0 S0)) S n 4 [some (.ref 1070), some (zi p0), some (zi x2), some (zi x3)] [] 0 0) := by
  intro N
  induction N with
  | zero => exact fun x2 x3 S _ _ _ _ _ _ h => absurd h (Nat.not_lt_zero _)
  | succ N ih =>
    exact fun x2 x3 S a b j0 j1 j2 j3 hR => zb_hasRoomFor_11_3_4 p0 S0 n hn G_S0 hp0 x2 x3 S a b j0 j1 j2 j3 _ rfl (fun x2 x3 S a b j0 j1 j2 j3 h => ih x2 x3 S a b j0 j1 j2 j3 (Nat.lt_of_lt_of_le h (Nat.le_of_lt_succ hR)))
theorem zc_hasRoomFor_11_3 {g : mm_G} {l : Launch} (p0 : Int) (S0 : zz_S) (n : Nat) (hn : zz_end ≤ n) (G_S0 : zz_G S0) (hp0 : (-2147483648) ≤ p0 ∧ p0 ≤ 2147483647) : mm_Met g l zy_hasRoomFor_11_3 zr_hasRoomFor_11_3 [.ref 1070, zi p0] (zz_M S0 n) n (zz_QI n (zp_hasRoomFor_11_3 p0 S0)) := by
  refine zz_enter (by decide) (Nat.le_of_ble_eq_true rfl) (zz_less (ls1 := [some (.ref 1070), some (zi p0)]) ⟨rfl, ⟨rfl, trivial⟩⟩ ?_)
  have F_S0 : zz_fr [] [] (fun _ _ => False) S0 S0 := zz_fr.refl
  have k4 : ∀ (x2 : Int) (x3 : Int) (S : zz_S), zz_G S → zz_fr [] [] (fun _ _ => False) S0 S → (0 ≤ x2 ∧ x2 ≤ 4) → (0 ≤ x3 ∧ x3 ≤ 4) → (x2 = zz_ct p0 x3.toNat) → (x2 ≤ x3) → zz_E g l zy_hasRoomFor_11_3 zr_hasRoomFor_11_3 (zz_QI n (zp_hasRoomFor_11_3 p0 S0)) S n 4 [some (.ref 1070), some (zi p0), some (zi x2), some (zi x3)] [] 0 0 := fun x2 x3 S a b j0 j1 j2 j3 => (zi_hasRoomFor_11_3 (g := g) (l := l) p0 S0 n hn G_S0 hp0 _) x2 x3 S a b j0 j1 j2 j3 (Nat.lt_succ_self _)
  refine zz_iconst zd_11_3_0 ?_
  refine zz_istore_n [some (.ref 1070), some (zi p0), some (zi 0)] zd_11_3_1 (by decide) rfl ?_
  refine zz_iconst zd_11_3_2 ?_
  refine zz_istore_n [some (.ref 1070), some (zi p0), some (zi 0), some (zi 0)] zd_11_3_3 (by decide) rfl ?_
  refine zz_less (ls1 := [some (.ref 1070), some (zi p0), some (zi 0), some (zi 0)]) ⟨rfl, ⟨rfl, ⟨rfl, ⟨rfl, trivial⟩⟩⟩⟩ ?_
  exact k4 0 0 S0 G_S0 F_S0 (by omega) (by omega) (by exact rfl) (by omega)
theorem zk_TF_151 : mm_Vl "TensorForge" 151 6 1 zy_hasRoomFor_11_3 := ⟨zyw_hasRoomFor_11_3, (R_Text, F_Text, 7), rfl, mm_tb_1 1227 (by decide +kernel) rfl, mm_tb_1 1228 (by decide +kernel) rfl, mm_tb_1 1229 (by decide +kernel) rfl⟩
theorem zt_1_11_28 : zz_Thr zy_put_1_11 28 126 154 130 := ⟨by decide +kernel, by decide +kernel, by decide +kernel, by decide +kernel, by decide +kernel⟩
theorem zxl_TF_126_154_130 : mm_Xl "TensorForge" 126 154 130 2 := ⟨mm_tb_1 1176 (by decide +kernel) rfl, mm_tb_1 1177 (by decide +kernel) rfl, mm_tb_1 19 (by decide +kernel) rfl, ⟨39, by decide +kernel⟩, zxa_TF_130⟩
abbrev zy_append_11_4 : mm_Y := (⟨"TensorForge$Text", "append", "(I)V"⟩, prog_11_method_4_code, 4, none)
theorem zyw_append_11_4 : mm_Yw zy_append_11_4 1 := ⟨mm_tb_1 1235 (by decide +kernel) rfl, mm_tb_1 7 (by decide +kernel) rfl, ⟨by decide, by decide⟩, by decide +kernel⟩
theorem zg_1_11_25 : zq_at zy_put_1_11.2.1 25 154 ∧ zq_at zy_put_1_11.2.1 26 0 ∧ zq_at zy_put_1_11.2.1 27 13 ∧ zq_at zy_put_1_11.2.1 38 42 ∧ zq_at zy_put_1_11.2.1 39 180 ∧ zq_at zy_put_1_11.2.1 40 0 ∧ zq_at zy_put_1_11.2.1 41 49 ∧ zq_at zy_put_1_11.2.1 42 27 ∧ zq_at zy_put_1_11.2.1 43 182 ∧ zq_at zy_put_1_11.2.1 44 0 ∧ zq_at zy_put_1_11.2.1 45 156 := by decide +kernel
theorem zd_1_11_25 : zz_B zy_put_1_11 25 (Instr.ifCond .ne) 38 28 := ⟨13, zq_154 zg_1_11_25.1 zg_1_11_25.2.1 zg_1_11_25.2.2.1 (by decide), rfl, rfl⟩
theorem zd_1_11_38 : zz_D zy_put_1_11 38 (.aload_n 0) 1 39 := ⟨zq_42 zg_1_11_25.2.2.2.1, rfl⟩
theorem zd_1_11_39 : zz_D zy_put_1_11 39 (.getfield 49) 3 42 := ⟨zq_180 zg_1_11_25.2.2.2.2.1 zg_1_11_25.2.2.2.2.2.1 zg_1_11_25.2.2.2.2.2.2.1 rfl, rfl⟩
theorem zd_1_11_42 : zz_D zy_put_1_11 42 (.iload_n 1) 1 43 := ⟨zq_27 zg_1_11_25.2.2.2.2.2.2.2.1, rfl⟩
theorem zd_1_11_43 : zz_D zy_put_1_11 43 (.invokevirtual 156) 3 46 := ⟨zq_182 zg_1_11_25.2.2.2.2.2.2.2.2.1 zg_1_11_25.2.2.2.2.2.2.2.2.2.1 zg_1_11_25.2.2.2.2.2.2.2.2.2.2 rfl, rfl⟩
theorem zg_11_4_0 : zq_at zy_append_11_4.2.1 0 3 ∧ zq_at zy_append_11_4.2.1 1 61 ∧ zq_at zy_append_11_4.2.1 2 28 ∧ zq_at zy_append_11_4.2.1 3 7 ∧ zq_at zy_append_11_4.2.1 4 162 ∧ zq_at zy_append_11_4.2.1 5 0 ∧ zq_at zy_append_11_4.2.1 6 57 ∧ zq_at zy_append_11_4.2.1 61 177 ∧ zq_at zy_append_11_4.2.1 7 27 ∧ zq_at zy_append_11_4.2.1 8 16 ∧ zq_at zy_append_11_4.2.1 9 8 ∧ zq_at zy_append_11_4.2.1 10 28 ∧ zq_at zy_append_11_4.2.1 11 104 ∧ zq_at zy_append_11_4.2.1 12 124 ∧ zq_at zy_append_11_4.2.1 13 17 ∧ zq_at zy_append_11_4.2.1 14 0 ∧ zq_at zy_append_11_4.2.1 15 255 ∧ zq_at zy_append_11_4.2.1 16 126 ∧ zq_at zy_append_11_4.2.1 17 62 ∧ zq_at zy_append_11_4.2.1 18 29 ∧ zq_at zy_append_11_4.2.1 19 153 ∧ zq_at zy_append_11_4.2.1 20 0 ∧ zq_at zy_append_11_4.2.1 21 36 := by decide +kernel
theorem zd_11_4_0 : zz_D zy_append_11_4 0 (.iconst 0) 1 1 := ⟨zq_3 zg_11_4_0.1, rfl⟩
theorem zd_11_4_1 : zz_D zy_append_11_4 1 (.istore_n 2) 1 2 := ⟨zq_61 zg_11_4_0.2.1, rfl⟩
theorem zd_11_4_2 : zz_D zy_append_11_4 2 (.iload_n 2) 1 3 := ⟨zq_28 zg_11_4_0.2.2.1, rfl⟩
theorem zd_11_4_3 : zz_D zy_append_11_4 3 (.iconst 4) 1 4 := ⟨zq_7 zg_11_4_0.2.2.2.1, rfl⟩
theorem zd_11_4_4 : zz_B zy_append_11_4 4 (Instr.if_icmp .ge) 61 7 := ⟨57, zq_162 zg_11_4_0.2.2.2.2.1 zg_11_4_0.2.2.2.2.2.1 zg_11_4_0.2.2.2.2.2.2.1 (by decide), rfl, rfl⟩
theorem zd_11_4_61 : zz_D zy_append_11_4 61 (.return_) 1 62 := ⟨zq_177 zg_11_4_0.2.2.2.2.2.2.2.1, rfl⟩
theorem zd_11_4_7 : zz_D zy_append_11_4 7 (.iload_n 1) 1 8 := ⟨zq_27 zg_11_4_0.2.2.2.2.2.2.2.2.1, rfl⟩
theorem zd_11_4_8 : zz_D zy_append_11_4 8 (.bipush 8) 2 10 := ⟨zq_16 zg_11_4_0.2.2.2.2.2.2.2.2.2.1 zg_11_4_0.2.2.2.2.2.2.2.2.2.2.1 (by decide), rfl⟩
theorem zd_11_4_10 : zz_D zy_append_11_4 10 (.iload_n 2) 1 11 := ⟨zq_28 zg_11_4_0.2.2.2.2.2.2.2.2.2.2.2.1, rfl⟩
theorem zd_11_4_11 : zz_D zy_append_11_4 11 (.imul) 1 12 := ⟨zq_104 zg_11_4_0.2.2.2.2.2.2.2.2.2.2.2.2.1, rfl⟩
theorem zd_11_4_12 : zz_D zy_append_11_4 12 (.iushr) 1 13 := ⟨zq_124 zg_11_4_0.2.2.2.2.2.2.2.2.2.2.2.2.2.1, rfl⟩
theorem zd_11_4_13 : zz_D zy_append_11_4 13 (.sipush 255) 3 16 := ⟨zq_17 zg_11_4_0.2.2.2.2.2.2.2.2.2.2.2.2.2.2.1 zg_11_4_0.2.2.2.2.2.2.2.2.2.2.2.2.2.2.2.1 zg_11_4_0.2.2.2.2.2.2.2.2.2.2.2.2.2.2.2.2.1 (by decide), rfl⟩
theorem zd_11_4_16 : zz_D zy_append_11_4 16 (.iand) 1 17 := ⟨zq_126 zg_11_4_0.2.2.2.2.2.2.2.2.2.2.2.2.2.2.2.2.2.1, rfl⟩
theorem zd_11_4_17 : zz_D zy_append_11_4 17 (.istore_n 3) 1 18 := ⟨zq_62 zg_11_4_0.2.2.2.2.2.2.2.2.2.2.2.2.2.2.2.2.2.2.1, rfl⟩
theorem zd_11_4_18 : zz_D zy_append_11_4 18 (.iload_n 3) 1 19 := ⟨zq_29 zg_11_4_0.2.2.2.2.2.2.2.2.2.2.2.2.2.2.2.2.2.2.2.1, rfl⟩
theorem zd_11_4_19 : zz_B zy_append_11_4 19 (Instr.ifCond .eq) 55 22 := ⟨36, zq_153 zg_11_4_0.2.2.2.2.2.2.2.2.2.2.2.2.2.2.2.2.2.2.2.2.1 zg_11_4_0.2.2.2.2.2.2.2.2.2.2.2.2.2.2.2.2.2.2.2.2.2.1 zg_11_4_0.2.2.2.2.2.2.2.2.2.2.2.2.2.2.2.2.2.2.2.2.2.2 (by decide), rfl, rfl⟩
theorem zg_11_4_55 : zq_at zy_append_11_4.2.1 55 132 ∧ zq_at zy_append_11_4.2.1 56 2 ∧ zq_at zy_append_11_4.2.1 57 1 ∧ zq_at zy_append_11_4.2.1 58 167 ∧ zq_at zy_append_11_4.2.1 59 255 ∧ zq_at zy_append_11_4.2.1 60 200 ∧ zq_at zy_append_11_4.2.1 22 42 ∧ zq_at zy_append_11_4.2.1 23 180 ∧ zq_at zy_append_11_4.2.1 24 0 ∧ zq_at zy_append_11_4.2.1 25 15 ∧ zq_at zy_append_11_4.2.1 26 42 ∧ zq_at zy_append_11_4.2.1 27 180 ∧ zq_at zy_append_11_4.2.1 28 0 ∧ zq_at zy_append_11_4.2.1 29 9 ∧ zq_at zy_append_11_4.2.1 30 190 ∧ zq_at zy_append_11_4.2.1 31 162 ∧ zq_at zy_append_11_4.2.1 32 0 ∧ zq_at zy_append_11_4.2.1 33 24 ∧ zq_at zy_append_11_4.2.1 34 42 ∧ zq_at zy_append_11_4.2.1 35 180 ∧ zq_at zy_append_11_4.2.1 36 0 ∧ zq_at zy_append_11_4.2.1 37 9 ∧ zq_at zy_append_11_4.2.1 38 42 := by decide +kernel
theorem zd_11_4_55 : zz_D zy_append_11_4 55 (.iinc 2 1) 3 58 := ⟨zq_132 zg_11_4_55.1 zg_11_4_55.2.1 zg_11_4_55.2.2.1 (by decide), rfl⟩
theorem zd_11_4_58 : zz_B zy_append_11_4 58 Instr.goto 2 61 := ⟨(-56), zq_167 zg_11_4_55.2.2.2.1 zg_11_4_55.2.2.2.2.1 zg_11_4_55.2.2.2.2.2.1 (by decide), rfl, rfl⟩
theorem zd_11_4_22 : zz_D zy_append_11_4 22 (.aload_n 0) 1 23 := ⟨zq_42 zg_11_4_55.2.2.2.2.2.2.1, rfl⟩
theorem zd_11_4_23 : zz_D zy_append_11_4 23 (.getfield 15) 3 26 := ⟨zq_180 zg_11_4_55.2.2.2.2.2.2.2.1 zg_11_4_55.2.2.2.2.2.2.2.2.1 zg_11_4_55.2.2.2.2.2.2.2.2.2.1 rfl, rfl⟩
theorem zd_11_4_26 : zz_D zy_append_11_4 26 (.aload_n 0) 1 27 := ⟨zq_42 zg_11_4_55.2.2.2.2.2.2.2.2.2.2.1, rfl⟩
theorem zd_11_4_27 : zz_D zy_append_11_4 27 (.getfield 9) 3 30 := ⟨zq_180 zg_11_4_55.2.2.2.2.2.2.2.2.2.2.2.1 zg_11_4_55.2.2.2.2.2.2.2.2.2.2.2.2.1 zg_11_4_55.2.2.2.2.2.2.2.2.2.2.2.2.2.1 rfl, rfl⟩
theorem zd_11_4_30 : zz_D zy_append_11_4 30 (.arraylength) 1 31 := ⟨zq_190 zg_11_4_55.2.2.2.2.2.2.2.2.2.2.2.2.2.2.1, rfl⟩
theorem zd_11_4_31 : zz_B zy_append_11_4 31 (Instr.if_icmp .ge) 55 34 := ⟨24, zq_162 zg_11_4_55.2.2.2.2.2.2.2.2.2.2.2.2.2.2.2.1 zg_11_4_55.2.2.2.2.2.2.2.2.2.2.2.2.2.2.2.2.1 zg_11_4_55.2.2.2.2.2.2.2.2.2.2.2.2.2.2.2.2.2.1 (by decide), rfl, rfl⟩
theorem zd_11_4_34 : zz_D zy_append_11_4 34 (.aload_n 0) 1 35 := ⟨zq_42 zg_11_4_55.2.2.2.2.2.2.2.2.2.2.2.2.2.2.2.2.2.2.1, rfl⟩
theorem zd_11_4_35 : zz_D zy_append_11_4 35 (.getfield 9) 3 38 := ⟨zq_180 zg_11_4_55.2.2.2.2.2.2.2.2.2.2.2.2.2.2.2.2.2.2.2.1 zg_11_4_55.2.2.2.2.2.2.2.2.2.2.2.2.2.2.2.2.2.2.2.2.1 zg_11_4_55.2.2.2.2.2.2.2.2.2.2.2.2.2.2.2.2.2.2.2.2.2.1 rfl, rfl⟩
theorem zd_11_4_38 : zz_D zy_append_11_4 38 (.aload_n 0) 1 39 := ⟨zq_42 zg_11_4_55.2.2.2.2.2.2.2.2.2.2.2.2.2.2.2.2.2.2.2.2.2.2, rfl⟩
theorem zg_11_4_39 : zq_at zy_append_11_4.2.1 39 180 ∧ zq_at zy_append_11_4.2.1 40 0 ∧ zq_at zy_append_11_4.2.1 41 15 ∧ zq_at zy_append_11_4.2.1 42 29 ∧ zq_at zy_append_11_4.2.1 43 146 ∧ zq_at zy_append_11_4.2.1 44 85 ∧ zq_at zy_append_11_4.2.1 45 42 ∧ zq_at zy_append_11_4.2.1 46 89 ∧ zq_at zy_append_11_4.2.1 47 180 ∧ zq_at zy_append_11_4.2.1 48 0 ∧ zq_at zy_append_11_4.2.1 49 15 ∧ zq_at zy_append_11_4.2.1 50 4 ∧ zq_at zy_append_11_4.2.1 51 96 ∧ zq_at zy_append_11_4.2.1 52 181 ∧ zq_at zy_append_11_4.2.1 53 0 ∧ zq_at zy_append_11_4.2.1 54 15 := by decide +kernel
theorem zd_11_4_39 : zz_D zy_append_11_4 39 (.getfield 15) 3 42 := ⟨zq_180 zg_11_4_39.1 zg_11_4_39.2.1 zg_11_4_39.2.2.1 rfl, rfl⟩
theorem zd_11_4_42 : zz_D zy_append_11_4 42 (.iload_n 3) 1 43 := ⟨zq_29 zg_11_4_39.2.2.2.1, rfl⟩
theorem zd_11_4_43 : zz_D zy_append_11_4 43 (.i2c) 1 44 := ⟨zq_146 zg_11_4_39.2.2.2.2.1, rfl⟩
theorem zd_11_4_44 : zz_D zy_append_11_4 44 (.castore) 1 45 := ⟨zq_85 zg_11_4_39.2.2.2.2.2.1, rfl⟩
theorem zd_11_4_45 : zz_D zy_append_11_4 45 (.aload_n 0) 1 46 := ⟨zq_42 zg_11_4_39.2.2.2.2.2.2.1, rfl⟩
theorem zd_11_4_46 : zz_D zy_append_11_4 46 (.dup) 1 47 := ⟨zq_89 zg_11_4_39.2.2.2.2.2.2.2.1, rfl⟩
theorem zd_11_4_47 : zz_D zy_append_11_4 47 (.getfield 15) 3 50 := ⟨zq_180 zg_11_4_39.2.2.2.2.2.2.2.2.1 zg_11_4_39.2.2.2.2.2.2.2.2.2.1 zg_11_4_39.2.2.2.2.2.2.2.2.2.2.1 rfl, rfl⟩
theorem zd_11_4_50 : zz_D zy_append_11_4 50 (.iconst 1) 1 51 := ⟨zq_4 zg_11_4_39.2.2.2.2.2.2.2.2.2.2.2.1, rfl⟩
theorem zd_11_4_51 : zz_D zy_append_11_4 51 (.iadd) 1 52 := ⟨zq_96 zg_11_4_39.2.2.2.2.2.2.2.2.2.2.2.2.1, rfl⟩
theorem zd_11_4_52 : zz_D zy_append_11_4 52 (.putfield 15) 3 55 := ⟨zq_181 zg_11_4_39.2.2.2.2.2.2.2.2.2.2.2.2.2.1 zg_11_4_39.2.2.2.2.2.2.2.2.2.2.2.2.2.2.1 zg_11_4_39.2.2.2.2.2.2.2.2.2.2.2.2.2.2.2 rfl, rfl⟩
-- TensorForge$Text append (I)V
abbrev zr_append_11_4 : Room := { frames := 0, cells := 0, slots := 0, locals := 0 }
def zp_append_11_4 (p0 : Int) (S0 : zz_S) : zz_S → Prop := fun S => zz_G S ∧ zz_fr [(1070, 1)] [1071] (fun _ _ => False) S0 S ∧ (S 1070 1 = S0 1070 1 + zz_ct p0 4) ∧ (∀ u : Nat, S 1071 u = zt_tx (S0 1071) (S0 1070 1) p0 4 u)
theorem zb_append_11_4_2 {g : mm_G} {l : Launch} (p0 : Int) (S0 : zz_S) (n : Nat) (hn : zz_end ≤ n) (G_S0 : zz_G S0) (hp0 : (-2147483648) ≤ p0 ∧ p0 ≤ 2147483647) (hq : S0 1070 1 + zz_ct p0 4 ≤ 1500) (x2 : Int) (S : zz_S) (G_S : zz_G S) (F_S : zz_fr [(1070, 1)] [1071] (fun _ _ => False) S0 S) (i2_0 : 0 ≤ x2 ∧ x2 ≤ 4) (i2_1 : S 1070 1 = S0 1070 1 + zz_ct p0 x2.toNat) (i2_2 : ∀ u : Nat, S 1071 u = zt_tx (S0 1071) (S0 1070 1) p0 x2.toNat u) (R : Nat) (hR : (4 - x2).toNat = R) (k2 : ∀ (x2 : Int) (S : zz_S), zz_G S → zz_fr [(1070, 1)] [1071] (fun _ _ => False) S0 S → (0 ≤ x2 ∧ x2 ≤ 4) → (S 1070 1 = S0 1070 1 + zz_ct p0 x2.toNat) → (∀ u : Nat, S 1071 u = zt_tx (S0 1071) (S0 1070 1) p0 x2.toNat u) → (4 - x2).toNat < R → zz_E g l zy_append_11_4 zr_append_11_4 (zz_QV n (zp_append_11_4 p0 S0)) S n 2 [some (.ref 1070), some (zi p0), some (zi x2)] [] 0 0) : zz_E g l zy_append_11_4 zr_append_11_4 (zz_QV n (zp_append_11_4 p0 S0)) S n 2 [some (.ref 1070), some (zi p0), some (zi x2)] [] 0 0 := by
  refine zz_iload_n (x := x2) rfl zd_11_4_2 ?_
  refine zz_iconst zd_11_4_3 ?_
  refine zz_icmp_ge (by omega) (by omega) zd_11_4_4 (fun c2 => ?_) (fun c2 => ?_)
  · have h49 := zz_gk14 (p := p0) (x := x2) (by omega)
    have g3 := zz_G.r G_S 1070 1 0 1500 rfl rfl
    exact zz_vret zd_11_4_61 rfl (Nat.zero_le _) (Nat.zero_le _) ⟨_, rfl, G_S, F_S, by omega, fun u => (by have e9 : x2.toNat = 4 := (by omega); have h9 := i2_2 u; rw [e9] at h9; exact h9)⟩
  · refine zz_iload_n (x := p0) rfl zd_11_4_7 ?_
    refine zz_bipush (by decide) zd_11_4_8 ?_
    refine zz_iload_n (x := x2) rfl zd_11_4_10 ?_
    refine zz_imul zd_11_4_11 ?_
    refine zz_iushr zd_11_4_12 (fun v4 hv4 ev4 => ?_)
    refine zz_sipush (by decide) zd_11_4_13 ?_
    refine zz_iand (by omega) (by omega) zd_11_4_16 (fun v5 hv5 av5 bv5 ev5 => ?_)
    refine zz_istore_n [some (.ref 1070), some (zi p0), some (zi x2), some (zi v5)] zd_11_4_17 (by decide) rfl ?_
    have hb9 := zz_sgl (p := p0) (x := x2) (by omega) (by assumption) (by assumption)
    have hc9 := zz_cty (p := p0) (x := x2) (by omega) hb9
    have hm9 := zz_ctm (p := p0) (x := x2) (by omega)
    refine zz_iload_n (x := v5) rfl zd_11_4_18 ?_
    refine zz_if_eq (by omega) zd_11_4_19 (fun c6 => ?_) (fun c6 => ?_)
    · refine zz_iinc [some (.ref 1070), some (zi p0), some (zi (x2 + 1)), some (zi v5)] zd_11_4_55 rfl rfl ?_
      refine zz_goto zd_11_4_58 ?_
      have g7 := zz_G.r G_S 1070 1 0 1500 rfl rfl
      refine zz_less (ls1 := [some (.ref 1070), some (zi p0), some (zi (x2 + 1))]) ⟨rfl, ⟨rfl, ⟨rfl, trivial⟩⟩⟩ ?_
      exact k2 (x2 + 1) S G_S F_S (by omega) (by omega) (fun u => (rfl : S 1071 u = S 1071 u).trans ((i2_2 u).trans (zt_tx2 (i := S 1070 1) (by omega) hb9 (by omega) (Or.inl (by omega))))) (by omega)
    · refine zz_aload_n (x := 1070) rfl zd_11_4_22 ?_
      have g8 := zz_G.r G_S 1070 1 0 1500 rfl rfl
      refine zz_geti (z := S 1070 1) zd_11_4_23 zf_Text_15 zT_1070 rfl (zz_ltn hn rfl) rfl ?_
      refine zz_aload_n (x := 1070) rfl zd_11_4_26 ?_
      refine zz_getr (kd := 0) (z := 1071) zd_11_4_27 zf_Text_9 zT_1070 rfl (zz_ltn hn rfl) (zz_G.eq G_S 1070 0 1071 rfl rfl) (by decide) 1071 rfl ?_
      refine zz_alen zd_11_4_30 zT_1071 rfl (zz_ltn hn rfl) ?_
      refine zz_icmp_ge (by omega) (by omega) zd_11_4_31 (fun c9 => ?_) (fun c9 => ?_)
      · refine zz_iinc [some (.ref 1070), some (zi p0), some (zi (x2 + 1)), some (zi v5)] zd_11_4_55 rfl rfl ?_
        refine zz_goto zd_11_4_58 ?_
        refine zz_less (ls1 := [some (.ref 1070), some (zi p0), some (zi (x2 + 1))]) ⟨rfl, ⟨rfl, ⟨rfl, trivial⟩⟩⟩ ?_
        exact k2 (x2 + 1) S G_S F_S (by omega) (by omega) (fun u => (rfl : S 1071 u = S 1071 u).trans ((i2_2 u).trans (zt_tx2 (i := S 1070 1) (by omega) hb9 (by omega) (Or.inl (by omega))))) (by omega)
      · refine zz_aload_n (x := 1070) rfl zd_11_4_34 ?_
        refine zz_getr (kd := 0) (z := 1071) zd_11_4_35 zf_Text_9 zT_1070 rfl (zz_ltn hn rfl) (zz_G.eq G_S 1070 0 1071 rfl rfl) (by decide) 1071 rfl ?_
        refine zz_aload_n (x := 1070) rfl zd_11_4_38 ?_
        refine zz_geti (z := S 1070 1) zd_11_4_39 zf_Text_15 zT_1070 rfl (zz_ltn hn rfl) rfl ?_
        refine zz_iload_n (x := v5) rfl zd_11_4_42 ?_
        refine zz_i2c (by omega) zd_11_4_43 ?_
        refine zz_cast zd_11_4_44 zT_1071 rfl (zz_ltn hn rfl) (by decide) (by omega) (by omega) (fun S10 qS10 => ?_)
        have G_S10 := zz_G.put G_S qS10 0 65535 rfl (by omega)
        have F_S10 := zz_fr.putc F_S qS10 rfl
        refine zz_aload_n (x := 1070) rfl zd_11_4_45 ?_
        refine zz_dup rfl zd_11_4_46 ?_
        refine zz_geti (z := S 1070 1) zd_11_4_47 zf_Text_15 zT_1070 rfl (zz_ltn hn rfl) (zz_ro qS10 (fun h => absurd h.1 (by decide)) rfl) ?_
        refine zz_iconst zd_11_4_50 ?_
        refine zz_iadd zd_11_4_51 ?_
        refine zz_puti zd_11_4_52 zf_Text_15 zT_1070 rfl (zz_ltn hn rfl) (fun S11 qS11 => ?_)
        have G_S11 := zz_G.put G_S10 qS11 0 1500 rfl (by omega)
        have F_S11 := zz_fr.puts F_S10 qS11 rfl
        refine zz_iinc [some (.ref 1070), some (zi p0), some (zi (x2 + 1)), some (zi v5)] zd_11_4_55 rfl rfl ?_
        refine zz_goto zd_11_4_58 ?_
        have e12 : S11 1070 1 = (S 1070 1) + 1 := (zz_rs qS11)
        refine zz_less (ls1 := [some (.ref 1070), some (zi p0), some (zi (x2 + 1))]) ⟨rfl, ⟨rfl, ⟨rfl, trivial⟩⟩⟩ ?_
        exact k2 (x2 + 1) S11 G_S11 F_S11 (by omega) (by omega) (fun u => (Decidable.em (u = (S 1070 1).toNat)).elim (fun h => by subst h; exact (zz_ro qS11 (fun h => absurd h.1 (by decide)) (zz_rs qS10)).trans (zt_tx1 (by omega) hb9 (by omega) (by omega))) (fun h => (zz_ro qS11 (fun h => absurd h.1 (by decide)) (zz_ro qS10 (fun h9 => h h9.2) rfl)).trans ((i2_2 u).trans (zt_tx2 (i := S 1070 1) (by omega) hb9 (by omega) (Or.inr h))))) (by omega)
theorem zi_append_11_4 {g : mm_G} {l : Launch} (p0 : Int) (S0 : zz_S) (n : Nat) (hn : zz_end ≤ n) (G_S0 : zz_G S0) (hp0 : (-2147483648) ≤ p0 ∧ p0 ≤ 2147483647) (hq : S0 1070 1 + zz_ct p0 4 ≤ 1500) : ∀ N : Nat, (∀ (x2 : Int) (S : zz_S), zz_G S → zz_fr [(1070, 1)] [1071] (fun _ _ => False) S0 S → (0 ≤ x2 ∧ x2 ≤ 4) → (S 1070 1 = S0 1070 1 + zz_ct p0 x2.toNat) → (∀ u : Nat, S 1071 u = zt_tx (S0 1071) (S0 1070 1) p0 x2.toNat u) → (4 - x2).toNat < N → zz_E g l zy_append_11_4 zr_append_11_4 (zz_QV n (zp_append_11_4 p0 S0)) S n 2 [some (.ref 1070), some (zi p0), some (zi x2)] [] 0 0) := by
  intro N
  induction N with
  | zero => exact fun x2 S _ _ _ _ _ h => absurd h (Nat.not_lt_zero _)
  | succ N ih =>
    exact fun x2 S a b j0 j1 j2 hR => zb_append_11_4_2 p0 S0 n hn G_S0 hp0 hq x2 S a b j0 j1 j2 _ rfl (fun x2 S a b j0 j1 j2 h => ih x2 S a b j0 j1 j2 (Nat.lt_of_lt_of_le h (Nat.le_of_lt_succ hR)))
theorem zc_append_11_4 {g : mm_G} {l : Launch} (p0 : Int) (S0 : zz_S) (n : Nat) (hn : zz_end ≤ n) (G_S0 : zz_G S0) (hp0 : (-2147483648) ≤ p0 ∧ p0 ≤ 2147483647) (hq : S0 1070 1 + zz_ct p0 4 ≤ 1500) : mm_Met g l zy_append_11_4 zr_append_11_4 [.ref 1070, zi p0] (zz_M S0 n) n (zz_QV n (zp_append_11_4 p0 S0)) := by
  refine zz_enter (by decide) (Nat.le_of_ble_eq_true rfl) (zz_less (ls1 := [some (.ref 1070), some (zi p0)]) ⟨rfl, ⟨rfl, trivial⟩⟩ ?_)
  have F_S0 : zz_fr [(1070, 1)] [1071] (fun _ _ => False) S0 S0 := zz_fr.refl
  have k2 : ∀ (x2 : Int) (S : zz_S), zz_G S → zz_fr [(1070, 1)] [1071] (fun _ _ => False) S0 S → (0 ≤ x2 ∧ x2 ≤ 4) → (S 1070 1 = S0 1070 1 + zz_ct p0 x2.toNat) → (∀ u : Nat, S 1071 u = zt_tx (S0 1071) (S0 1070 1) p0 x2.toNat u) → zz_E g l zy_append_11_4 zr_append_11_4 (zz_QV n (zp_append_11_4 p0 S0)) S n 2 [some (.ref 1070), some (zi p0), some (zi x2)] [] 0 0 := fun x2 S a b j0 j1 j2 => (zi_append_11_4 (g := g) (l := l) p0 S0 n hn G_S0 hp0 hq _) x2 S a b j0 j1 j2 (Nat.lt_succ_self _)
  refine zz_iconst zd_11_4_0 ?_
  refine zz_istore_n [some (.ref 1070), some (zi p0), some (zi 0)] zd_11_4_1 (by decide) rfl ?_
  have g1 := zz_G.r G_S0 1070 1 0 1500 rfl rfl
  refine zz_less (ls1 := [some (.ref 1070), some (zi p0), some (zi 0)]) ⟨rfl, ⟨rfl, ⟨rfl, trivial⟩⟩⟩ ?_
  exact k2 0 S0 G_S0 F_S0 (by omega) (by have h9 : zz_ct p0 (0 : Int).toNat = 0 := rfl; omega) (fun u => rfl)
theorem zk_TF_156 : mm_Vl "TensorForge" 156 6 1 zy_append_11_4 := ⟨zyw_append_11_4, (R_Text, F_Text, 7), rfl, mm_tb_1 1232 (by decide +kernel) rfl, mm_tb_1 1233 (by decide +kernel) rfl, mm_tb_1 1234 (by decide +kernel) rfl⟩
theorem zf_TF_159 : mm_Fl "TensorForge" 159 6 1 .int false := ⟨R_Text, F_Text, 7, t_Text, rfl, i_Text, by decide, mm_tb_1 287 (by decide +kernel) rfl, rfl, t_Text_ok, n_Text, rfl, by decide +kernel⟩
theorem zg_1_11_46 : zq_at zy_put_1_11.2.1 46 42 ∧ zq_at zy_put_1_11.2.1 47 180 ∧ zq_at zy_put_1_11.2.1 48 0 ∧ zq_at zy_put_1_11.2.1 49 49 ∧ zq_at zy_put_1_11.2.1 50 180 ∧ zq_at zy_put_1_11.2.1 51 0 ∧ zq_at zy_put_1_11.2.1 52 159 ∧ zq_at zy_put_1_11.2.1 53 172 := by decide +kernel
theorem zd_1_11_46 : zz_D zy_put_1_11 46 (.aload_n 0) 1 47 := ⟨zq_42 zg_1_11_46.1, rfl⟩
theorem zd_1_11_47 : zz_D zy_put_1_11 47 (.getfield 49) 3 50 := ⟨zq_180 zg_1_11_46.2.1 zg_1_11_46.2.2.1 zg_1_11_46.2.2.2.1 rfl, rfl⟩
theorem zd_1_11_50 : zz_D zy_put_1_11 50 (.getfield 159) 3 53 := ⟨zq_180 zg_1_11_46.2.2.2.2.1 zg_1_11_46.2.2.2.2.2.1 zg_1_11_46.2.2.2.2.2.2.1 rfl, rfl⟩
theorem zd_1_11_53 : zz_D zy_put_1_11 53 (.ireturn) 1 54 := ⟨zq_172 zg_1_11_46.2.2.2.2.2.2.2, rfl⟩
-- TensorForge put (I)I
abbrev zr_put_1_11 : Room := { frames := 6, cells := 1, slots := 6, locals := 82 }
def zp_put_1_11 (p0 : Int) (S0 : zz_S) : Int → zz_S → Prop := fun r S => zz_G S ∧ zz_fr [(1070, 1)] [1071] (fun _ _ => False) S0 S ∧ ((-2147483648) ≤ r ∧ r ≤ 2147483647) ∧ (zz_gk p0 4 = 1) ∧ (S0 1070 1 + zz_ct p0 4 ≤ 1500) ∧ (S 1070 1 = S0 1070 1 + zz_ct p0 4) ∧ (r = S 1070 1) ∧ (∀ u : Nat, S 1071 u = zt_tx (S0 1071) (S0 1070 1) p0 4 u)
def zx_put_1_11 (p0 : Int) (S0 : zz_S) : Nat → zz_S → Prop := fun i S => zz_G S ∧ zz_fr [(1070, 1)] [1071] (fun _ _ => False) S0 S ∧ (i < 4) ∧ ((i = 0 ∧ zz_gk p0 4 = 0) ∨ (i = 2 ∧ zz_gk p0 4 = 1 ∧ S0 1070 1 + zz_ct p0 4 > 1500)) ∧ (S 1070 1 = S0 1070 1) ∧ (∀ u : Nat, S 1071 u = S0 1071 u)
theorem zc_put_1_11 {g : mm_G} {l : Launch} (p0 : Int) (S0 : zz_S) (n : Nat) (hn : zz_end ≤ n) (hfl : l.flags = flags0) (G_S0 : zz_G S0) (hp0 : (-2147483648) ≤ p0 ∧ p0 ≤ 2147483647) : mm_Met g l zy_put_1_11 zr_put_1_11 [.ref 1000, zi p0] (zz_M S0 n) n (zz_XI n (zp_put_1_11 p0 S0) (zx_put_1_11 p0 S0)) := by
  refine zz_enter (by decide) (Nat.le_of_ble_eq_true rfl) (zz_less (ls1 := [some (.ref 1000), some (zi p0)]) ⟨rfl, ⟨rfl, trivial⟩⟩ ?_)
  have F_S0 : zz_fr [(1070, 1)] [1071] (fun _ _ => False) S0 S0 := zz_fr.refl
  refine zz_iload_n (x := p0) rfl zd_1_11_0 ?_
  refine zz_callSI [zi p0] zd_1_11_1 zk_TF_145 rfl rfl ⟨Nat.le_of_ble_eq_true rfl, Nat.le_of_ble_eq_true rfl⟩ ⟨rfl, rfl⟩ (Nat.zero_le _) (Nat.zero_le _) (zc_areSigns_11_2 p0 S0 n hn G_S0 (by omega)) (fun v2 S1 hP => ?_)
  obtain ⟨rfl, o3, o4⟩ := hP
  rcases (by omega : v2 = 0 ∨ v2 = 1) with rfl | rfl
  · refine zz_if_ne (by omega) zd_1_11_4 (fun c5 => ?_) (fun c5 => ?_)
    · exfalso; omega
    · have g6 := zz_G.r G_S0 1070 1 0 1500 rfl rfl
      exact zz_throw (i := 0) hfl hn zt_1_11_7 zyw_put_1_11 zxl_TF_87_149_91 (Nat.le_of_ble_eq_true rfl) (Nat.le_of_ble_eq_true rfl) ⟨Nat.le_of_ble_eq_true rfl, Nat.le_of_ble_eq_true rfl⟩ (Or.inr ⟨_, _, rfl, G_S0, F_S0, by omega, by omega, by omega, fun u => rfl⟩)
  · refine zz_if_ne (by omega) zd_1_11_4 (fun c7 => ?_) (fun c7 => ?_)
    · refine zz_aload_n (x := 1000) rfl zd_1_11_17 ?_
      refine zz_getr (kd := 0) (z := 1070) zd_1_11_18 zf_TF_49 zT_1000 rfl (zz_ltn hn rfl) (zz_G.eq G_S0 1000 2 1070 rfl rfl) (by decide) 1070 rfl ?_
      refine zz_iload_n (x := p0) rfl zd_1_11_21 ?_
      have g8 := zz_G.r G_S0 1070 1 0 1500 rfl rfl
      refine zz_callVI [zi p0] zd_1_11_22 zk_TF_151 zT_1070 (zz_ltn hn rfl) rfl rfl ⟨Nat.le_of_ble_eq_true rfl, Nat.le_of_ble_eq_true rfl⟩ ⟨rfl, rfl⟩ (Nat.zero_le _) (Nat.zero_le _) (zc_hasRoomFor_11_3 p0 S0 n hn G_S0 (by omega)) (fun v10 S9 hP => ?_)
      obtain ⟨rfl, o11, o12⟩ := hP
      rcases (by omega : v10 = 0 ∨ v10 = 1) with rfl | rfl
      · refine zz_if_ne (by omega) zd_1_11_25 (fun c13 => ?_) (fun c13 => ?_)
        · exfalso; omega
        · exact zz_throw (i := 2) hfl hn zt_1_11_28 zyw_put_1_11 zxl_TF_126_154_130 (Nat.le_of_ble_eq_true rfl) (Nat.le_of_ble_eq_true rfl) ⟨Nat.le_of_ble_eq_true rfl, Nat.le_of_ble_eq_true rfl⟩ (Or.inr ⟨_, _, rfl, G_S0, F_S0, by omega, by omega, by omega, fun u => rfl⟩)
      · refine zz_if_ne (by omega) zd_1_11_25 (fun c14 => ?_) (fun c14 => ?_)
        · refine zz_aload_n (x := 1000) rfl zd_1_11_38 ?_
          refine zz_getr (kd := 0) (z := 1070) zd_1_11_39 zf_TF_49 zT_1000 rfl (zz_ltn hn rfl) (zz_G.eq G_S0 1000 2 1070 rfl rfl) (by decide) 1070 rfl ?_
          refine zz_iload_n (x := p0) rfl zd_1_11_42 ?_
          refine zz_callVV [zi p0] zd_1_11_43 zk_TF_156 zT_1070 (zz_ltn hn rfl) rfl rfl ⟨Nat.le_of_ble_eq_true rfl, Nat.le_of_ble_eq_true rfl⟩ ⟨rfl, rfl⟩ (Nat.zero_le _) (Nat.zero_le _) (zc_append_11_4 p0 S0 n hn G_S0 (by omega) (by omega)) (fun S15 hP => ?_)
          obtain ⟨G_S15, fS15, o17, o18⟩ := hP
          have F_S15 := zz_fr.trans F_S0 fS15 rfl zz_nv
          refine zz_aload_n (x := 1000) rfl zd_1_11_46 ?_
          refine zz_getr (kd := 0) (z := 1070) zd_1_11_47 zf_TF_49 zT_1000 rfl (zz_ltn hn rfl) (zz_G.eq G_S15 1000 2 1070 rfl rfl) (by decide) 1070 rfl ?_
          have g19 := zz_G.r G_S15 1070 1 0 1500 rfl rfl
          refine zz_geti (z := S15 1070 1) zd_1_11_50 zf_TF_159 zT_1070 rfl (zz_ltn hn rfl) rfl ?_
          exact zz_iret zd_1_11_53 rfl (Nat.le_of_ble_eq_true rfl) (Nat.le_of_ble_eq_true rfl) (Or.inl ⟨_, _, rfl, G_S15, F_S15, by omega, by omega, by omega, by omega, by omega, o18⟩)
        · exfalso; omega
    · exfalso; omega
abbrev zy_end_1_12 : mm_Y := (⟨"TensorForge", "end", "(I)V"⟩, prog_1_method_12_code, 2, none)
theorem zyw_end_1_12 : mm_Yw zy_end_1_12 1 := ⟨mm_tb_1 1242 (by decide +kernel) rfl, mm_tb_1 1 (by decide +kernel) rfl, ⟨by decide, by decide⟩, by decide +kernel⟩
theorem zt_1_12_15 : zz_Thr zy_end_1_12 15 87 160 91 := ⟨by decide +kernel, by decide +kernel, by decide +kernel, by decide +kernel, by decide +kernel⟩

-- TensorForge$Layer isWithin (III)Z
abbrev zr_isWithin_4_9 : Room := { frames := 0, cells := 0, slots := 0, locals := 0 }
def zp_isWithin_4_9 (p0 : Int) (p1 : Int) (p2 : Int) (S0 : zz_S) : Int → zz_S → Prop := fun r S => S0 = S ∧ (0 ≤ r ∧ r ≤ 1) ∧ ((r = 1 ∧ p1 ≤ p0 ∧ p0 ≤ p2) ∨ (r = 0 ∧ (p0 < p1 ∨ p2 < p0)))
theorem zc_isWithin_4_9 {g : mm_G} {l : Launch} (p0 : Int) (p1 : Int) (p2 : Int) (S0 : zz_S) (n : Nat) (hn : zz_end ≤ n) (G_S0 : zz_G S0) (hp0 : (-2147483648) ≤ p0 ∧ p0 ≤ 2147483647) (hp1 : (-2147483648) ≤ p1 ∧ p1 ≤ 2147483647) (hp2 : (-2147483648) ≤ p2 ∧ p2 ≤ 2147483647) : mm_Met g l zy_isWithin_4_9 zr_isWithin_4_9 [zi p0, zi p1, zi p2] (zz_M S0 n) n (zz_QI n (zp_isWithin_4_9 p0 p1 p2 S0)) := by
  refine zz_enter (by decide) (Nat.le_of_ble_eq_true rfl) (zz_less (ls1 := [some (zi p0), some (zi p1), some (zi p2)]) ⟨rfl, ⟨rfl, ⟨rfl, trivial⟩⟩⟩ ?_)
  refine zz_iload_n (x := p0) rfl zd_4_9_0 ?_
  refine zz_iload_n (x := p1) rfl zd_4_9_1 ?_
  refine zz_icmp_lt (by omega) (by omega) zd_4_9_2 (fun c1 => ?_) (fun c1 => ?_)
  · refine zz_iconst zd_4_9_14 ?_
    exact zz_zret zd_4_9_15 rfl (by omega) (Nat.zero_le _) (Nat.zero_le _) ⟨_, _, rfl, rfl, by omega, by omega⟩
  · refine zz_iload_n (x := p0) rfl zd_4_9_5 ?_
    refine zz_iload_n (x := p2) rfl zd_4_9_6 ?_
    refine zz_icmp_gt (by omega) (by omega) zd_4_9_7 (fun c2 => ?_) (fun c2 => ?_)
    · refine zz_iconst zd_4_9_14 ?_
      exact zz_zret zd_4_9_15 rfl (by omega) (Nat.zero_le _) (Nat.zero_le _) ⟨_, _, rfl, rfl, by omega, by omega⟩
    · refine zz_iconst zd_4_9_10 ?_
      refine zz_goto zd_4_9_11 ?_
      exact zz_zret zd_4_9_15 rfl (by omega) (Nat.zero_le _) (Nat.zero_le _) ⟨_, _, rfl, rfl, by omega, by omega⟩
theorem zk_Network_20 : mm_Sl "TensorForge$Network" 20 3 zy_isWithin_4_9 := ⟨zyw_isWithin_4_9, mm_tb_1 1025 (by decide +kernel) rfl, mm_tb_1 999 (by decide +kernel) rfl⟩
theorem zd_7_2_7 : zz_B zy_inputFits_7_2 7 (Instr.ifCond .eq) 45 10 := ⟨38, by decide +kernel, rfl, rfl⟩
theorem zd_7_2_45 : zz_D zy_inputFits_7_2 45 (.iconst 0) 1 46 := ⟨by decide +kernel, rfl⟩
theorem zd_7_2_46 : zz_D zy_inputFits_7_2 46 (.ireturn) 1 47 := ⟨by decide +kernel, rfl⟩
theorem zd_7_2_10 : zz_D zy_inputFits_7_2 10 (.iload_n 1) 1 11 := ⟨by decide +kernel, rfl⟩
theorem zd_7_2_11 : zz_D zy_inputFits_7_2 11 (.iconst 1) 1 12 := ⟨by decide +kernel, rfl⟩
theorem zd_7_2_12 : zz_D zy_inputFits_7_2 12 (.bipush 63) 2 14 := ⟨by decide +kernel, rfl⟩
theorem zd_7_2_14 : zz_D zy_inputFits_7_2 14 (.invokestatic 20) 3 17 := ⟨by decide +kernel, rfl⟩
theorem zd_7_2_17 : zz_B zy_inputFits_7_2 17 (Instr.ifCond .eq) 45 20 := ⟨28, by decide +kernel, rfl, rfl⟩
theorem zd_7_2_20 : zz_D zy_inputFits_7_2 20 (.iload_n 2) 1 21 := ⟨by decide +kernel, rfl⟩
theorem zd_7_2_21 : zz_D zy_inputFits_7_2 21 (.iconst 1) 1 22 := ⟨by decide +kernel, rfl⟩
theorem zd_7_2_22 : zz_D zy_inputFits_7_2 22 (.bipush 63) 2 24 := ⟨by decide +kernel, rfl⟩
theorem zd_7_2_24 : zz_D zy_inputFits_7_2 24 (.invokestatic 20) 3 27 := ⟨by decide +kernel, rfl⟩
theorem zd_7_2_27 : zz_B zy_inputFits_7_2 27 (Instr.ifCond .eq) 45 30 := ⟨18, by decide +kernel, rfl, rfl⟩
theorem zd_7_2_30 : zz_D zy_inputFits_7_2 30 (.iload_n 0) 1 31 := ⟨by decide +kernel, rfl⟩
theorem zd_7_2_31 : zz_D zy_inputFits_7_2 31 (.iload_n 1) 1 32 := ⟨by decide +kernel, rfl⟩
theorem zd_7_2_32 : zz_D zy_inputFits_7_2 32 (.imul) 1 33 := ⟨by decide +kernel, rfl⟩
theorem zd_7_2_33 : zz_D zy_inputFits_7_2 33 (.iload_n 2) 1 34 := ⟨by decide +kernel, rfl⟩
theorem zd_7_2_34 : zz_D zy_inputFits_7_2 34 (.imul) 1 35 := ⟨by decide +kernel, rfl⟩
theorem zd_7_2_35 : zz_D zy_inputFits_7_2 35 (.sipush 2048) 3 38 := ⟨by decide +kernel, rfl⟩
theorem zd_7_2_38 : zz_B zy_inputFits_7_2 38 (Instr.if_icmp .gt) 45 41 := ⟨7, by decide +kernel, rfl, rfl⟩
theorem zd_7_2_41 : zz_D zy_inputFits_7_2 41 (.iconst 1) 1 42 := ⟨by decide +kernel, rfl⟩
theorem zd_7_2_42 : zz_B zy_inputFits_7_2 42 Instr.goto 46 45 := ⟨4, by decide +kernel, rfl, rfl⟩
-- TensorForge$Network inputFits (III)Z
abbrev zr_inputFits_7_2 : Room := { frames := 1, cells := 0, slots := 0, locals := 14 }
def zp_inputFits_7_2 (p0 : Int) (p1 : Int) (p2 : Int) (S0 : zz_S) : Int → zz_S → Prop := fun r S => S0 = S ∧ (0 ≤ r ∧ r ≤ 1) ∧ (r = 1 → 1 ≤ p2 ∧ p2 ≤ 63)
theorem zc_inputFits_7_2 {g : mm_G} {l : Launch} (p0 : Int) (p1 : Int) (p2 : Int) (S0 : zz_S) (n : Nat) (hn : zz_end ≤ n) (G_S0 : zz_G S0) (hp0 : (-2147483648) ≤ p0 ∧ p0 ≤ 2147483647) (hp1 : (-2147483648) ≤ p1 ∧ p1 ≤ 2147483647) (hp2 : (-2147483648) ≤ p2 ∧ p2 ≤ 2147483647) : mm_Met g l zy_inputFits_7_2 zr_inputFits_7_2 [zi p0, zi p1, zi p2] (zz_M S0 n) n (zz_QI n (zp_inputFits_7_2 p0 p1 p2 S0)) := by
  refine zz_enter (by decide) (Nat.le_of_ble_eq_true rfl) (zz_less (ls1 := [some (zi p0), some (zi p1), some (zi p2)]) ⟨rfl, ⟨rfl, ⟨rfl, trivial⟩⟩⟩ ?_)
  refine zz_iload_n (x := p0) rfl zd_7_2_0 ?_
  refine zz_iconst zd_7_2_1 ?_
  refine zz_bipush (by decide) zd_7_2_2 ?_
  refine zz_callSI [zi p0, zi 1, zi 63] zd_7_2_4 zk_Network_20 rfl rfl ⟨Nat.le_of_ble_eq_true rfl, Nat.le_of_ble_eq_true rfl⟩ ⟨rfl, rfl⟩ (Nat.zero_le _) (Nat.zero_le _) (zc_isWithin_4_9 p0 1 63 S0 n hn G_S0 (by omega) (by omega) (by omega)) (fun v2 S1 hP => ?_)
  obtain ⟨rfl, o3, o4⟩ := hP
  rcases (by omega : v2 = 0 ∨ v2 = 1) with rfl | rfl
  · refine zz_if_eq (by omega) zd_7_2_7 (fun c5 => ?_) (fun c5 => ?_)
    · refine zz_iconst zd_7_2_45 ?_
      exact zz_zret zd_7_2_46 rfl (by omega) (Nat.zero_le _) (Nat.zero_le _) ⟨_, _, rfl, rfl, by omega, by omega⟩
    · exfalso; omega
  · refine zz_if_eq (by omega) zd_7_2_7 (fun c6 => ?_) (fun c6 => ?_)
    · exfalso; omega
    · refine zz_iload_n (x := p1) rfl zd_7_2_10 ?_
      refine zz_iconst zd_7_2_11 ?_
      refine zz_bipush (by decide) zd_7_2_12 ?_
      refine zz_callSI [zi p1, zi 1, zi 63] zd_7_2_14 zk_Network_20 rfl rfl ⟨Nat.le_of_ble_eq_true rfl, Nat.le_of_ble_eq_true rfl⟩ ⟨rfl, rfl⟩ (Nat.zero_le _) (Nat.zero_le _) (zc_isWithin_4_9 p1 1 63 S0 n hn G_S0 (by omega) (by omega) (by omega)) (fun v8 S7 hP => ?_)
      obtain ⟨rfl, o9, o10⟩ := hP
      rcases (by omega : v8 = 0 ∨ v8 = 1) with rfl | rfl
      · refine zz_if_eq (by omega) zd_7_2_17 (fun c11 => ?_) (fun c11 => ?_)
        · refine zz_iconst zd_7_2_45 ?_
          exact zz_zret zd_7_2_46 rfl (by omega) (Nat.zero_le _) (Nat.zero_le _) ⟨_, _, rfl, rfl, by omega, by omega⟩
        · exfalso; omega
      · refine zz_if_eq (by omega) zd_7_2_17 (fun c12 => ?_) (fun c12 => ?_)
        · exfalso; omega
        · refine zz_iload_n (x := p2) rfl zd_7_2_20 ?_
          refine zz_iconst zd_7_2_21 ?_
          refine zz_bipush (by decide) zd_7_2_22 ?_
          refine zz_callSI [zi p2, zi 1, zi 63] zd_7_2_24 zk_Network_20 rfl rfl ⟨Nat.le_of_ble_eq_true rfl, Nat.le_of_ble_eq_true rfl⟩ ⟨rfl, rfl⟩ (Nat.zero_le _) (Nat.zero_le _) (zc_isWithin_4_9 p2 1 63 S0 n hn G_S0 (by omega) (by omega) (by omega)) (fun v14 S13 hP => ?_)
          obtain ⟨rfl, o15, o16⟩ := hP
          rcases (by omega : v14 = 0 ∨ v14 = 1) with rfl | rfl
          · refine zz_if_eq (by omega) zd_7_2_27 (fun c17 => ?_) (fun c17 => ?_)
            · refine zz_iconst zd_7_2_45 ?_
              exact zz_zret zd_7_2_46 rfl (by omega) (Nat.zero_le _) (Nat.zero_le _) ⟨_, _, rfl, rfl, by omega, by omega⟩
            · exfalso; omega
          · refine zz_if_eq (by omega) zd_7_2_27 (fun c18 => ?_) (fun c18 => ?_)
            · exfalso; omega
            · refine zz_iload_n (x := p0) rfl zd_7_2_30 ?_
              refine zz_iload_n (x := p1) rfl zd_7_2_31 ?_
              refine zz_imul zd_7_2_32 ?_
              refine zz_nrm (fun v19 hv19 ev19 => ?_)
              refine zz_iload_n (x := p2) rfl zd_7_2_33 ?_
              refine zz_imul zd_7_2_34 ?_
              refine zz_nrm (fun v20 hv20 ev20 => ?_)
              refine zz_sipush (by decide) zd_7_2_35 ?_
              refine zz_icmp_gt (by omega) (by omega) zd_7_2_38 (fun c21 => ?_) (fun c21 => ?_)
              · refine zz_iconst zd_7_2_45 ?_
                exact zz_zret zd_7_2_46 rfl (by omega) (Nat.zero_le _) (Nat.zero_le _) ⟨_, _, rfl, rfl, by omega, by omega⟩
              · refine zz_iconst zd_7_2_41 ?_
                refine zz_goto zd_7_2_42 ?_
                exact zz_zret zd_7_2_46 rfl (by omega) (Nat.zero_le _) (Nat.zero_le _) ⟨_, _, rfl, rfl, by omega, by omega⟩
theorem zk_TF_210 : mm_Sl "TensorForge" 210 3 zy_inputFits_7_2 := ⟨zyw_inputFits_7_2, mm_tb_1 1350 (by decide +kernel) rfl, mm_tb_1 1023 (by decide +kernel) rfl⟩
theorem zd_1_18_6 : zz_B zy_input_1_18 6 (Instr.ifCond .ne) 19 9 := ⟨13, by decide +kernel, rfl, rfl⟩
theorem zt_1_18_9 : zz_Thr zy_input_1_18 9 87 214 91 := ⟨by decide +kernel, by decide +kernel, by decide +kernel, by decide +kernel, by decide +kernel⟩
theorem zxl_TF_87_214_91 : mm_Xl "TensorForge" 87 214 91 0 := ⟨mm_tb_1 1048 (by decide +kernel) rfl, mm_tb_1 1049 (by decide +kernel) rfl, mm_tb_1 16 (by decide +kernel) rfl, ⟨50, by decide +kernel⟩, zxa_TF_91⟩
theorem zd_1_18_19 : zz_D zy_input_1_18 19 (.aload_n 0) 1 20 := ⟨by decide +kernel, rfl⟩
theorem zd_1_18_20 : zz_D zy_input_1_18 20 (.getfield 10) 3 23 := ⟨by decide +kernel, rfl⟩
theorem zd_1_18_23 : zz_D zy_input_1_18 23 (.iload_n 1) 1 24 := ⟨by decide +kernel, rfl⟩
theorem zd_1_18_24 : zz_D zy_input_1_18 24 (.iload_n 2) 1 25 := ⟨by decide +kernel, rfl⟩
theorem zd_1_18_25 : zz_D zy_input_1_18 25 (.iload_n 3) 1 26 := ⟨by decide +kernel, rfl⟩
theorem zd_1_18_26 : zz_D zy_input_1_18 26 (.invokevirtual 216) 3 29 := ⟨by decide +kernel, rfl⟩
abbrev zy_beginWith_7_3 : mm_Y := (⟨"TensorForge$Network", "beginWith", "(III)V"⟩, prog_7_method_3_code, 4, none)
theorem zyw_beginWith_7_3 : mm_Yw zy_beginWith_7_3 3 := ⟨mm_tb_1 1029 (by decide +kernel) rfl, mm_tb_1 2 (by decide +kernel) rfl, ⟨by decide, by decide⟩, by decide +kernel⟩
theorem zd_7_3_0 : zz_D zy_beginWith_7_3 0 (.aload_n 0) 1 1 := ⟨by decide +kernel, rfl⟩
theorem zd_7_3_1 : zz_D zy_beginWith_7_3 1 (.invokevirtual 24) 3 4 := ⟨by decide +kernel, rfl⟩
theorem zk_Network_24 : mm_Vl "TensorForge$Network" 24 1 0 zy_dropLayers_7_4 := ⟨zyw_dropLayers_7_4, (R_Network, F_Network, 2), rfl, mm_tb_1 1030 (by decide +kernel) rfl, mm_tb_1 1031 (by decide +kernel) rfl, mm_tb_1 1032 (by decide +kernel) rfl⟩
theorem zd_7_3_4 : zz_D zy_beginWith_7_3 4 (.aload_n 0) 1 5 := ⟨by decide +kernel, rfl⟩
theorem zd_7_3_5 : zz_D zy_beginWith_7_3 5 (.getfield 11) 3 8 := ⟨by decide +kernel, rfl⟩
theorem zd_7_3_8 : zz_D zy_beginWith_7_3 8 (.iconst 0) 1 9 := ⟨by decide +kernel, rfl⟩
theorem zd_7_3_9 : zz_D zy_beginWith_7_3 9 (.aaload) 1 10 := ⟨by decide +kernel, rfl⟩
theorem zd_7_3_10 : zz_D zy_beginWith_7_3 10 (.iconst 0) 1 11 := ⟨by decide +kernel, rfl⟩
theorem zd_7_3_11 : zz_D zy_beginWith_7_3 11 (.iconst 0) 1 12 := ⟨by decide +kernel, rfl⟩
theorem zd_7_3_12 : zz_D zy_beginWith_7_3 12 (.iconst 0) 1 13 := ⟨by decide +kernel, rfl⟩
theorem zd_7_3_13 : zz_D zy_beginWith_7_3 13 (.invokevirtual 27) 3 16 := ⟨by decide +kernel, rfl⟩
-- TensorForge$Layer takeForm (III)V
abbrev zr_takeForm_4_3 : Room := { frames := 0, cells := 0, slots := 0, locals := 0 }
def zp_takeForm_4_3 (t : Int) (p0 : Int) (p1 : Int) (p2 : Int) (S0 : zz_S) : zz_S → Prop := fun S => zz_G S ∧ zz_fr [] [] (fun a i => (a = zz_rf 6 t ∧ i = 10) ∨ (a = zz_rf 6 t ∧ i = 11) ∨ (a = zz_rf 6 t ∧ i = 12)) S0 S ∧ (S (zz_rf 6 t) 12 = p2)
theorem zc_takeForm_4_3 {g : mm_G} {l : Launch} (t : Int) (p0 : Int) (p1 : Int) (p2 : Int) (S0 : zz_S) (n : Nat) (hn : zz_end ≤ n) (G_S0 : zz_G S0) (ht : 0 ≤ t ∧ t ≤ 23) (hp0 : (-2147483648) ≤ p0 ∧ p0 ≤ 2147483647) (hp1 : (-2147483648) ≤ p1 ∧ p1 ≤ 2147483647) (hp2 : (-2147483648) ≤ p2 ∧ p2 ≤ 2147483647) : mm_Met g l zy_takeForm_4_3 zr_takeForm_4_3 [.ref (zz_rf 6 t), zi p0, zi p1, zi p2] (zz_M S0 n) n (zz_QV n (zp_takeForm_4_3 t p0 p1 p2 S0)) := by
  refine zz_enter (by decide) (Nat.le_of_ble_eq_true rfl) (zz_less (ls1 := [some (.ref (zz_rf 6 t)), some (zi p0), some (zi p1), some (zi p2)]) ⟨rfl, ⟨rfl, ⟨rfl, ⟨rfl, trivial⟩⟩⟩⟩ ?_)
  have F_S0 : zz_fr [] [] (fun a i => (a = zz_rf 6 t ∧ i = 10) ∨ (a = zz_rf 6 t ∧ i = 11) ∨ (a = zz_rf 6 t ∧ i = 12)) S0 S0 := zz_fr.refl
  have b_t := zz_rf6 (z := t) (by omega)
  refine zz_aload_n (x := zz_rf 6 t) rfl zd_4_3_0 ?_
  refine zz_iload_n (x := p0) rfl zd_4_3_1 ?_
  refine zz_puti zd_4_3_2 zf_Layer_54 (zT_k6 (by omega)) rfl (zN_k6 hn (by omega)) (fun S1 qS1 => ?_)
  have G_S1 := zz_G.put G_S0 qS1 (-2147483648) 2147483647 (zR_k6_10 (by omega)) (by omega)
  have F_S1 := zz_fr.putv F_S0 qS1 (Or.inl ⟨rfl, rfl⟩)
  refine zz_aload_n (x := zz_rf 6 t) rfl zd_4_3_5 ?_
  refine zz_iload_n (x := p1) rfl zd_4_3_6 ?_
  refine zz_puti zd_4_3_7 zf_Layer_57 (zT_k6 (by omega)) rfl (zN_k6 hn (by omega)) (fun S2 qS2 => ?_)
  have G_S2 := zz_G.put G_S1 qS2 (-2147483648) 2147483647 (zR_k6_11 (by omega)) (by omega)
  have F_S2 := zz_fr.putv F_S1 qS2 (Or.inr (Or.inl ⟨rfl, rfl⟩))
  refine zz_aload_n (x := zz_rf 6 t) rfl zd_4_3_10 ?_
  refine zz_iload_n (x := p2) rfl zd_4_3_11 ?_
  refine zz_puti zd_4_3_12 zf_Layer_60 (zT_k6 (by omega)) rfl (zN_k6 hn (by omega)) (fun S3 qS3 => ?_)
  have G_S3 := zz_G.put G_S2 qS3 (-2147483648) 2147483647 (zR_k6_12 (by omega)) (by omega)
  have F_S3 := zz_fr.putv F_S2 qS3 (Or.inr (Or.inr (⟨rfl, rfl⟩)))
  have e4 : S3 (zz_rf 6 t) 12 = p2 := (zz_rs qS3)
  exact zz_vret zd_4_3_15 rfl (Nat.zero_le _) (Nat.zero_le _) ⟨_, rfl, G_S3, F_S3, by omega⟩
-- TensorForge$Layer reset (III)V
abbrev zr_reset_4_2 : Room := { frames := 1, cells := 0, slots := 0, locals := 15 }
def zp_reset_4_2 (t : Int) (p0 : Int) (p1 : Int) (p2 : Int) (S0 : zz_S) : zz_S → Prop := fun S => zz_G S ∧ zz_fr [] [] (fun a i => (a = zz_rf 6 t ∧ i = 0) ∨ (a = zz_rf 6 t ∧ i = 1) ∨ (a = zz_rf 6 t ∧ i = 10) ∨ (a = zz_rf 6 t ∧ i = 11) ∨ (a = zz_rf 6 t ∧ i = 12) ∨ (a = zz_rf 6 t ∧ i = 13) ∨ (a = zz_rf 6 t ∧ i = 14) ∨ (a = zz_rf 6 t ∧ i = 2) ∨ (a = zz_rf 6 t ∧ i = 3) ∨ (a = zz_rf 6 t ∧ i = 4) ∨ (a = zz_rf 6 t ∧ i = 5) ∨ (a = zz_rf 6 t ∧ i = 6) ∨ (a = zz_rf 6 t ∧ i = 7) ∨ (a = zz_rf 6 t ∧ i = 8) ∨ (a = zz_rf 6 t ∧ i = 9)) S0 S ∧ (S (zz_rf 6 t) 0 = p0 ∧ S (zz_rf 6 t) 3 = 1 ∧ S (zz_rf 6 t) 4 = 1 ∧ S (zz_rf 6 t) 12 = 1)
theorem zc_reset_4_2 {g : mm_G} {l : Launch} (t : Int) (p0 : Int) (p1 : Int) (p2 : Int) (S0 : zz_S) (n : Nat) (hn : zz_end ≤ n) (G_S0 : zz_G S0) (ht : 0 ≤ t ∧ t ≤ 23) (hp0 : (-2147483648) ≤ p0 ∧ p0 ≤ 2147483647) (hp1 : (-2147483648) ≤ p1 ∧ p1 ≤ 2147483647) (hp2 : (-2147483648) ≤ p2 ∧ p2 ≤ 2147483647) : mm_Met g l zy_reset_4_2 zr_reset_4_2 [.ref (zz_rf 6 t), zi p0, zi p1, zi p2] (zz_M S0 n) n (zz_QV n (zp_reset_4_2 t p0 p1 p2 S0)) := by
  refine zz_enter (by decide) (Nat.le_of_ble_eq_true rfl) (zz_less (ls1 := [some (.ref (zz_rf 6 t)), some (zi p0), some (zi p1), some (zi p2)]) ⟨rfl, ⟨rfl, ⟨rfl, ⟨rfl, trivial⟩⟩⟩⟩ ?_)
  have F_S0 : zz_fr [] [] (fun a i => (a = zz_rf 6 t ∧ i = 0) ∨ (a = zz_rf 6 t ∧ i = 1) ∨ (a = zz_rf 6 t ∧ i = 10) ∨ (a = zz_rf 6 t ∧ i = 11) ∨ (a = zz_rf 6 t ∧ i = 12) ∨ (a = zz_rf 6 t ∧ i = 13) ∨ (a = zz_rf 6 t ∧ i = 14) ∨ (a = zz_rf 6 t ∧ i = 2) ∨ (a = zz_rf 6 t ∧ i = 3) ∨ (a = zz_rf 6 t ∧ i = 4) ∨ (a = zz_rf 6 t ∧ i = 5) ∨ (a = zz_rf 6 t ∧ i = 6) ∨ (a = zz_rf 6 t ∧ i = 7) ∨ (a = zz_rf 6 t ∧ i = 8) ∨ (a = zz_rf 6 t ∧ i = 9)) S0 S0 := zz_fr.refl
  have b_t := zz_rf6 (z := t) (by omega)
  refine zz_aload_n (x := zz_rf 6 t) rfl zd_4_2_0 ?_
  refine zz_iload_n (x := p0) rfl zd_4_2_1 ?_
  refine zz_puti zd_4_2_2 zf_Layer_13 (zT_k6 (by omega)) rfl (zN_k6 hn (by omega)) (fun S1 qS1 => ?_)
  have G_S1 := zz_G.put G_S0 qS1 (-2147483648) 2147483647 (zR_k6_0 (by omega)) (by omega)
  have F_S1 := zz_fr.putv F_S0 qS1 (Or.inl ⟨rfl, rfl⟩)
  refine zz_aload_n (x := zz_rf 6 t) rfl zd_4_2_5 ?_
  refine zz_iload_n (x := p1) rfl zd_4_2_6 ?_
  refine zz_puti zd_4_2_7 zf_Layer_17 (zT_k6 (by omega)) rfl (zN_k6 hn (by omega)) (fun S2 qS2 => ?_)
  have G_S2 := zz_G.put G_S1 qS2 (-2147483648) 2147483647 (zR_k6_1 (by omega)) (by omega)
  have F_S2 := zz_fr.putv F_S1 qS2 (Or.inr (Or.inl ⟨rfl, rfl⟩))
  refine zz_aload_n (x := zz_rf 6 t) rfl zd_4_2_10 ?_
  refine zz_iload_n (x := p2) rfl zd_4_2_11 ?_
  refine zz_puti zd_4_2_12 zf_Layer_20 (zT_k6 (by omega)) rfl (zN_k6 hn (by omega)) (fun S3 qS3 => ?_)
  have G_S3 := zz_G.put G_S2 qS3 (-2147483648) 2147483647 (zR_k6_2 (by omega)) (by omega)
  have F_S3 := zz_fr.putv F_S2 qS3 (Or.inr (Or.inr (Or.inr (Or.inr (Or.inr (Or.inr (Or.inr (Or.inl ⟨rfl, rfl⟩))))))))
  refine zz_aload_n (x := zz_rf 6 t) rfl zd_4_2_15 ?_
  refine zz_iconst zd_4_2_16 ?_
  refine zz_puti zd_4_2_17 zf_Layer_23 (zT_k6 (by omega)) rfl (zN_k6 hn (by omega)) (fun S4 qS4 => ?_)
  have G_S4 := zz_G.put G_S3 qS4 (-2147483648) 2147483647 (zR_k6_3 (by omega)) (by omega)
  have F_S4 := zz_fr.putv F_S3 qS4 (Or.inr (Or.inr (Or.inr (Or.inr (Or.inr (Or.inr (Or.inr (Or.inr (Or.inl ⟨rfl, rfl⟩)))))))))
  refine zz_aload_n (x := zz_rf 6 t) rfl zd_4_2_20 ?_
  refine zz_iconst zd_4_2_21 ?_
  refine zz_puti zd_4_2_22 zf_Layer_26 (zT_k6 (by omega)) rfl (zN_k6 hn (by omega)) (fun S5 qS5 => ?_)
  have G_S5 := zz_G.put G_S4 qS5 (-2147483648) 2147483647 (zR_k6_4 (by omega)) (by omega)
  have F_S5 := zz_fr.putv F_S4 qS5 (Or.inr (Or.inr (Or.inr (Or.inr (Or.inr (Or.inr (Or.inr (Or.inr (Or.inr (Or.inl ⟨rfl, rfl⟩))))))))))
  refine zz_aload_n (x := zz_rf 6 t) rfl zd_4_2_25 ?_
  refine zz_iconst zd_4_2_26 ?_
  refine zz_puti zd_4_2_27 zf_Layer_29 (zT_k6 (by omega)) rfl (zN_k6 hn (by omega)) (fun S6 qS6 => ?_)
  have G_S6 := zz_G.put G_S5 qS6 (-2147483648) 2147483647 (zR_k6_5 (by omega)) (by omega)
  have F_S6 := zz_fr.putv F_S5 qS6 (Or.inr (Or.inr (Or.inr (Or.inr (Or.inr (Or.inr (Or.inr (Or.inr (Or.inr (Or.inr (Or.inl ⟨rfl, rfl⟩)))))))))))
  refine zz_aload_n (x := zz_rf 6 t) rfl zd_4_2_30 ?_
  refine zz_iconst zd_4_2_31 ?_
  refine zz_puti zd_4_2_32 zf_Layer_32 (zT_k6 (by omega)) rfl (zN_k6 hn (by omega)) (fun S7 qS7 => ?_)
  have G_S7 := zz_G.put G_S6 qS7 (-2147483648) 2147483647 (zR_k6_6 (by omega)) (by omega)
  have F_S7 := zz_fr.putv F_S6 qS7 (Or.inr (Or.inr (Or.inr (Or.inr (Or.inr (Or.inr (Or.inr (Or.inr (Or.inr (Or.inr (Or.inr (Or.inl ⟨rfl, rfl⟩))))))))))))
  refine zz_aload_n (x := zz_rf 6 t) rfl zd_4_2_35 ?_
  refine zz_iconst zd_4_2_36 ?_
  refine zz_puti zd_4_2_37 zf_Layer_35 (zT_k6 (by omega)) rfl (zN_k6 hn (by omega)) (fun S8 qS8 => ?_)
  have G_S8 := zz_G.put G_S7 qS8 (-2147483648) 2147483647 (zR_k6_7 (by omega)) (by omega)
  have F_S8 := zz_fr.putv F_S7 qS8 (Or.inr (Or.inr (Or.inr (Or.inr (Or.inr (Or.inr (Or.inr (Or.inr (Or.inr (Or.inr (Or.inr (Or.inr (Or.inl ⟨rfl, rfl⟩)))))))))))))
  refine zz_aload_n (x := zz_rf 6 t) rfl zd_4_2_40 ?_
  refine zz_iconst zd_4_2_41 ?_
  refine zz_putz zd_4_2_42 zf_Layer_38 (zT_k6 (by omega)) rfl (zN_k6 hn (by omega)) (by omega) (fun S9 qS9 => ?_)
  have G_S9 := zz_G.put G_S8 qS9 0 1 (zR_k6_8 (by omega)) (by omega)
  have F_S9 := zz_fr.putv F_S8 qS9 (Or.inr (Or.inr (Or.inr (Or.inr (Or.inr (Or.inr (Or.inr (Or.inr (Or.inr (Or.inr (Or.inr (Or.inr (Or.inr (Or.inl ⟨rfl, rfl⟩))))))))))))))
  refine zz_aload_n (x := zz_rf 6 t) rfl zd_4_2_45 ?_
  refine zz_iconst zd_4_2_46 ?_
  refine zz_puti zd_4_2_47 zf_Layer_42 (zT_k6 (by omega)) rfl (zN_k6 hn (by omega)) (fun S10 qS10 => ?_)
  have G_S10 := zz_G.put G_S9 qS10 (-2147483648) 2147483647 (zR_k6_9 (by omega)) (by omega)
  have F_S10 := zz_fr.putv F_S9 qS10 (Or.inr (Or.inr (Or.inr (Or.inr (Or.inr (Or.inr (Or.inr (Or.inr (Or.inr (Or.inr (Or.inr (Or.inr (Or.inr (Or.inr (⟨rfl, rfl⟩)))))))))))))))
  refine zz_aload_n (x := zz_rf 6 t) rfl zd_4_2_50 ?_
  refine zz_iconst zd_4_2_51 ?_
  refine zz_iconst zd_4_2_52 ?_
  refine zz_iconst zd_4_2_53 ?_
  refine zz_callVV [zi 1, zi 1, zi 1] zd_4_2_54 zk_Layer_45 (zT_k6 (by omega)) (zN_k6 hn (by omega)) rfl rfl ⟨Nat.le_of_ble_eq_true rfl, Nat.le_of_ble_eq_true rfl⟩ ⟨rfl, rfl⟩ (Nat.zero_le _) (Nat.zero_le _) (zc_takeForm_4_3 t 1 1 1 S10 n hn G_S10 (by omega) (by omega) (by omega) (by omega)) (fun S11 hP => ?_)
  obtain ⟨G_S11, fS11, o13⟩ := hP
  have F_S11 := zz_fr.trans F_S10 fS11 rfl (fun a i h => by rcases h with h | h | h; exact Or.inr (Or.inr (Or.inr (Or.inr (Or.inl h)))); exact Or.inr (Or.inr (Or.inr (Or.inr (Or.inr (Or.inl h))))); exact Or.inr (Or.inr (Or.inr (Or.inr (Or.inr (Or.inr (Or.inl h)))))))
  have b14 := zz_rf6 (z := t) (by omega)
  refine zz_aload_n (x := zz_rf 6 t) rfl zd_4_2_57 ?_
  refine zz_iconst zd_4_2_58 ?_
  refine zz_puti zd_4_2_59 zf_Layer_48 (zT_k6 (by omega)) rfl (zN_k6 hn (by omega)) (fun S15 qS15 => ?_)
  have G_S15 := zz_G.put G_S11 qS15 (-2147483648) 2147483647 (zR_k6_13 (by omega)) (by omega)
  have F_S15 := zz_fr.putv F_S11 qS15 (Or.inr (Or.inr (Or.inr (Or.inr (Or.inr (Or.inl ⟨rfl, rfl⟩))))))
  refine zz_aload_n (x := zz_rf 6 t) rfl zd_4_2_62 ?_
  refine zz_iconst zd_4_2_63 ?_
  refine zz_puti zd_4_2_64 zf_Layer_51 (zT_k6 (by omega)) rfl (zN_k6 hn (by omega)) (fun S16 qS16 => ?_)
  have G_S16 := zz_G.put G_S15 qS16 (-2147483648) 2147483647 (zR_k6_14 (by omega)) (by omega)
  have F_S16 := zz_fr.putv F_S15 qS16 (Or.inr (Or.inr (Or.inr (Or.inr (Or.inr (Or.inr (Or.inl ⟨rfl, rfl⟩)))))))
  have e17 : S16 (zz_rf 6 t) 0 = p0 := (zz_ro qS16 (fun h => absurd h.2 (by decide)) (zz_ro qS15 (fun h => absurd h.2 (by decide)) (zz_rc fS11 (zP_k6 (by omega) rfl) (zQ_k6 (by omega) rfl) (by omega) (zz_ro qS10 (fun h => absurd h.2 (by decide)) (zz_ro qS9 (fun h => absurd h.2 (by decide)) (zz_ro qS8 (fun h => absurd h.2 (by decide)) (zz_ro qS7 (fun h => absurd h.2 (by decide)) (zz_ro qS6 (fun h => absurd h.2 (by decide)) (zz_ro qS5 (fun h => absurd h.2 (by decide)) (zz_ro qS4 (fun h => absurd h.2 (by decide)) (zz_ro qS3 (fun h => absurd h.2 (by decide)) (zz_ro qS2 (fun h => absurd h.2 (by decide)) (zz_rs qS1)))))))))))))
  have e18 : S16 (zz_rf 6 t) 12 = S11 (zz_rf 6 t) 12 := (zz_ro qS16 (fun h => absurd h.2 (by decide)) (zz_ro qS15 (fun h => absurd h.2 (by decide)) rfl))
  have e19 : S16 (zz_rf 6 t) 3 = 1 := (zz_ro qS16 (fun h => absurd h.2 (by decide)) (zz_ro qS15 (fun h => absurd h.2 (by decide)) (zz_rc fS11 (zP_k6 (by omega) rfl) (zQ_k6 (by omega) rfl) (by omega) (zz_ro qS10 (fun h => absurd h.2 (by decide)) (zz_ro qS9 (fun h => absurd h.2 (by decide)) (zz_ro qS8 (fun h => absurd h.2 (by decide)) (zz_ro qS7 (fun h => absurd h.2 (by decide)) (zz_ro qS6 (fun h => absurd h.2 (by decide)) (zz_ro qS5 (fun h => absurd h.2 (by decide)) (zz_rs qS4))))))))))
  have e20 : S16 (zz_rf 6 t) 4 = 1 := (zz_ro qS16 (fun h => absurd h.2 (by decide)) (zz_ro qS15 (fun h => absurd h.2 (by decide)) (zz_rc fS11 (zP_k6 (by omega) rfl) (zQ_k6 (by omega) rfl) (by omega) (zz_ro qS10 (fun h => absurd h.2 (by decide)) (zz_ro qS9 (fun h => absurd h.2 (by decide)) (zz_ro qS8 (fun h => absurd h.2 (by decide)) (zz_ro qS7 (fun h => absurd h.2 (by decide)) (zz_ro qS6 (fun h => absurd h.2 (by decide)) (zz_rs qS5)))))))))
  exact zz_vret zd_4_2_67 rfl (Nat.zero_le _) (Nat.zero_le _) ⟨_, rfl, G_S16, F_S16, by omega⟩
theorem zk_Network_27 : mm_Vl "TensorForge$Network" 27 2 3 zy_reset_4_2 := ⟨zyw_reset_4_2, (R_Layer, F_Layer, 15), rfl, mm_tb_1 1034 (by decide +kernel) rfl, mm_tb_1 50 (by decide +kernel) rfl, mm_tb_1 51 (by decide +kernel) rfl⟩
theorem zd_7_3_16 : zz_D zy_beginWith_7_3 16 (.aload_n 0) 1 17 := ⟨by decide +kernel, rfl⟩
theorem zd_7_3_17 : zz_D zy_beginWith_7_3 17 (.getfield 11) 3 20 := ⟨by decide +kernel, rfl⟩
theorem zd_7_3_20 : zz_D zy_beginWith_7_3 20 (.iconst 0) 1 21 := ⟨by decide +kernel, rfl⟩
theorem zd_7_3_21 : zz_D zy_beginWith_7_3 21 (.aaload) 1 22 := ⟨by decide +kernel, rfl⟩
theorem zd_7_3_22 : zz_D zy_beginWith_7_3 22 (.iload_n 1) 1 23 := ⟨by decide +kernel, rfl⟩
theorem zd_7_3_23 : zz_D zy_beginWith_7_3 23 (.iload_n 2) 1 24 := ⟨by decide +kernel, rfl⟩
theorem zd_7_3_24 : zz_D zy_beginWith_7_3 24 (.iload_n 3) 1 25 := ⟨by decide +kernel, rfl⟩
theorem zd_7_3_25 : zz_D zy_beginWith_7_3 25 (.invokevirtual 31) 3 28 := ⟨by decide +kernel, rfl⟩
theorem zk_Network_31 : mm_Vl "TensorForge$Network" 31 2 3 zy_takeForm_4_3 := ⟨zyw_takeForm_4_3, (R_Layer, F_Layer, 15), rfl, mm_tb_1 1035 (by decide +kernel) rfl, mm_tb_1 54 (by decide +kernel) rfl, mm_tb_1 55 (by decide +kernel) rfl⟩
theorem zd_7_3_28 : zz_D zy_beginWith_7_3 28 (.return_) 1 29 := ⟨by decide +kernel, rfl⟩
-- TensorForge$Network beginWith (III)V
abbrev zr_beginWith_7_3 : Room := { frames := 2, cells := 0, slots := 0, locals := 30 }
def zp_beginWith_7_3 (t : Int) (p0 : Int) (p1 : Int) (p2 : Int) (S0 : zz_S) : zz_S → Prop := fun S => zz_G S ∧ zz_fr [] [] (fun a i => (a = zz_rf 3 t ∧ i = 1) ∨ (a = zz_rf 6 (12 * t + 0) ∧ i = 0) ∨ (a = zz_rf 6 (12 * t + 0) ∧ i = 1) ∨ (a = zz_rf 6 (12 * t + 0) ∧ i = 10) ∨ (a = zz_rf 6 (12 * t + 0) ∧ i = 11) ∨ (a = zz_rf 6 (12 * t + 0) ∧ i = 12) ∨ (a = zz_rf 6 (12 * t + 0) ∧ i = 13) ∨ (a = zz_rf 6 (12 * t + 0) ∧ i = 14) ∨ (a = zz_rf 6 (12 * t + 0) ∧ i = 2) ∨ (a = zz_rf 6 (12 * t + 0) ∧ i = 3) ∨ (a = zz_rf 6 (12 * t + 0) ∧ i = 4) ∨ (a = zz_rf 6 (12 * t + 0) ∧ i = 5) ∨ (a = zz_rf 6 (12 * t + 0) ∧ i = 6) ∨ (a = zz_rf 6 (12 * t + 0) ∧ i = 7) ∨ (a = zz_rf 6 (12 * t + 0) ∧ i = 8) ∨ (a = zz_rf 6 (12 * t + 0) ∧ i = 9)) S0 S ∧ (S (zz_rf 3 t) 1 = 1) ∧ (0 ≤ S (zz_rf 6 (12 * t + 0)) 3 ∧ S (zz_rf 6 (12 * t + 0)) 0 = 0 ∧ S (zz_rf 6 (12 * t + 0)) 4 = 1 ∧ S (zz_rf 6 (12 * t + 0)) 12 ≤ 63 ∧ S (zz_rf 6 (12 * t + 0)) 3 = 1) ∧ (zz_Hc S)
theorem zc_beginWith_7_3 {g : mm_G} {l : Launch} (t : Int) (p0 : Int) (p1 : Int) (p2 : Int) (S0 : zz_S) (n : Nat) (hn : zz_end ≤ n) (G_S0 : zz_G S0) (ht : 0 ≤ t ∧ t ≤ 1) (hp0 : (-2147483648) ≤ p0 ∧ p0 ≤ 2147483647) (hp1 : (-2147483648) ≤ p1 ∧ p1 ≤ 2147483647) (hp2 : 1 ≤ p2 ∧ p2 ≤ 63) (H_S0 : zz_Hc S0) : mm_Met g l zy_beginWith_7_3 zr_beginWith_7_3 [.ref (zz_rf 3 t), zi p0, zi p1, zi p2] (zz_M S0 n) n (zz_QV n (zp_beginWith_7_3 t p0 p1 p2 S0)) := by
  refine zz_enter (by decide) (Nat.le_of_ble_eq_true rfl) (zz_less (ls1 := [some (.ref (zz_rf 3 t)), some (zi p0), some (zi p1), some (zi p2)]) ⟨rfl, ⟨rfl, ⟨rfl, ⟨rfl, trivial⟩⟩⟩⟩ ?_)
  have F_S0 : zz_fr [] [] (fun a i => (a = zz_rf 3 t ∧ i = 1) ∨ (a = zz_rf 6 (12 * t + 0) ∧ i = 0) ∨ (a = zz_rf 6 (12 * t + 0) ∧ i = 1) ∨ (a = zz_rf 6 (12 * t + 0) ∧ i = 10) ∨ (a = zz_rf 6 (12 * t + 0) ∧ i = 11) ∨ (a = zz_rf 6 (12 * t + 0) ∧ i = 12) ∨ (a = zz_rf 6 (12 * t + 0) ∧ i = 13) ∨ (a = zz_rf 6 (12 * t + 0) ∧ i = 14) ∨ (a = zz_rf 6 (12 * t + 0) ∧ i = 2) ∨ (a = zz_rf 6 (12 * t + 0) ∧ i = 3) ∨ (a = zz_rf 6 (12 * t + 0) ∧ i = 4) ∨ (a = zz_rf 6 (12 * t + 0) ∧ i = 5) ∨ (a = zz_rf 6 (12 * t + 0) ∧ i = 6) ∨ (a = zz_rf 6 (12 * t + 0) ∧ i = 7) ∨ (a = zz_rf 6 (12 * t + 0) ∧ i = 8) ∨ (a = zz_rf 6 (12 * t + 0) ∧ i = 9)) S0 S0 := zz_fr.refl
  have b_t := zz_rf3 (z := t) (by omega)
  refine zz_aload_n (x := zz_rf 3 t) rfl zd_7_3_0 ?_
  refine zz_callVV [] zd_7_3_1 zk_Network_24 (zT_k3 (by omega)) (zN_k3 hn (by omega)) rfl rfl ⟨Nat.le_of_ble_eq_true rfl, Nat.le_of_ble_eq_true rfl⟩ ⟨rfl, rfl⟩ (Nat.zero_le _) (Nat.zero_le _) (zc_dropLayers_7_4 t S0 n hn G_S0 (by omega) H_S0) (fun S1 hP => ?_)
  obtain ⟨G_S1, fS1, o3, o4⟩ := hP
  have F_S1 := zz_fr.trans F_S0 fS1 rfl (fun a i h => Or.inr (Or.inr (Or.inl h)))
  have b5 := zz_rf3 (z := t) (by omega)
  refine zz_aload_n (x := zz_rf 3 t) rfl zd_7_3_4 ?_
  refine zz_getr (kd := 0) (z := ((zz_rf 3 t + 1 : Nat) : Int)) zd_7_3_5 zf_Network_11 (zT_k3 (by omega)) rfl (zN_k3 hn (by omega)) (zE_k3a G_S1 (by omega)) (Int.natCast_nonneg _) (zz_rf 3 t + 1) (Int.toNat_natCast _) ?_
  refine zz_iconst zd_7_3_8 ?_
  refine zz_aald (kd := 4) (z := 12 * t + 0) zd_7_3_9 (zT_k3a (by omega)) rfl (zN_k3a hn (by omega)) (by decide) (by omega) (zE_lay G_S1 (by omega) (by omega)) (by omega) (zz_rf 6 (12 * t + 0)) rfl ?_
  refine zz_iconst zd_7_3_10 ?_
  refine zz_iconst zd_7_3_11 ?_
  refine zz_iconst zd_7_3_12 ?_
  refine zz_callVV [zi 0, zi 0, zi 0] zd_7_3_13 zk_Network_27 (zT_k6 (by omega)) (zN_k6 hn (by omega)) rfl rfl ⟨Nat.le_of_ble_eq_true rfl, Nat.le_of_ble_eq_true rfl⟩ ⟨rfl, rfl⟩ (Nat.zero_le _) (Nat.zero_le _) (zc_reset_4_2 (12 * t + 0) 0 0 0 S1 n hn G_S1 (by omega) (by omega) (by omega) (by omega)) (fun S6 hP => ?_)
  obtain ⟨G_S6, fS6, o8⟩ := hP
  have F_S6 := zz_fr.trans F_S1 fS6 rfl (fun a i h => by rcases h with h | h | h | h | h | h | h | h | h | h | h | h | h | h | h; exact Or.inr (Or.inr (Or.inr (Or.inl h))); exact Or.inr (Or.inr (Or.inr (Or.inr (Or.inl h)))); exact Or.inr (Or.inr (Or.inr (Or.inr (Or.inr (Or.inl h))))); exact Or.inr (Or.inr (Or.inr (Or.inr (Or.inr (Or.inr (Or.inl h)))))); exact Or.inr (Or.inr (Or.inr (Or.inr (Or.inr (Or.inr (Or.inr (Or.inl h))))))); exact Or.inr (Or.inr (Or.inr (Or.inr (Or.inr (Or.inr (Or.inr (Or.inr (Or.inl h)))))))); exact Or.inr (Or.inr (Or.inr (Or.inr (Or.inr (Or.inr (Or.inr (Or.inr (Or.inr (Or.inl h))))))))); exact Or.inr (Or.inr (Or.inr (Or.inr (Or.inr (Or.inr (Or.inr (Or.inr (Or.inr (Or.inr (Or.inl h)))))))))); exact Or.inr (Or.inr (Or.inr (Or.inr (Or.inr (Or.inr (Or.inr (Or.inr (Or.inr (Or.inr (Or.inr (Or.inl h))))))))))); exact Or.inr (Or.inr (Or.inr (Or.inr (Or.inr (Or.inr (Or.inr (Or.inr (Or.inr (Or.inr (Or.inr (Or.inr (Or.inl h)))))))))))); exact Or.inr (Or.inr (Or.inr (Or.inr (Or.inr (Or.inr (Or.inr (Or.inr (Or.inr (Or.inr (Or.inr (Or.inr (Or.inr (Or.inl h))))))))))))); exact Or.inr (Or.inr (Or.inr (Or.inr (Or.inr (Or.inr (Or.inr (Or.inr (Or.inr (Or.inr (Or.inr (Or.inr (Or.inr (Or.inr (Or.inl h)))))))))))))); exact Or.inr (Or.inr (Or.inr (Or.inr (Or.inr (Or.inr (Or.inr (Or.inr (Or.inr (Or.inr (Or.inr (Or.inr (Or.inr (Or.inr (Or.inr (Or.inl h))))))))))))))); exact Or.inr (Or.inr (Or.inr (Or.inr (Or.inr (Or.inr (Or.inr (Or.inr (Or.inr (Or.inr (Or.inr (Or.inr (Or.inr (Or.inr (Or.inr (Or.inr (Or.inl h)))))))))))))))); exact Or.inr (Or.inr (Or.inr (Or.inr (Or.inr (Or.inr (Or.inr (Or.inr (Or.inr (Or.inr (Or.inr (Or.inr (Or.inr (Or.inr (Or.inr (Or.inr (Or.inr (h))))))))))))))))))
  have b9 := zz_rf6 (z := (12 * t + 0)) (by omega)
  refine zz_aload_n (x := zz_rf 3 t) rfl zd_7_3_16 ?_
  refine zz_getr (kd := 0) (z := ((zz_rf 3 t + 1 : Nat) : Int)) zd_7_3_17 zf_Network_11 (zT_k3 (by omega)) rfl (zN_k3 hn (by omega)) (zE_k3a G_S6 (by omega)) (Int.natCast_nonneg _) (zz_rf 3 t + 1) (Int.toNat_natCast _) ?_
  refine zz_iconst zd_7_3_20 ?_
  refine zz_aald (kd := 4) (z := 12 * t + 0) zd_7_3_21 (zT_k3a (by omega)) rfl (zN_k3a hn (by omega)) (by decide) (by omega) (zE_lay G_S6 (by omega) (by omega)) (by omega) (zz_rf 6 (12 * t + 0)) rfl ?_
  refine zz_iload_n (x := p0) rfl zd_7_3_22 ?_
  refine zz_iload_n (x := p1) rfl zd_7_3_23 ?_
  refine zz_iload_n (x := p2) rfl zd_7_3_24 ?_
  refine zz_callVV [zi p0, zi p1, zi p2] zd_7_3_25 zk_Network_31 (zT_k6 (by omega)) (zN_k6 hn (by omega)) rfl rfl ⟨Nat.le_of_ble_eq_true rfl, Nat.le_of_ble_eq_true rfl⟩ ⟨rfl, rfl⟩ (Nat.zero_le _) (Nat.zero_le _) (zc_takeForm_4_3 (12 * t + 0) p0 p1 p2 S6 n hn G_S6 (by omega) (by omega) (by omega) (by omega)) (fun S10 hP => ?_)
  obtain ⟨G_S10, fS10, o12⟩ := hP
  have F_S10 := zz_fr.trans F_S6 fS10 rfl (fun a i h => by rcases h with h | h | h; exact Or.inr (Or.inr (Or.inr (Or.inr (Or.inr (Or.inl h))))); exact Or.inr (Or.inr (Or.inr (Or.inr (Or.inr (Or.inr (Or.inl h)))))); exact Or.inr (Or.inr (Or.inr (Or.inr (Or.inr (Or.inr (Or.inr (Or.inl h))))))))
  have e13 : S10 (zz_rf 3 t) 1 = S1 (zz_rf 3 t) 1 := (zz_rc fS10 (zP_k3 (by omega) rfl) (zQ_k3 (by omega) rfl) (by omega) (zz_rc fS6 (zP_k3 (by omega) rfl) (zQ_k3 (by omega) rfl) (by omega) rfl))
  have e14 : S10 (zz_rf 6 (12 * t + 0)) 0 = S6 (zz_rf 6 (12 * t + 0)) 0 := (zz_rc fS10 (zP_k6 (by omega) rfl) (zQ_k6 (by omega) rfl) (by omega) rfl)
  have e15 : S10 (zz_rf 6 (12 * t + 0)) 3 = S6 (zz_rf 6 (12 * t + 0)) 3 := (zz_rc fS10 (zP_k6 (by omega) rfl) (zQ_k6 (by omega) rfl) (by omega) rfl)
  have e16 : S10 (zz_rf 6 (12 * t + 0)) 4 = S6 (zz_rf 6 (12 * t + 0)) 4 := (zz_rc fS10 (zP_k6 (by omega) rfl) (zQ_k6 (by omega) rfl) (by omega) rfl)
  exact zz_vret zd_7_3_28 rfl (Nat.zero_le _) (Nat.zero_le _) ⟨_, rfl, G_S10, F_S10, by omega, by omega, (zz_Hc.one (q := t) (z := 12 * t + 0) F_S10 rfl rfl G_S0 (by omega) (by omega) (fun a i h => by omega) (by omega) (by unfold zz_ly; omega) H_S0)⟩
theorem zk_TF_216 : mm_Vl "TensorForge" 216 1 3 zy_beginWith_7_3 := ⟨zyw_beginWith_7_3, (R_Network, F_Network, 2), rfl, mm_tb_1 1352 (by decide +kernel) rfl, mm_tb_1 1027 (by decide +kernel) rfl, mm_tb_1 1028 (by decide +kernel) rfl⟩
theorem zd_1_18_29 : zz_D zy_input_1_18 29 (.return_) 1 30 := ⟨by decide +kernel, rfl⟩
-- TensorForge input (III)V
abbrev zr_input_1_18 : Room := { frames := 6, cells := 1, slots := 6, locals := 82 }
def zp_input_1_18 (p0 : Int) (p1 : Int) (p2 : Int) (S0 : zz_S) : zz_S → Prop := fun S => zz_G S ∧ zz_fr [] [] (fun a i => (a = zz_rf 3 (S0 1000 7) ∧ i = 1) ∨ (a = zz_rf 6 (12 * (S0 1000 7) + 0) ∧ i = 0) ∨ (a = zz_rf 6 (12 * (S0 1000 7) + 0) ∧ i = 1) ∨ (a = zz_rf 6 (12 * (S0 1000 7) + 0) ∧ i = 10) ∨ (a = zz_rf 6 (12 * (S0 1000 7) + 0) ∧ i = 11) ∨ (a = zz_rf 6 (12 * (S0 1000 7) + 0) ∧ i = 12) ∨ (a = zz_rf 6 (12 * (S0 1000 7) + 0) ∧ i = 13) ∨ (a = zz_rf 6 (12 * (S0 1000 7) + 0) ∧ i = 14) ∨ (a = zz_rf 6 (12 * (S0 1000 7) + 0) ∧ i = 2) ∨ (a = zz_rf 6 (12 * (S0 1000 7) + 0) ∧ i = 3) ∨ (a = zz_rf 6 (12 * (S0 1000 7) + 0) ∧ i = 4) ∨ (a = zz_rf 6 (12 * (S0 1000 7) + 0) ∧ i = 5) ∨ (a = zz_rf 6 (12 * (S0 1000 7) + 0) ∧ i = 6) ∨ (a = zz_rf 6 (12 * (S0 1000 7) + 0) ∧ i = 7) ∨ (a = zz_rf 6 (12 * (S0 1000 7) + 0) ∧ i = 8) ∨ (a = zz_rf 6 (12 * (S0 1000 7) + 0) ∧ i = 9)) S0 S ∧ (zz_Hc S)
def zx_input_1_18 (p0 : Int) (p1 : Int) (p2 : Int) (S0 : zz_S) : Nat → zz_S → Prop := fun i S => zz_G S ∧ zz_fr [] [] (fun a i => (a = zz_rf 3 (S0 1000 7) ∧ i = 1) ∨ (a = zz_rf 6 (12 * (S0 1000 7) + 0) ∧ i = 0) ∨ (a = zz_rf 6 (12 * (S0 1000 7) + 0) ∧ i = 1) ∨ (a = zz_rf 6 (12 * (S0 1000 7) + 0) ∧ i = 10) ∨ (a = zz_rf 6 (12 * (S0 1000 7) + 0) ∧ i = 11) ∨ (a = zz_rf 6 (12 * (S0 1000 7) + 0) ∧ i = 12) ∨ (a = zz_rf 6 (12 * (S0 1000 7) + 0) ∧ i = 13) ∨ (a = zz_rf 6 (12 * (S0 1000 7) + 0) ∧ i = 14) ∨ (a = zz_rf 6 (12 * (S0 1000 7) + 0) ∧ i = 2) ∨ (a = zz_rf 6 (12 * (S0 1000 7) + 0) ∧ i = 3) ∨ (a = zz_rf 6 (12 * (S0 1000 7) + 0) ∧ i = 4) ∨ (a = zz_rf 6 (12 * (S0 1000 7) + 0) ∧ i = 5) ∨ (a = zz_rf 6 (12 * (S0 1000 7) + 0) ∧ i = 6) ∨ (a = zz_rf 6 (12 * (S0 1000 7) + 0) ∧ i = 7) ∨ (a = zz_rf 6 (12 * (S0 1000 7) + 0) ∧ i = 8) ∨ (a = zz_rf 6 (12 * (S0 1000 7) + 0) ∧ i = 9)) S0 S ∧ (i < 4) ∧ (i = 0) ∧ (zz_Hc S)
theorem zc_input_1_18 {g : mm_G} {l : Launch} (p0 : Int) (p1 : Int) (p2 : Int) (S0 : zz_S) (n : Nat) (hn : zz_end ≤ n) (hfl : l.flags = flags0) (G_S0 : zz_G S0) (hp0 : (-2147483648) ≤ p0 ∧ p0 ≤ 2147483647) (hp1 : (-2147483648) ≤ p1 ∧ p1 ≤ 2147483647) (hp2 : (-2147483648) ≤ p2 ∧ p2 ≤ 2147483647) (H_S0 : zz_Hc S0) : mm_Met g l zy_input_1_18 zr_input_1_18 [.ref 1000, zi p0, zi p1, zi p2] (zz_M S0 n) n (zz_XV n (zp_input_1_18 p0 p1 p2 S0) (zx_input_1_18 p0 p1 p2 S0)) := by
  refine zz_enter (by decide) (Nat.le_of_ble_eq_true rfl) (zz_less (ls1 := [some (.ref 1000), some (zi p0), some (zi p1), some (zi p2)]) ⟨rfl, ⟨rfl, ⟨rfl, ⟨rfl, trivial⟩⟩⟩⟩ ?_)
  have F_S0 : zz_fr [] [] (fun a i => (a = zz_rf 3 (S0 1000 7) ∧ i = 1) ∨ (a = zz_rf 6 (12 * (S0 1000 7) + 0) ∧ i = 0) ∨ (a = zz_rf 6 (12 * (S0 1000 7) + 0) ∧ i = 1) ∨ (a = zz_rf 6 (12 * (S0 1000 7) + 0) ∧ i = 10) ∨ (a = zz_rf 6 (12 * (S0 1000 7) + 0) ∧ i = 11) ∨ (a = zz_rf 6 (12 * (S0 1000 7) + 0) ∧ i = 12) ∨ (a = zz_rf 6 (12 * (S0 1000 7) + 0) ∧ i = 13) ∨ (a = zz_rf 6 (12 * (S0 1000 7) + 0) ∧ i = 14) ∨ (a = zz_rf 6 (12 * (S0 1000 7) + 0) ∧ i = 2) ∨ (a = zz_rf 6 (12 * (S0 1000 7) + 0) ∧ i = 3) ∨ (a = zz_rf 6 (12 * (S0 1000 7) + 0) ∧ i = 4) ∨ (a = zz_rf 6 (12 * (S0 1000 7) + 0) ∧ i = 5) ∨ (a = zz_rf 6 (12 * (S0 1000 7) + 0) ∧ i = 6) ∨ (a = zz_rf 6 (12 * (S0 1000 7) + 0) ∧ i = 7) ∨ (a = zz_rf 6 (12 * (S0 1000 7) + 0) ∧ i = 8) ∨ (a = zz_rf 6 (12 * (S0 1000 7) + 0) ∧ i = 9)) S0 S0 := zz_fr.refl
  refine zz_iload_n (x := p0) rfl zd_1_18_0 ?_
  refine zz_iload_n (x := p1) rfl zd_1_18_1 ?_
  refine zz_iload_n (x := p2) rfl zd_1_18_2 ?_
  refine zz_callSI [zi p0, zi p1, zi p2] zd_1_18_3 zk_TF_210 rfl rfl ⟨Nat.le_of_ble_eq_true rfl, Nat.le_of_ble_eq_true rfl⟩ ⟨rfl, rfl⟩ (Nat.zero_le _) (Nat.zero_le _) (zc_inputFits_7_2 p0 p1 p2 S0 n hn G_S0 (by omega) (by omega) (by omega)) (fun v2 S1 hP => ?_)
  obtain ⟨rfl, o3, o4⟩ := hP
  rcases (by omega : v2 = 0 ∨ v2 = 1) with rfl | rfl
  · refine zz_if_ne (by omega) zd_1_18_6 (fun c5 => ?_) (fun c5 => ?_)
    · exfalso; omega
    · exact zz_throw (i := 0) hfl hn zt_1_18_9 zyw_input_1_18 zxl_TF_87_214_91 (Nat.le_of_ble_eq_true rfl) (Nat.le_of_ble_eq_true rfl) ⟨Nat.le_of_ble_eq_true rfl, Nat.le_of_ble_eq_true rfl⟩ (Or.inr ⟨_, _, rfl, G_S0, F_S0, by omega, by omega, H_S0⟩)
  · refine zz_if_ne (by omega) zd_1_18_6 (fun c6 => ?_) (fun c6 => ?_)
    · refine zz_aload_n (x := 1000) rfl zd_1_18_19 ?_
      have g7 := zz_G.r G_S0 1000 7 0 1 rfl rfl
      refine zz_getr (kd := 1) (z := S0 1000 7) zd_1_18_20 zf_TF_10 zT_1000 rfl (zz_ltn hn rfl) rfl (by omega) (zz_rf 3 (S0 1000 7)) rfl ?_
      refine zz_iload_n (x := p0) rfl zd_1_18_23 ?_
      refine zz_iload_n (x := p1) rfl zd_1_18_24 ?_
      refine zz_iload_n (x := p2) rfl zd_1_18_25 ?_
      refine zz_callVV [zi p0, zi p1, zi p2] zd_1_18_26 zk_TF_216 (zT_k3 (by omega)) (zN_k3 hn (by omega)) rfl rfl ⟨Nat.le_of_ble_eq_true rfl, Nat.le_of_ble_eq_true rfl⟩ ⟨rfl, rfl⟩ (Nat.zero_le _) (Nat.zero_le _) (zc_beginWith_7_3 (S0 1000 7) p0 p1 p2 S0 n hn G_S0 (by omega) (by omega) (by omega) (by omega) H_S0) (fun S8 hP => ?_)
      obtain ⟨G_S8, fS8, o10, o11, o12⟩ := hP
      have g13 := zz_G.r G_S0 1000 7 0 1 rfl rfl
      have F_S8 := zz_fr.trans F_S0 fS8 rfl (fun a i h => by rcases h with h | h | h | h | h | h | h | h | h | h | h | h | h | h | h | h; exact Or.inr (Or.inr (Or.inl h)); exact Or.inr (Or.inr (Or.inr (Or.inl h))); exact Or.inr (Or.inr (Or.inr (Or.inr (Or.inl h)))); exact Or.inr (Or.inr (Or.inr (Or.inr (Or.inr (Or.inl h))))); exact Or.inr (Or.inr (Or.inr (Or.inr (Or.inr (Or.inr (Or.inl h)))))); exact Or.inr (Or.inr (Or.inr (Or.inr (Or.inr (Or.inr (Or.inr (Or.inl h))))))); exact Or.inr (Or.inr (Or.inr (Or.inr (Or.inr (Or.inr (Or.inr (Or.inr (Or.inl h)))))))); exact Or.inr (Or.inr (Or.inr (Or.inr (Or.inr (Or.inr (Or.inr (Or.inr (Or.inr (Or.inl h))))))))); exact Or.inr (Or.inr (Or.inr (Or.inr (Or.inr (Or.inr (Or.inr (Or.inr (Or.inr (Or.inr (Or.inl h)))))))))); exact Or.inr (Or.inr (Or.inr (Or.inr (Or.inr (Or.inr (Or.inr (Or.inr (Or.inr (Or.inr (Or.inr (Or.inl h))))))))))); exact Or.inr (Or.inr (Or.inr (Or.inr (Or.inr (Or.inr (Or.inr (Or.inr (Or.inr (Or.inr (Or.inr (Or.inr (Or.inl h)))))))))))); exact Or.inr (Or.inr (Or.inr (Or.inr (Or.inr (Or.inr (Or.inr (Or.inr (Or.inr (Or.inr (Or.inr (Or.inr (Or.inr (Or.inl h))))))))))))); exact Or.inr (Or.inr (Or.inr (Or.inr (Or.inr (Or.inr (Or.inr (Or.inr (Or.inr (Or.inr (Or.inr (Or.inr (Or.inr (Or.inr (Or.inl h)))))))))))))); exact Or.inr (Or.inr (Or.inr (Or.inr (Or.inr (Or.inr (Or.inr (Or.inr (Or.inr (Or.inr (Or.inr (Or.inr (Or.inr (Or.inr (Or.inr (Or.inl h))))))))))))))); exact Or.inr (Or.inr (Or.inr (Or.inr (Or.inr (Or.inr (Or.inr (Or.inr (Or.inr (Or.inr (Or.inr (Or.inr (Or.inr (Or.inr (Or.inr (Or.inr (Or.inl h)))))))))))))))); exact Or.inr (Or.inr (Or.inr (Or.inr (Or.inr (Or.inr (Or.inr (Or.inr (Or.inr (Or.inr (Or.inr (Or.inr (Or.inr (Or.inr (Or.inr (Or.inr (Or.inr (h))))))))))))))))))
      have b14 := zz_rf3 (z := (S0 1000 7)) (by omega)
      have b15 := zz_rf6 (z := (12 * (S0 1000 7) + 0)) (by omega)
      have H_S8 : zz_Hc S8 := o12
      exact zz_vret zd_1_18_29 rfl (Nat.le_of_ble_eq_true rfl) (Nat.le_of_ble_eq_true rfl) (Or.inl ⟨_, rfl, G_S8, F_S8, H_S8⟩)
    · exfalso; omega
abbrev zy_convolution_1_19 : mm_Y := (⟨"TensorForge", "convolution", "(IIIIII)I"⟩, prog_1_method_19_code, 8, (some .int))
theorem zyw_convolution_1_19 : mm_Yw zy_convolution_1_19 6 := ⟨mm_tb_1 1359 (by decide +kernel) rfl, mm_tb_1 1 (by decide +kernel) rfl, ⟨by decide, by decide⟩, by decide +kernel⟩
theorem zd_1_19_0 : zz_D zy_convolution_1_19 0 (.aload_n 0) 1 1 := ⟨by decide +kernel, rfl⟩
theorem zd_1_19_1 : zz_D zy_convolution_1_19 1 (.getfield 10) 3 4 := ⟨by decide +kernel, rfl⟩
theorem zd_1_19_4 : zz_D zy_convolution_1_19 4 (.invokevirtual 220) 3 7 := ⟨by decide +kernel, rfl⟩
abbrev zy_draft_7_6 : mm_Y := (⟨"TensorForge$Network", "draft", "()LTensorForge$Layer;"⟩, prog_7_method_6_code, 1, (some (.object "TensorForge$Layer")))
theorem zyw_draft_7_6 : mm_Yw zy_draft_7_6 0 := ⟨mm_tb_1 943 (by decide +kernel) rfl, mm_tb_1 2 (by decide +kernel) rfl, ⟨by decide, by decide⟩, by decide +kernel⟩
theorem zd_7_6_0 : zz_D zy_draft_7_6 0 (.aload_n 0) 1 1 := ⟨by decide +kernel, rfl⟩
theorem zd_7_6_1 : zz_D zy_draft_7_6 1 (.getfield 11) 3 4 := ⟨by decide +kernel, rfl⟩
theorem zd_7_6_4 : zz_D zy_draft_7_6 4 (.aload_n 0) 1 5 := ⟨by decide +kernel, rfl⟩
theorem zd_7_6_5 : zz_D zy_draft_7_6 5 (.getfield 16) 3 8 := ⟨by decide +kernel, rfl⟩
theorem zd_7_6_8 : zz_D zy_draft_7_6 8 (.aaload) 1 9 := ⟨by decide +kernel, rfl⟩
theorem zd_7_6_9 : zz_D zy_draft_7_6 9 (.areturn) 1 10 := ⟨by decide +kernel, rfl⟩
-- TensorForge$Network draft ()LTensorForge$Layer;
abbrev zr_draft_7_6 : Room := { frames := 0, cells := 0, slots := 0, locals := 0 }
def zp_draft_7_6 (t : Int) (S0 : zz_S) : Nat → zz_S → Prop := fun r S => S0 = S ∧ (r = zz_rf 6 (12 * t + S0 (zz_rf 3 t) 1)) ∧ (1 ≤ S0 (zz_rf 3 t) 1 ∧ S0 (zz_rf 3 t) 1 ≤ 11)
theorem zc_draft_7_6 {g : mm_G} {l : Launch} (t : Int) (S0 : zz_S) (n : Nat) (hn : zz_end ≤ n) (G_S0 : zz_G S0) (ht : 0 ≤ t ∧ t ≤ 1) : mm_Met g l zy_draft_7_6 zr_draft_7_6 [.ref (zz_rf 3 t)] (zz_M S0 n) n (zz_QA n (zp_draft_7_6 t S0)) := by
  refine zz_enter (by decide) (Nat.le_of_ble_eq_true rfl) (zz_less (ls1 := [some (.ref (zz_rf 3 t))]) ⟨rfl, trivial⟩ ?_)
  have b_t := zz_rf3 (z := t) (by omega)
  refine zz_aload_n (x := zz_rf 3 t) rfl zd_7_6_0 ?_
  refine zz_getr (kd := 0) (z := ((zz_rf 3 t + 1 : Nat) : Int)) zd_7_6_1 zf_Network_11 (zT_k3 (by omega)) rfl (zN_k3 hn (by omega)) (zE_k3a G_S0 (by omega)) (Int.natCast_nonneg _) (zz_rf 3 t + 1) (Int.toNat_natCast _) ?_
  refine zz_aload_n (x := zz_rf 3 t) rfl zd_7_6_4 ?_
  have g1 := zz_G.r G_S0 (zz_rf 3 t) 1 1 11 (zR_k3_1 (by omega)) (zB_k3 (by omega))
  refine zz_geti (z := S0 (zz_rf 3 t) 1) zd_7_6_5 zf_Network_16 (zT_k3 (by omega)) rfl (zN_k3 hn (by omega)) rfl ?_
  refine zz_aald (kd := 4) (z := 12 * t + (S0 (zz_rf 3 t) 1)) zd_7_6_8 (zT_k3a (by omega)) rfl (zN_k3a hn (by omega)) (by decide) (by omega) (zE_lay G_S0 (by omega) (by omega)) (by omega) (zz_rf 6 (12 * t + (S0 (zz_rf 3 t) 1))) rfl ?_
  exact zz_aret zd_7_6_9 rfl (Nat.zero_le _) (Nat.zero_le _) ⟨_, _, rfl, rfl, rfl, by omega⟩
theorem zk_TF_220 : mm_Vl "TensorForge" 220 1 0 zy_draft_7_6 := ⟨zyw_draft_7_6, (R_Network, F_Network, 2), rfl, mm_tb_1 1360 (by decide +kernel) rfl, mm_tb_1 941 (by decide +kernel) rfl, mm_tb_1 942 (by decide +kernel) rfl⟩
theorem zd_1_19_7 : zz_D zy_convolution_1_19 7 (.astore 7) 2 9 := ⟨by decide +kernel, rfl⟩
theorem zd_1_19_9 : zz_D zy_convolution_1_19 9 (.aload 7) 2 11 := ⟨by decide +kernel, rfl⟩
theorem zd_1_19_11 : zz_D zy_convolution_1_19 11 (.iconst 1) 1 12 := ⟨by decide +kernel, rfl⟩
theorem zd_1_19_12 : zz_D zy_convolution_1_19 12 (.iload_n 1) 1 13 := ⟨by decide +kernel, rfl⟩
theorem zd_1_19_13 : zz_D zy_convolution_1_19 13 (.iload_n 1) 1 14 := ⟨by decide +kernel, rfl⟩
theorem zd_1_19_14 : zz_D zy_convolution_1_19 14 (.invokevirtual 226) 3 17 := ⟨by decide +kernel, rfl⟩
theorem zk_TF_226 : mm_Vl "TensorForge" 226 2 3 zy_reset_4_2 := ⟨zyw_reset_4_2, (R_Layer, F_Layer, 15), rfl, mm_tb_1 1361 (by decide +kernel) rfl, mm_tb_1 50 (by decide +kernel) rfl, mm_tb_1 51 (by decide +kernel) rfl⟩
theorem zd_1_19_17 : zz_D zy_convolution_1_19 17 (.aload 7) 2 19 := ⟨by decide +kernel, rfl⟩
theorem zd_1_19_19 : zz_D zy_convolution_1_19 19 (.iload_n 2) 1 20 := ⟨by decide +kernel, rfl⟩
theorem zd_1_19_20 : zz_D zy_convolution_1_19 20 (.bipush 10) 2 22 := ⟨by decide +kernel, rfl⟩
theorem zd_1_19_22 : zz_D zy_convolution_1_19 22 (.idiv) 1 23 := ⟨by decide +kernel, rfl⟩
theorem zd_1_19_23 : zz_D zy_convolution_1_19 23 (.iload_n 2) 1 24 := ⟨by decide +kernel, rfl⟩
theorem zd_1_19_24 : zz_D zy_convolution_1_19 24 (.bipush 10) 2 26 := ⟨by decide +kernel, rfl⟩
theorem zd_1_19_26 : zz_D zy_convolution_1_19 26 (.irem) 1 27 := ⟨by decide +kernel, rfl⟩
theorem zd_1_19_27 : zz_D zy_convolution_1_19 27 (.invokevirtual 229) 3 30 := ⟨by decide +kernel, rfl⟩
abbrev zy_takeKernel_4_4 : mm_Y := (⟨"TensorForge$Layer", "takeKernel", "(II)V"⟩, prog_4_method_4_code, 3, none)
theorem zyw_takeKernel_4_4 : mm_Yw zy_takeKernel_4_4 2 := ⟨mm_tb_1 988 (by decide +kernel) rfl, mm_tb_1 3 (by decide +kernel) rfl, ⟨by decide, by decide⟩, by decide +kernel⟩
theorem zd_4_4_0 : zz_D zy_takeKernel_4_4 0 (.aload_n 0) 1 1 := ⟨by decide +kernel, rfl⟩
theorem zd_4_4_1 : zz_D zy_takeKernel_4_4 1 (.iload_n 1) 1 2 := ⟨by decide +kernel, rfl⟩
theorem zd_4_4_2 : zz_D zy_takeKernel_4_4 2 (.putfield 23) 3 5 := ⟨by decide +kernel, rfl⟩
theorem zd_4_4_5 : zz_D zy_takeKernel_4_4 5 (.aload_n 0) 1 6 := ⟨by decide +kernel, rfl⟩
theorem zd_4_4_6 : zz_D zy_takeKernel_4_4 6 (.iload_n 2) 1 7 := ⟨by decide +kernel, rfl⟩
theorem zd_4_4_7 : zz_D zy_takeKernel_4_4 7 (.putfield 26) 3 10 := ⟨by decide +kernel, rfl⟩
theorem zd_4_4_10 : zz_D zy_takeKernel_4_4 10 (.return_) 1 11 := ⟨by decide +kernel, rfl⟩
-- TensorForge$Layer takeKernel (II)V
abbrev zr_takeKernel_4_4 : Room := { frames := 0, cells := 0, slots := 0, locals := 0 }
def zp_takeKernel_4_4 (t : Int) (p0 : Int) (p1 : Int) (S0 : zz_S) : zz_S → Prop := fun S => zz_G S ∧ zz_fr [] [] (fun a i => (a = zz_rf 6 t ∧ i = 3) ∨ (a = zz_rf 6 t ∧ i = 4)) S0 S
theorem zc_takeKernel_4_4 {g : mm_G} {l : Launch} (t : Int) (p0 : Int) (p1 : Int) (S0 : zz_S) (n : Nat) (hn : zz_end ≤ n) (G_S0 : zz_G S0) (ht : 0 ≤ t ∧ t ≤ 23) (hp0 : (-2147483648) ≤ p0 ∧ p0 ≤ 2147483647) (hp1 : (-2147483648) ≤ p1 ∧ p1 ≤ 2147483647) : mm_Met g l zy_takeKernel_4_4 zr_takeKernel_4_4 [.ref (zz_rf 6 t), zi p0, zi p1] (zz_M S0 n) n (zz_QV n (zp_takeKernel_4_4 t p0 p1 S0)) := by
  refine zz_enter (by decide) (Nat.le_of_ble_eq_true rfl) (zz_less (ls1 := [some (.ref (zz_rf 6 t)), some (zi p0), some (zi p1)]) ⟨rfl, ⟨rfl, ⟨rfl, trivial⟩⟩⟩ ?_)
  have F_S0 : zz_fr [] [] (fun a i => (a = zz_rf 6 t ∧ i = 3) ∨ (a = zz_rf 6 t ∧ i = 4)) S0 S0 := zz_fr.refl
  have b_t := zz_rf6 (z := t) (by omega)
  refine zz_aload_n (x := zz_rf 6 t) rfl zd_4_4_0 ?_
  refine zz_iload_n (x := p0) rfl zd_4_4_1 ?_
  refine zz_puti zd_4_4_2 zf_Layer_23 (zT_k6 (by omega)) rfl (zN_k6 hn (by omega)) (fun S1 qS1 => ?_)
  have G_S1 := zz_G.put G_S0 qS1 (-2147483648) 2147483647 (zR_k6_3 (by omega)) (by omega)
  have F_S1 := zz_fr.putv F_S0 qS1 (Or.inl ⟨rfl, rfl⟩)
  refine zz_aload_n (x := zz_rf 6 t) rfl zd_4_4_5 ?_
  refine zz_iload_n (x := p1) rfl zd_4_4_6 ?_
  refine zz_puti zd_4_4_7 zf_Layer_26 (zT_k6 (by omega)) rfl (zN_k6 hn (by omega)) (fun S2 qS2 => ?_)
  have G_S2 := zz_G.put G_S1 qS2 (-2147483648) 2147483647 (zR_k6_4 (by omega)) (by omega)
  have F_S2 := zz_fr.putv F_S1 qS2 (Or.inr (⟨rfl, rfl⟩))
  exact zz_vret zd_4_4_10 rfl (Nat.zero_le _) (Nat.zero_le _) ⟨_, rfl, G_S2, F_S2⟩
theorem zk_TF_229 : mm_Vl "TensorForge" 229 2 2 zy_takeKernel_4_4 := ⟨zyw_takeKernel_4_4, (R_Layer, F_Layer, 15), rfl, mm_tb_1 1362 (by decide +kernel) rfl, mm_tb_1 986 (by decide +kernel) rfl, mm_tb_1 987 (by decide +kernel) rfl⟩
theorem zd_1_19_30 : zz_D zy_convolution_1_19 30 (.aload 7) 2 32 := ⟨by decide +kernel, rfl⟩
theorem zd_1_19_32 : zz_D zy_convolution_1_19 32 (.iload 4) 2 34 := ⟨by decide +kernel, rfl⟩
theorem zd_1_19_34 : zz_D zy_convolution_1_19 34 (.bipush 10) 2 36 := ⟨by decide +kernel, rfl⟩
theorem zd_1_19_36 : zz_D zy_convolution_1_19 36 (.idiv) 1 37 := ⟨by decide +kernel, rfl⟩
theorem zd_1_19_37 : zz_D zy_convolution_1_19 37 (.putfield 232) 3 40 := ⟨by decide +kernel, rfl⟩
theorem zf_TF_232 : mm_Fl "TensorForge" 232 2 5 .int false := ⟨R_Layer, F_Layer, 15, t_Layer, rfl, i_Layer, by decide, mm_tb_1 78 (by decide +kernel) rfl, rfl, t_Layer_ok, n_Layer, rfl, by decide +kernel⟩
theorem zd_1_19_40 : zz_D zy_convolution_1_19 40 (.aload 7) 2 42 := ⟨by decide +kernel, rfl⟩
theorem zd_1_19_42 : zz_D zy_convolution_1_19 42 (.iload 4) 2 44 := ⟨by decide +kernel, rfl⟩
theorem zd_1_19_44 : zz_D zy_convolution_1_19 44 (.bipush 10) 2 46 := ⟨by decide +kernel, rfl⟩
theorem zd_1_19_46 : zz_D zy_convolution_1_19 46 (.irem) 1 47 := ⟨by decide +kernel, rfl⟩
theorem zd_1_19_47 : zz_D zy_convolution_1_19 47 (.putfield 235) 3 50 := ⟨by decide +kernel, rfl⟩
theorem zf_TF_235 : mm_Fl "TensorForge" 235 2 6 .int false := ⟨R_Layer, F_Layer, 15, t_Layer, rfl, i_Layer, by decide, mm_tb_1 83 (by decide +kernel) rfl, rfl, t_Layer_ok, n_Layer, rfl, by decide +kernel⟩
theorem zd_1_19_50 : zz_D zy_convolution_1_19 50 (.aload 7) 2 52 := ⟨by decide +kernel, rfl⟩
theorem zd_1_19_52 : zz_D zy_convolution_1_19 52 (.iload 5) 2 54 := ⟨by decide +kernel, rfl⟩
theorem zd_1_19_54 : zz_D zy_convolution_1_19 54 (.invokevirtual 238) 3 57 := ⟨by decide +kernel, rfl⟩
abbrev zy_takeNarrowing_4_5 : mm_Y := (⟨"TensorForge$Layer", "takeNarrowing", "(I)V"⟩, prog_4_method_5_code, 2, none)
theorem zyw_takeNarrowing_4_5 : mm_Yw zy_takeNarrowing_4_5 1 := ⟨mm_tb_1 1366 (by decide +kernel) rfl, mm_tb_1 3 (by decide +kernel) rfl, ⟨by decide, by decide⟩, by decide +kernel⟩
theorem zd_4_5_0 : zz_D zy_takeNarrowing_4_5 0 (.aload_n 0) 1 1 := ⟨by decide +kernel, rfl⟩
theorem zd_4_5_1 : zz_D zy_takeNarrowing_4_5 1 (.iload_n 1) 1 2 := ⟨by decide +kernel, rfl⟩
theorem zd_4_5_2 : zz_D zy_takeNarrowing_4_5 2 (.bipush 16) 2 4 := ⟨by decide +kernel, rfl⟩
theorem zd_4_5_4 : zz_B zy_takeNarrowing_4_5 4 (Instr.if_icmp .lt) 11 7 := ⟨7, by decide +kernel, rfl, rfl⟩
theorem zd_4_5_11 : zz_D zy_takeNarrowing_4_5 11 (.iconst 0) 1 12 := ⟨by decide +kernel, rfl⟩
theorem zd_4_5_12 : zz_D zy_takeNarrowing_4_5 12 (.putfield 38) 3 15 := ⟨by decide +kernel, rfl⟩
theorem zd_4_5_15 : zz_D zy_takeNarrowing_4_5 15 (.aload_n 0) 1 16 := ⟨by decide +kernel, rfl⟩
theorem zd_4_5_16 : zz_D zy_takeNarrowing_4_5 16 (.aload_n 0) 1 17 := ⟨by decide +kernel, rfl⟩
theorem zd_4_5_17 : zz_D zy_takeNarrowing_4_5 17 (.getfield 38) 3 20 := ⟨by decide +kernel, rfl⟩
theorem zd_4_5_20 : zz_B zy_takeNarrowing_4_5 20 (Instr.ifCond .eq) 30 23 := ⟨10, by decide +kernel, rfl, rfl⟩
theorem zd_4_5_30 : zz_D zy_takeNarrowing_4_5 30 (.iload_n 1) 1 31 := ⟨by decide +kernel, rfl⟩
theorem zd_4_5_31 : zz_D zy_takeNarrowing_4_5 31 (.putfield 35) 3 34 := ⟨by decide +kernel, rfl⟩
theorem zd_4_5_34 : zz_D zy_takeNarrowing_4_5 34 (.return_) 1 35 := ⟨by decide +kernel, rfl⟩
theorem zd_4_5_7 : zz_D zy_takeNarrowing_4_5 7 (.iconst 1) 1 8 := ⟨by decide +kernel, rfl⟩
theorem zd_4_5_8 : zz_B zy_takeNarrowing_4_5 8 Instr.goto 12 11 := ⟨4, by decide +kernel, rfl, rfl⟩
theorem zd_4_5_23 : zz_D zy_takeNarrowing_4_5 23 (.iload_n 1) 1 24 := ⟨by decide +kernel, rfl⟩
theorem zd_4_5_24 : zz_D zy_takeNarrowing_4_5 24 (.bipush 16) 2 26 := ⟨by decide +kernel, rfl⟩
theorem zd_4_5_26 : zz_D zy_takeNarrowing_4_5 26 (.isub) 1 27 := ⟨by decide +kernel, rfl⟩
theorem zd_4_5_27 : zz_B zy_takeNarrowing_4_5 27 Instr.goto 31 30 := ⟨4, by decide +kernel, rfl, rfl⟩
-- TensorForge$Layer takeNarrowing (I)V
abbrev zr_takeNarrowing_4_5 : Room := { frames := 0, cells := 0, slots := 0, locals := 0 }
def zp_takeNarrowing_4_5 (t : Int) (p0 : Int) (S0 : zz_S) : zz_S → Prop := fun S => zz_G S ∧ zz_fr [] [] (fun a i => (a = zz_rf 6 t ∧ i = 7) ∨ (a = zz_rf 6 t ∧ i = 8)) S0 S
theorem zc_takeNarrowing_4_5 {g : mm_G} {l : Launch} (t : Int) (p0 : Int) (S0 : zz_S) (n : Nat) (hn : zz_end ≤ n) (G_S0 : zz_G S0) (ht : 0 ≤ t ∧ t ≤ 23) (hp0 : (-2147483648) ≤ p0 ∧ p0 ≤ 2147483647) : mm_Met g l zy_takeNarrowing_4_5 zr_takeNarrowing_4_5 [.ref (zz_rf 6 t), zi p0] (zz_M S0 n) n (zz_QV n (zp_takeNarrowing_4_5 t p0 S0)) := by
  refine zz_enter (by decide) (Nat.le_of_ble_eq_true rfl) (zz_less (ls1 := [some (.ref (zz_rf 6 t)), some (zi p0)]) ⟨rfl, ⟨rfl, trivial⟩⟩ ?_)
  have F_S0 : zz_fr [] [] (fun a i => (a = zz_rf 6 t ∧ i = 7) ∨ (a = zz_rf 6 t ∧ i = 8)) S0 S0 := zz_fr.refl
  have b_t := zz_rf6 (z := t) (by omega)
  refine zz_aload_n (x := zz_rf 6 t) rfl zd_4_5_0 ?_
  refine zz_iload_n (x := p0) rfl zd_4_5_1 ?_
  refine zz_bipush (by decide) zd_4_5_2 ?_
  refine zz_icmp_lt (by omega) (by omega) zd_4_5_4 (fun c1 => ?_) (fun c1 => ?_)
  · refine zz_iconst zd_4_5_11 ?_
    refine zz_putz zd_4_5_12 zf_Layer_38 (zT_k6 (by omega)) rfl (zN_k6 hn (by omega)) (by omega) (fun S2 qS2 => ?_)
    have G_S2 := zz_G.put G_S0 qS2 0 1 (zR_k6_8 (by omega)) (by omega)
    have F_S2 := zz_fr.putv F_S0 qS2 (Or.inr (⟨rfl, rfl⟩))
    refine zz_aload_n (x := zz_rf 6 t) rfl zd_4_5_15 ?_
    refine zz_aload_n (x := zz_rf 6 t) rfl zd_4_5_16 ?_
    refine zz_geti (z := 0) zd_4_5_17 zf_Layer_38 (zT_k6 (by omega)) rfl (zN_k6 hn (by omega)) (zz_rs qS2) ?_
    refine zz_if_eq (by omega) zd_4_5_20 (fun c3 => ?_) (fun c3 => ?_)
    · refine zz_iload_n (x := p0) rfl zd_4_5_30 ?_
      refine zz_puti zd_4_5_31 zf_Layer_35 (zT_k6 (by omega)) rfl (zN_k6 hn (by omega)) (fun S4 qS4 => ?_)
      have G_S4 := zz_G.put G_S2 qS4 (-2147483648) 2147483647 (zR_k6_7 (by omega)) (by omega)
      have F_S4 := zz_fr.putv F_S2 qS4 (Or.inl ⟨rfl, rfl⟩)
      exact zz_vret zd_4_5_34 rfl (Nat.zero_le _) (Nat.zero_le _) ⟨_, rfl, G_S4, F_S4⟩
    · exfalso; omega
  · refine zz_iconst zd_4_5_7 ?_
    refine zz_goto zd_4_5_8 ?_
    refine zz_putz zd_4_5_12 zf_Layer_38 (zT_k6 (by omega)) rfl (zN_k6 hn (by omega)) (by omega) (fun S5 qS5 => ?_)
    have G_S5 := zz_G.put G_S0 qS5 0 1 (zR_k6_8 (by omega)) (by omega)
    have F_S5 := zz_fr.putv F_S0 qS5 (Or.inr (⟨rfl, rfl⟩))
    refine zz_aload_n (x := zz_rf 6 t) rfl zd_4_5_15 ?_
    refine zz_aload_n (x := zz_rf 6 t) rfl zd_4_5_16 ?_
    refine zz_geti (z := 1) zd_4_5_17 zf_Layer_38 (zT_k6 (by omega)) rfl (zN_k6 hn (by omega)) (zz_rs qS5) ?_
    refine zz_if_eq (by omega) zd_4_5_20 (fun c6 => ?_) (fun c6 => ?_)
    · exfalso; omega
    · refine zz_iload_n (x := p0) rfl zd_4_5_23 ?_
      refine zz_bipush (by decide) zd_4_5_24 ?_
      refine zz_isub zd_4_5_26 ?_
      refine zz_goto zd_4_5_27 ?_
      refine zz_puti zd_4_5_31 zf_Layer_35 (zT_k6 (by omega)) rfl (zN_k6 hn (by omega)) (fun S7 qS7 => ?_)
      have G_S7 := zz_G.put G_S5 qS7 (-2147483648) 2147483647 (zR_k6_7 (by omega)) (by omega)
      have F_S7 := zz_fr.putv F_S5 qS7 (Or.inl ⟨rfl, rfl⟩)
      exact zz_vret zd_4_5_34 rfl (Nat.zero_le _) (Nat.zero_le _) ⟨_, rfl, G_S7, F_S7⟩
theorem zk_TF_238 : mm_Vl "TensorForge" 238 2 1 zy_takeNarrowing_4_5 := ⟨zyw_takeNarrowing_4_5, (R_Layer, F_Layer, 15), rfl, mm_tb_1 1363 (by decide +kernel) rfl, mm_tb_1 1364 (by decide +kernel) rfl, mm_tb_1 1365 (by decide +kernel) rfl⟩
theorem zd_1_19_57 : zz_D zy_convolution_1_19 57 (.aload 7) 2 59 := ⟨by decide +kernel, rfl⟩
theorem zd_1_19_59 : zz_D zy_convolution_1_19 59 (.iload_n 3) 1 60 := ⟨by decide +kernel, rfl⟩
theorem zd_1_19_60 : zz_D zy_convolution_1_19 60 (.putfield 241) 3 63 := ⟨by decide +kernel, rfl⟩
theorem zf_TF_241 : mm_Fl "TensorForge" 241 2 12 .int false := ⟨R_Layer, F_Layer, 15, t_Layer, rfl, i_Layer, by decide, mm_tb_1 106 (by decide +kernel) rfl, rfl, t_Layer_ok, n_Layer, rfl, by decide +kernel⟩
theorem zd_1_19_63 : zz_D zy_convolution_1_19 63 (.aload 7) 2 65 := ⟨by decide +kernel, rfl⟩
theorem zd_1_19_65 : zz_D zy_convolution_1_19 65 (.iload 6) 2 67 := ⟨by decide +kernel, rfl⟩
theorem zd_1_19_67 : zz_D zy_convolution_1_19 67 (.putfield 244) 3 70 := ⟨by decide +kernel, rfl⟩
theorem zf_TF_244 : mm_Fl "TensorForge" 244 2 9 .int false := ⟨R_Layer, F_Layer, 15, t_Layer, rfl, i_Layer, by decide, mm_tb_1 93 (by decide +kernel) rfl, rfl, t_Layer_ok, n_Layer, rfl, by decide +kernel⟩
theorem zd_1_19_70 : zz_D zy_convolution_1_19 70 (.aload_n 0) 1 71 := ⟨by decide +kernel, rfl⟩
theorem zd_1_19_71 : zz_D zy_convolution_1_19 71 (.invokevirtual 247) 3 74 := ⟨by decide +kernel, rfl⟩
abbrev zy_added_1_31 : mm_Y := (⟨"TensorForge", "added", "()I"⟩, prog_1_method_31_code, 2, (some .int))
theorem zyw_added_1_31 : mm_Yw zy_added_1_31 0 := ⟨mm_tb_1 1370 (by decide +kernel) rfl, mm_tb_1 1 (by decide +kernel) rfl, ⟨by decide, by decide⟩, by decide +kernel⟩
theorem zd_1_31_0 : zz_D zy_added_1_31 0 (.aload_n 0) 1 1 := ⟨by decide +kernel, rfl⟩
theorem zd_1_31_1 : zz_D zy_added_1_31 1 (.getfield 10) 3 4 := ⟨by decide +kernel, rfl⟩
theorem zd_1_31_4 : zz_D zy_added_1_31 4 (.invokevirtual 326) 3 7 := ⟨by decide +kernel, rfl⟩
abbrev zy_offer_7_7 : mm_Y := (⟨"TensorForge$Network", "offer", "()I"⟩, prog_7_method_7_code, 3, (some .int))
theorem zyw_offer_7_7 : mm_Yw zy_offer_7_7 0 := ⟨mm_tb_1 992 (by decide +kernel) rfl, mm_tb_1 2 (by decide +kernel) rfl, ⟨by decide, by decide⟩, by decide +kernel⟩
theorem zd_7_7_0 : zz_D zy_offer_7_7 0 (.aload_n 0) 1 1 := ⟨by decide +kernel, rfl⟩
theorem zd_7_7_1 : zz_D zy_offer_7_7 1 (.invokevirtual 34) 3 4 := ⟨by decide +kernel, rfl⟩
theorem zk_Network_34 : mm_Vl "TensorForge$Network" 34 1 0 zy_draft_7_6 := ⟨zyw_draft_7_6, (R_Network, F_Network, 2), rfl, mm_tb_1 993 (by decide +kernel) rfl, mm_tb_1 941 (by decide +kernel) rfl, mm_tb_1 942 (by decide +kernel) rfl⟩
theorem zd_7_7_4 : zz_D zy_offer_7_7 4 (.astore_n 1) 1 5 := ⟨by decide +kernel, rfl⟩
theorem zd_7_7_5 : zz_D zy_offer_7_7 5 (.aload_n 0) 1 6 := ⟨by decide +kernel, rfl⟩
theorem zd_7_7_6 : zz_D zy_offer_7_7 6 (.aload_n 1) 1 7 := ⟨by decide +kernel, rfl⟩
theorem zd_7_7_7 : zz_D zy_offer_7_7 7 (.getfield 38) 3 10 := ⟨by decide +kernel, rfl⟩
theorem zf_Network_38 : mm_Fl "TensorForge$Network" 38 2 1 .int false := ⟨R_Layer, F_Layer, 15, t_Layer, rfl, i_Layer, by decide, mm_tb_1 63 (by decide +kernel) rfl, rfl, t_Layer_ok, n_Layer, rfl, by decide +kernel⟩
theorem zd_7_7_10 : zz_D zy_offer_7_7 10 (.invokevirtual 41) 3 13 := ⟨by decide +kernel, rfl⟩
abbrev zy_has_7_5 : mm_Y := (⟨"TensorForge$Network", "has", "(I)Z"⟩, prog_7_method_5_code, 2, (some .boolean))
theorem zyw_has_7_5 : mm_Yw zy_has_7_5 1 := ⟨mm_tb_1 861 (by decide +kernel) rfl, mm_tb_1 2 (by decide +kernel) rfl, ⟨by decide, by decide⟩, by decide +kernel⟩
theorem zd_7_5_0 : zz_D zy_has_7_5 0 (.iload_n 1) 1 1 := ⟨by decide +kernel, rfl⟩
theorem zd_7_5_1 : zz_B zy_has_7_5 1 (Instr.ifCond .lt) 16 4 := ⟨15, by decide +kernel, rfl, rfl⟩
theorem zd_7_5_16 : zz_D zy_has_7_5 16 (.iconst 0) 1 17 := ⟨by decide +kernel, rfl⟩
theorem zd_7_5_17 : zz_D zy_has_7_5 17 (.ireturn) 1 18 := ⟨by decide +kernel, rfl⟩
theorem zd_7_5_4 : zz_D zy_has_7_5 4 (.iload_n 1) 1 5 := ⟨by decide +kernel, rfl⟩
theorem zd_7_5_5 : zz_D zy_has_7_5 5 (.aload_n 0) 1 6 := ⟨by decide +kernel, rfl⟩
theorem zd_7_5_6 : zz_D zy_has_7_5 6 (.getfield 16) 3 9 := ⟨by decide +kernel, rfl⟩
theorem zd_7_5_9 : zz_B zy_has_7_5 9 (Instr.if_icmp .ge) 16 12 := ⟨7, by decide +kernel, rfl, rfl⟩
theorem zd_7_5_12 : zz_D zy_has_7_5 12 (.iconst 1) 1 13 := ⟨by decide +kernel, rfl⟩
theorem zd_7_5_13 : zz_B zy_has_7_5 13 Instr.goto 17 16 := ⟨4, by decide +kernel, rfl, rfl⟩
-- TensorForge$Network has (I)Z
abbrev zr_has_7_5 : Room := { frames := 0, cells := 0, slots := 0, locals := 0 }
def zp_has_7_5 (t : Int) (p0 : Int) (S0 : zz_S) : Int → zz_S → Prop := fun r S => S0 = S ∧ (0 ≤ r ∧ r ≤ 1) ∧ ((r = 1 ∧ 0 ≤ p0 ∧ p0 < S0 (zz_rf 3 t) 1) ∨ (r = 0 ∧ (p0 < 0 ∨ p0 ≥ S0 (zz_rf 3 t) 1)))
theorem zc_has_7_5 {g : mm_G} {l : Launch} (t : Int) (p0 : Int) (S0 : zz_S) (n : Nat) (hn : zz_end ≤ n) (G_S0 : zz_G S0) (ht : 0 ≤ t ∧ t ≤ 1) (hp0 : (-2147483648) ≤ p0 ∧ p0 ≤ 2147483647) : mm_Met g l zy_has_7_5 zr_has_7_5 [.ref (zz_rf 3 t), zi p0] (zz_M S0 n) n (zz_QI n (zp_has_7_5 t p0 S0)) := by
  refine zz_enter (by decide) (Nat.le_of_ble_eq_true rfl) (zz_less (ls1 := [some (.ref (zz_rf 3 t)), some (zi p0)]) ⟨rfl, ⟨rfl, trivial⟩⟩ ?_)
  have b_t := zz_rf3 (z := t) (by omega)
  refine zz_iload_n (x := p0) rfl zd_7_5_0 ?_
  refine zz_if_lt (by omega) zd_7_5_1 (fun c1 => ?_) (fun c1 => ?_)
  · refine zz_iconst zd_7_5_16 ?_
    exact zz_zret zd_7_5_17 rfl (by omega) (Nat.zero_le _) (Nat.zero_le _) ⟨_, _, rfl, rfl, by omega, by omega⟩
  · refine zz_iload_n (x := p0) rfl zd_7_5_4 ?_
    refine zz_aload_n (x := zz_rf 3 t) rfl zd_7_5_5 ?_
    have g2 := zz_G.r G_S0 (zz_rf 3 t) 1 1 11 (zR_k3_1 (by omega)) (zB_k3 (by omega))
    refine zz_geti (z := S0 (zz_rf 3 t) 1) zd_7_5_6 zf_Network_16 (zT_k3 (by omega)) rfl (zN_k3 hn (by omega)) rfl ?_
    refine zz_icmp_ge (by omega) (by omega) zd_7_5_9 (fun c3 => ?_) (fun c3 => ?_)
    · refine zz_iconst zd_7_5_16 ?_
      exact zz_zret zd_7_5_17 rfl (by omega) (Nat.zero_le _) (Nat.zero_le _) ⟨_, _, rfl, rfl, by omega, by omega⟩
    · refine zz_iconst zd_7_5_12 ?_
      refine zz_goto zd_7_5_13 ?_
      exact zz_zret zd_7_5_17 rfl (by omega) (Nat.zero_le _) (Nat.zero_le _) ⟨_, _, rfl, rfl, by omega, by omega⟩
theorem zk_Network_41 : mm_Vl "TensorForge$Network" 41 1 1 zy_has_7_5 := ⟨zyw_has_7_5, (R_Network, F_Network, 2), rfl, mm_tb_1 858 (by decide +kernel) rfl, mm_tb_1 859 (by decide +kernel) rfl, mm_tb_1 860 (by decide +kernel) rfl⟩
theorem zd_7_7_13 : zz_B zy_offer_7_7 13 (Instr.ifCond .eq) 27 16 := ⟨14, by decide +kernel, rfl, rfl⟩
theorem zd_7_7_27 : zz_D zy_offer_7_7 27 (.iconst 1) 1 28 := ⟨by decide +kernel, rfl⟩
theorem zd_7_7_28 : zz_D zy_offer_7_7 28 (.ireturn) 1 29 := ⟨by decide +kernel, rfl⟩
theorem zd_7_7_16 : zz_D zy_offer_7_7 16 (.aload_n 0) 1 17 := ⟨by decide +kernel, rfl⟩
theorem zd_7_7_17 : zz_D zy_offer_7_7 17 (.aload_n 1) 1 18 := ⟨by decide +kernel, rfl⟩
theorem zd_7_7_18 : zz_D zy_offer_7_7 18 (.getfield 45) 3 21 := ⟨by decide +kernel, rfl⟩
theorem zf_Network_45 : mm_Fl "TensorForge$Network" 45 2 2 .int false := ⟨R_Layer, F_Layer, 15, t_Layer, rfl, i_Layer, by decide, mm_tb_1 67 (by decide +kernel) rfl, rfl, t_Layer_ok, n_Layer, rfl, by decide +kernel⟩
theorem zd_7_7_21 : zz_D zy_offer_7_7 21 (.invokevirtual 41) 3 24 := ⟨by decide +kernel, rfl⟩
theorem zd_7_7_24 : zz_B zy_offer_7_7 24 (Instr.ifCond .ne) 29 27 := ⟨5, by decide +kernel, rfl, rfl⟩
theorem zd_7_7_29 : zz_D zy_offer_7_7 29 (.aload_n 1) 1 30 := ⟨by decide +kernel, rfl⟩
theorem zd_7_7_30 : zz_D zy_offer_7_7 30 (.invokevirtual 48) 3 33 := ⟨by decide +kernel, rfl⟩
abbrev zy_numbersFit_4_10 : mm_Y := (⟨"TensorForge$Layer", "numbersFit", "()Z"⟩, prog_4_method_10_code, 1, (some .boolean))
theorem zyw_numbersFit_4_10 : mm_Yw zy_numbersFit_4_10 0 := ⟨mm_tb_1 997 (by decide +kernel) rfl, mm_tb_1 3 (by decide +kernel) rfl, ⟨by decide, by decide⟩, by decide +kernel⟩
theorem zd_4_10_0 : zz_D zy_numbersFit_4_10 0 (.aload_n 0) 1 1 := ⟨by decide +kernel, rfl⟩
theorem zd_4_10_1 : zz_D zy_numbersFit_4_10 1 (.getfield 13) 3 4 := ⟨by decide +kernel, rfl⟩
theorem zd_4_10_4 : zz_D zy_numbersFit_4_10 4 (.iconst 3) 1 5 := ⟨by decide +kernel, rfl⟩
theorem zd_4_10_5 : zz_B zy_numbersFit_4_10 5 (Instr.if_icmp .ne) 19 8 := ⟨14, by decide +kernel, rfl, rfl⟩
theorem zd_4_10_19 : zz_D zy_numbersFit_4_10 19 (.aload_n 0) 1 20 := ⟨by decide +kernel, rfl⟩
theorem zd_4_10_20 : zz_D zy_numbersFit_4_10 20 (.getfield 23) 3 23 := ⟨by decide +kernel, rfl⟩
theorem zd_4_10_23 : zz_D zy_numbersFit_4_10 23 (.iconst 1) 1 24 := ⟨by decide +kernel, rfl⟩
theorem zd_4_10_24 : zz_D zy_numbersFit_4_10 24 (.iconst 3) 1 25 := ⟨by decide +kernel, rfl⟩
theorem zd_4_10_25 : zz_D zy_numbersFit_4_10 25 (.invokestatic 63) 3 28 := ⟨by decide +kernel, rfl⟩
theorem zk_Layer_63 : mm_Sl "TensorForge$Layer" 63 3 zy_isWithin_4_9 := ⟨zyw_isWithin_4_9, mm_tb_1 998 (by decide +kernel) rfl, mm_tb_1 999 (by decide +kernel) rfl⟩
theorem zd_4_10_28 : zz_B zy_numbersFit_4_10 28 (Instr.ifCond .eq) 43 31 := ⟨15, by decide +kernel, rfl, rfl⟩
theorem zd_4_10_43 : zz_D zy_numbersFit_4_10 43 (.iconst 0) 1 44 := ⟨by decide +kernel, rfl⟩
theorem zd_4_10_44 : zz_D zy_numbersFit_4_10 44 (.ireturn) 1 45 := ⟨by decide +kernel, rfl⟩
theorem zd_4_10_31 : zz_D zy_numbersFit_4_10 31 (.aload_n 0) 1 32 := ⟨by decide +kernel, rfl⟩
theorem zd_4_10_32 : zz_D zy_numbersFit_4_10 32 (.getfield 26) 3 35 := ⟨by decide +kernel, rfl⟩
theorem zd_4_10_35 : zz_D zy_numbersFit_4_10 35 (.iconst 1) 1 36 := ⟨by decide +kernel, rfl⟩
theorem zd_4_10_36 : zz_D zy_numbersFit_4_10 36 (.iconst 3) 1 37 := ⟨by decide +kernel, rfl⟩
theorem zd_4_10_37 : zz_D zy_numbersFit_4_10 37 (.invokestatic 63) 3 40 := ⟨by decide +kernel, rfl⟩
theorem zd_4_10_40 : zz_B zy_numbersFit_4_10 40 (Instr.ifCond .ne) 45 43 := ⟨5, by decide +kernel, rfl, rfl⟩
theorem zd_4_10_45 : zz_D zy_numbersFit_4_10 45 (.aload_n 0) 1 46 := ⟨by decide +kernel, rfl⟩
theorem zd_4_10_46 : zz_D zy_numbersFit_4_10 46 (.getfield 13) 3 49 := ⟨by decide +kernel, rfl⟩
theorem zd_4_10_49 : zz_D zy_numbersFit_4_10 49 (.iconst 2) 1 50 := ⟨by decide +kernel, rfl⟩
theorem zd_4_10_50 : zz_B zy_numbersFit_4_10 50 (Instr.if_icmp .ne) 63 53 := ⟨13, by decide +kernel, rfl, rfl⟩
theorem zd_4_10_63 : zz_D zy_numbersFit_4_10 63 (.aload_n 0) 1 64 := ⟨by decide +kernel, rfl⟩
theorem zd_4_10_64 : zz_D zy_numbersFit_4_10 64 (.getfield 29) 3 67 := ⟨by decide +kernel, rfl⟩
theorem zd_4_10_67 : zz_D zy_numbersFit_4_10 67 (.iconst 1) 1 68 := ⟨by decide +kernel, rfl⟩
theorem zd_4_10_68 : zz_D zy_numbersFit_4_10 68 (.iconst 2) 1 69 := ⟨by decide +kernel, rfl⟩
theorem zd_4_10_69 : zz_D zy_numbersFit_4_10 69 (.invokestatic 63) 3 72 := ⟨by decide +kernel, rfl⟩
theorem zd_4_10_72 : zz_B zy_numbersFit_4_10 72 (Instr.ifCond .eq) 117 75 := ⟨45, by decide +kernel, rfl, rfl⟩
theorem zd_4_10_117 : zz_D zy_numbersFit_4_10 117 (.iconst 0) 1 118 := ⟨by decide +kernel, rfl⟩
theorem zd_4_10_118 : zz_D zy_numbersFit_4_10 118 (.ireturn) 1 119 := ⟨by decide +kernel, rfl⟩
theorem zd_4_10_75 : zz_D zy_numbersFit_4_10 75 (.aload_n 0) 1 76 := ⟨by decide +kernel, rfl⟩
theorem zd_4_10_76 : zz_D zy_numbersFit_4_10 76 (.getfield 32) 3 79 := ⟨by decide +kernel, rfl⟩
theorem zd_4_10_79 : zz_D zy_numbersFit_4_10 79 (.iconst 0) 1 80 := ⟨by decide +kernel, rfl⟩
theorem zd_4_10_80 : zz_D zy_numbersFit_4_10 80 (.iconst 1) 1 81 := ⟨by decide +kernel, rfl⟩
theorem zd_4_10_81 : zz_D zy_numbersFit_4_10 81 (.invokestatic 63) 3 84 := ⟨by decide +kernel, rfl⟩
theorem zd_4_10_84 : zz_B zy_numbersFit_4_10 84 (Instr.ifCond .eq) 117 87 := ⟨33, by decide +kernel, rfl, rfl⟩
theorem zd_4_10_87 : zz_D zy_numbersFit_4_10 87 (.aload_n 0) 1 88 := ⟨by decide +kernel, rfl⟩
theorem zd_4_10_88 : zz_D zy_numbersFit_4_10 88 (.getfield 35) 3 91 := ⟨by decide +kernel, rfl⟩
theorem zd_4_10_91 : zz_D zy_numbersFit_4_10 91 (.iconst 0) 1 92 := ⟨by decide +kernel, rfl⟩
theorem zd_4_10_92 : zz_D zy_numbersFit_4_10 92 (.bipush 15) 2 94 := ⟨by decide +kernel, rfl⟩
theorem zd_4_10_94 : zz_D zy_numbersFit_4_10 94 (.invokestatic 63) 3 97 := ⟨by decide +kernel, rfl⟩
theorem zd_4_10_97 : zz_B zy_numbersFit_4_10 97 (Instr.ifCond .eq) 117 100 := ⟨20, by decide +kernel, rfl, rfl⟩
theorem zd_4_10_100 : zz_D zy_numbersFit_4_10 100 (.aload_n 0) 1 101 := ⟨by decide +kernel, rfl⟩
theorem zd_4_10_101 : zz_D zy_numbersFit_4_10 101 (.getfield 60) 3 104 := ⟨by decide +kernel, rfl⟩
theorem zd_4_10_104 : zz_D zy_numbersFit_4_10 104 (.iconst 1) 1 105 := ⟨by decide +kernel, rfl⟩
theorem zd_4_10_105 : zz_D zy_numbersFit_4_10 105 (.bipush 16) 2 107 := ⟨by decide +kernel, rfl⟩
theorem zd_4_10_107 : zz_D zy_numbersFit_4_10 107 (.invokestatic 63) 3 110 := ⟨by decide +kernel, rfl⟩
theorem zd_4_10_110 : zz_B zy_numbersFit_4_10 110 (Instr.ifCond .eq) 117 113 := ⟨7, by decide +kernel, rfl, rfl⟩
theorem zd_4_10_113 : zz_D zy_numbersFit_4_10 113 (.iconst 1) 1 114 := ⟨by decide +kernel, rfl⟩
theorem zd_4_10_114 : zz_B zy_numbersFit_4_10 114 Instr.goto 118 117 := ⟨4, by decide +kernel, rfl, rfl⟩
theorem zd_4_10_53 : zz_D zy_numbersFit_4_10 53 (.aload_n 0) 1 54 := ⟨by decide +kernel, rfl⟩
theorem zd_4_10_54 : zz_D zy_numbersFit_4_10 54 (.getfield 29) 3 57 := ⟨by decide +kernel, rfl⟩
theorem zd_4_10_57 : zz_D zy_numbersFit_4_10 57 (.iconst 1) 1 58 := ⟨by decide +kernel, rfl⟩
theorem zd_4_10_58 : zz_D zy_numbersFit_4_10 58 (.iconst 3) 1 59 := ⟨by decide +kernel, rfl⟩
theorem zd_4_10_59 : zz_D zy_numbersFit_4_10 59 (.invokestatic 63) 3 62 := ⟨by decide +kernel, rfl⟩
theorem zd_4_10_62 : zz_D zy_numbersFit_4_10 62 (.ireturn) 1 63 := ⟨by decide +kernel, rfl⟩
theorem zd_4_10_8 : zz_D zy_numbersFit_4_10 8 (.aload_n 0) 1 9 := ⟨by decide +kernel, rfl⟩
theorem zd_4_10_9 : zz_D zy_numbersFit_4_10 9 (.getfield 35) 3 12 := ⟨by decide +kernel, rfl⟩
theorem zd_4_10_12 : zz_D zy_numbersFit_4_10 12 (.iconst 0) 1 13 := ⟨by decide +kernel, rfl⟩
theorem zd_4_10_13 : zz_D zy_numbersFit_4_10 13 (.bipush 15) 2 15 := ⟨by decide +kernel, rfl⟩
theorem zd_4_10_15 : zz_D zy_numbersFit_4_10 15 (.invokestatic 63) 3 18 := ⟨by decide +kernel, rfl⟩
theorem zd_4_10_18 : zz_D zy_numbersFit_4_10 18 (.ireturn) 1 19 := ⟨by decide +kernel, rfl⟩
-- TensorForge$Layer numbersFit ()Z
abbrev zr_numbersFit_4_10 : Room := { frames := 1, cells := 0, slots := 0, locals := 14 }
def zp_numbersFit_4_10 (t : Int) (S0 : zz_S) : Int → zz_S → Prop := fun r S => S0 = S ∧ (0 ≤ r ∧ r ≤ 1) ∧ (r = 1 → (S0 (zz_rf 6 t) 0 = 3 ∨ (S0 (zz_rf 6 t) 3 ≤ 3 ∧ S0 (zz_rf 6 t) 4 ≤ 3)) ∧ (S0 (zz_rf 6 t) 0 = 3 ∨ S0 (zz_rf 6 t) 0 = 2 ∨ S0 (zz_rf 6 t) 12 ≤ 16))
theorem zc_numbersFit_4_10 {g : mm_G} {l : Launch} (t : Int) (S0 : zz_S) (n : Nat) (hn : zz_end ≤ n) (G_S0 : zz_G S0) (ht : 0 ≤ t ∧ t ≤ 23) : mm_Met g l zy_numbersFit_4_10 zr_numbersFit_4_10 [.ref (zz_rf 6 t)] (zz_M S0 n) n (zz_QI n (zp_numbersFit_4_10 t S0)) := by
  refine zz_enter (by decide) (Nat.le_of_ble_eq_true rfl) (zz_less (ls1 := [some (.ref (zz_rf 6 t))]) ⟨rfl, trivial⟩ ?_)
  have b_t := zz_rf6 (z := t) (by omega)
  refine zz_aload_n (x := zz_rf 6 t) rfl zd_4_10_0 ?_
  have g1 := zz_G.r G_S0 (zz_rf 6 t) 0 (-2147483648) 2147483647 (zR_k6_0 (by omega)) (zB_k6 (by omega))
  refine zz_geti (z := S0 (zz_rf 6 t) 0) zd_4_10_1 zf_Layer_13 (zT_k6 (by omega)) rfl (zN_k6 hn (by omega)) rfl ?_
  refine zz_iconst zd_4_10_4 ?_
  refine zz_icmp_ne (by omega) (by omega) zd_4_10_5 (fun c2 => ?_) (fun c2 => ?_)
  · refine zz_aload_n (x := zz_rf 6 t) rfl zd_4_10_19 ?_
    have g3 := zz_G.r G_S0 (zz_rf 6 t) 3 (-2147483648) 2147483647 (zR_k6_3 (by omega)) (zB_k6 (by omega))
    refine zz_geti (z := S0 (zz_rf 6 t) 3) zd_4_10_20 zf_Layer_23 (zT_k6 (by omega)) rfl (zN_k6 hn (by omega)) rfl ?_
    refine zz_iconst zd_4_10_23 ?_
    refine zz_iconst zd_4_10_24 ?_
    refine zz_callSI [zi (S0 (zz_rf 6 t) 3), zi 1, zi 3] zd_4_10_25 zk_Layer_63 rfl rfl ⟨Nat.le_of_ble_eq_true rfl, Nat.le_of_ble_eq_true rfl⟩ ⟨rfl, rfl⟩ (Nat.zero_le _) (Nat.zero_le _) (zc_isWithin_4_9 (S0 (zz_rf 6 t) 3) 1 3 S0 n hn G_S0 (by omega) (by omega) (by omega)) (fun v5 S4 hP => ?_)
    obtain ⟨rfl, o6, o7⟩ := hP
    rcases (by omega : v5 = 0 ∨ v5 = 1) with rfl | rfl
    · refine zz_if_eq (by omega) zd_4_10_28 (fun c8 => ?_) (fun c8 => ?_)
      · refine zz_iconst zd_4_10_43 ?_
        exact zz_zret zd_4_10_44 rfl (by omega) (Nat.zero_le _) (Nat.zero_le _) ⟨_, _, rfl, rfl, by omega, by omega⟩
      · exfalso; omega
    · refine zz_if_eq (by omega) zd_4_10_28 (fun c9 => ?_) (fun c9 => ?_)
      · exfalso; omega
      · refine zz_aload_n (x := zz_rf 6 t) rfl zd_4_10_31 ?_
        have g10 := zz_G.r G_S0 (zz_rf 6 t) 4 (-2147483648) 2147483647 (zR_k6_4 (by omega)) (zB_k6 (by omega))
        refine zz_geti (z := S0 (zz_rf 6 t) 4) zd_4_10_32 zf_Layer_26 (zT_k6 (by omega)) rfl (zN_k6 hn (by omega)) rfl ?_
        refine zz_iconst zd_4_10_35 ?_
        refine zz_iconst zd_4_10_36 ?_
        refine zz_callSI [zi (S0 (zz_rf 6 t) 4), zi 1, zi 3] zd_4_10_37 zk_Layer_63 rfl rfl ⟨Nat.le_of_ble_eq_true rfl, Nat.le_of_ble_eq_true rfl⟩ ⟨rfl, rfl⟩ (Nat.zero_le _) (Nat.zero_le _) (zc_isWithin_4_9 (S0 (zz_rf 6 t) 4) 1 3 S0 n hn G_S0 (by omega) (by omega) (by omega)) (fun v12 S11 hP => ?_)
        obtain ⟨rfl, o13, o14⟩ := hP
        rcases (by omega : v12 = 0 ∨ v12 = 1) with rfl | rfl
        · refine zz_if_ne (by omega) zd_4_10_40 (fun c15 => ?_) (fun c15 => ?_)
          · exfalso; omega
          · refine zz_iconst zd_4_10_43 ?_
            exact zz_zret zd_4_10_44 rfl (by omega) (Nat.zero_le _) (Nat.zero_le _) ⟨_, _, rfl, rfl, by omega, by omega⟩
        · refine zz_if_ne (by omega) zd_4_10_40 (fun c16 => ?_) (fun c16 => ?_)
          · refine zz_aload_n (x := zz_rf 6 t) rfl zd_4_10_45 ?_
            refine zz_geti (z := S0 (zz_rf 6 t) 0) zd_4_10_46 zf_Layer_13 (zT_k6 (by omega)) rfl (zN_k6 hn (by omega)) rfl ?_
            refine zz_iconst zd_4_10_49 ?_
            refine zz_icmp_ne (by omega) (by omega) zd_4_10_50 (fun c17 => ?_) (fun c17 => ?_)
            · refine zz_aload_n (x := zz_rf 6 t) rfl zd_4_10_63 ?_
              have g18 := zz_G.r G_S0 (zz_rf 6 t) 5 (-2147483648) 2147483647 (zR_k6_5 (by omega)) (zB_k6 (by omega))
              refine zz_geti (z := S0 (zz_rf 6 t) 5) zd_4_10_64 zf_Layer_29 (zT_k6 (by omega)) rfl (zN_k6 hn (by omega)) rfl ?_
              refine zz_iconst zd_4_10_67 ?_
              refine zz_iconst zd_4_10_68 ?_
              refine zz_callSI [zi (S0 (zz_rf 6 t) 5), zi 1, zi 2] zd_4_10_69 zk_Layer_63 rfl rfl ⟨Nat.le_of_ble_eq_true rfl, Nat.le_of_ble_eq_true rfl⟩ ⟨rfl, rfl⟩ (Nat.zero_le _) (Nat.zero_le _) (zc_isWithin_4_9 (S0 (zz_rf 6 t) 5) 1 2 S0 n hn G_S0 (by omega) (by omega) (by omega)) (fun v20 S19 hP => ?_)
              obtain ⟨rfl, o21, o22⟩ := hP
              rcases (by omega : v20 = 0 ∨ v20 = 1) with rfl | rfl
              · refine zz_if_eq (by omega) zd_4_10_72 (fun c23 => ?_) (fun c23 => ?_)
                · refine zz_iconst zd_4_10_117 ?_
                  exact zz_zret zd_4_10_118 rfl (by omega) (Nat.zero_le _) (Nat.zero_le _) ⟨_, _, rfl, rfl, by omega, by omega⟩
                · exfalso; omega
              · refine zz_if_eq (by omega) zd_4_10_72 (fun c24 => ?_) (fun c24 => ?_)
                · exfalso; omega
                · refine zz_aload_n (x := zz_rf 6 t) rfl zd_4_10_75 ?_
                  have g25 := zz_G.r G_S0 (zz_rf 6 t) 6 (-2147483648) 2147483647 (zR_k6_6 (by omega)) (zB_k6 (by omega))
                  refine zz_geti (z := S0 (zz_rf 6 t) 6) zd_4_10_76 zf_Layer_32 (zT_k6 (by omega)) rfl (zN_k6 hn (by omega)) rfl ?_
                  refine zz_iconst zd_4_10_79 ?_
                  refine zz_iconst zd_4_10_80 ?_
                  refine zz_callSI [zi (S0 (zz_rf 6 t) 6), zi 0, zi 1] zd_4_10_81 zk_Layer_63 rfl rfl ⟨Nat.le_of_ble_eq_true rfl, Nat.le_of_ble_eq_true rfl⟩ ⟨rfl, rfl⟩ (Nat.zero_le _) (Nat.zero_le _) (zc_isWithin_4_9 (S0 (zz_rf 6 t) 6) 0 1 S0 n hn G_S0 (by omega) (by omega) (by omega)) (fun v27 S26 hP => ?_)
                  obtain ⟨rfl, o28, o29⟩ := hP
                  rcases (by omega : v27 = 0 ∨ v27 = 1) with rfl | rfl
                  · refine zz_if_eq (by omega) zd_4_10_84 (fun c30 => ?_) (fun c30 => ?_)
                    · refine zz_iconst zd_4_10_117 ?_
                      exact zz_zret zd_4_10_118 rfl (by omega) (Nat.zero_le _) (Nat.zero_le _) ⟨_, _, rfl, rfl, by omega, by omega⟩
                    · exfalso; omega
                  · refine zz_if_eq (by omega) zd_4_10_84 (fun c31 => ?_) (fun c31 => ?_)
                    · exfalso; omega
                    · refine zz_aload_n (x := zz_rf 6 t) rfl zd_4_10_87 ?_
                      have g32 := zz_G.r G_S0 (zz_rf 6 t) 7 (-2147483648) 2147483647 (zR_k6_7 (by omega)) (zB_k6 (by omega))
                      refine zz_geti (z := S0 (zz_rf 6 t) 7) zd_4_10_88 zf_Layer_35 (zT_k6 (by omega)) rfl (zN_k6 hn (by omega)) rfl ?_
                      refine zz_iconst zd_4_10_91 ?_
                      refine zz_bipush (by decide) zd_4_10_92 ?_
                      refine zz_callSI [zi (S0 (zz_rf 6 t) 7), zi 0, zi 15] zd_4_10_94 zk_Layer_63 rfl rfl ⟨Nat.le_of_ble_eq_true rfl, Nat.le_of_ble_eq_true rfl⟩ ⟨rfl, rfl⟩ (Nat.zero_le _) (Nat.zero_le _) (zc_isWithin_4_9 (S0 (zz_rf 6 t) 7) 0 15 S0 n hn G_S0 (by omega) (by omega) (by omega)) (fun v34 S33 hP => ?_)
                      obtain ⟨rfl, o35, o36⟩ := hP
                      rcases (by omega : v34 = 0 ∨ v34 = 1) with rfl | rfl
                      · refine zz_if_eq (by omega) zd_4_10_97 (fun c37 => ?_) (fun c37 => ?_)
                        · refine zz_iconst zd_4_10_117 ?_
                          exact zz_zret zd_4_10_118 rfl (by omega) (Nat.zero_le _) (Nat.zero_le _) ⟨_, _, rfl, rfl, by omega, by omega⟩
                        · exfalso; omega
                      · refine zz_if_eq (by omega) zd_4_10_97 (fun c38 => ?_) (fun c38 => ?_)
                        · exfalso; omega
                        · refine zz_aload_n (x := zz_rf 6 t) rfl zd_4_10_100 ?_
                          have g39 := zz_G.r G_S0 (zz_rf 6 t) 12 (-2147483648) 2147483647 (zR_k6_12 (by omega)) (zB_k6 (by omega))
                          refine zz_geti (z := S0 (zz_rf 6 t) 12) zd_4_10_101 zf_Layer_60 (zT_k6 (by omega)) rfl (zN_k6 hn (by omega)) rfl ?_
                          refine zz_iconst zd_4_10_104 ?_
                          refine zz_bipush (by decide) zd_4_10_105 ?_
                          refine zz_callSI [zi (S0 (zz_rf 6 t) 12), zi 1, zi 16] zd_4_10_107 zk_Layer_63 rfl rfl ⟨Nat.le_of_ble_eq_true rfl, Nat.le_of_ble_eq_true rfl⟩ ⟨rfl, rfl⟩ (Nat.zero_le _) (Nat.zero_le _) (zc_isWithin_4_9 (S0 (zz_rf 6 t) 12) 1 16 S0 n hn G_S0 (by omega) (by omega) (by omega)) (fun v41 S40 hP => ?_)
                          obtain ⟨rfl, o42, o43⟩ := hP
                          rcases (by omega : v41 = 0 ∨ v41 = 1) with rfl | rfl
                          · refine zz_if_eq (by omega) zd_4_10_110 (fun c44 => ?_) (fun c44 => ?_)
                            · refine zz_iconst zd_4_10_117 ?_
                              exact zz_zret zd_4_10_118 rfl (by omega) (Nat.zero_le _) (Nat.zero_le _) ⟨_, _, rfl, rfl, by omega, by omega⟩
                            · exfalso; omega
                          · refine zz_if_eq (by omega) zd_4_10_110 (fun c45 => ?_) (fun c45 => ?_)
                            · exfalso; omega
                            · refine zz_iconst zd_4_10_113 ?_
                              refine zz_goto zd_4_10_114 ?_
                              exact zz_zret zd_4_10_118 rfl (by omega) (Nat.zero_le _) (Nat.zero_le _) ⟨_, _, rfl, rfl, by omega, by omega⟩
            · refine zz_aload_n (x := zz_rf 6 t) rfl zd_4_10_53 ?_
              have g46 := zz_G.r G_S0 (zz_rf 6 t) 5 (-2147483648) 2147483647 (zR_k6_5 (by omega)) (zB_k6 (by omega))
              refine zz_geti (z := S0 (zz_rf 6 t) 5) zd_4_10_54 zf_Layer_29 (zT_k6 (by omega)) rfl (zN_k6 hn (by omega)) rfl ?_
              refine zz_iconst zd_4_10_57 ?_
              refine zz_iconst zd_4_10_58 ?_
              refine zz_callSI [zi (S0 (zz_rf 6 t) 5), zi 1, zi 3] zd_4_10_59 zk_Layer_63 rfl rfl ⟨Nat.le_of_ble_eq_true rfl, Nat.le_of_ble_eq_true rfl⟩ ⟨rfl, rfl⟩ (Nat.zero_le _) (Nat.zero_le _) (zc_isWithin_4_9 (S0 (zz_rf 6 t) 5) 1 3 S0 n hn G_S0 (by omega) (by omega) (by omega)) (fun v48 S47 hP => ?_)
              obtain ⟨rfl, o49, o50⟩ := hP
              rcases (by omega : v48 = 0 ∨ v48 = 1) with rfl | rfl
              · exact zz_zret zd_4_10_62 rfl (by omega) (Nat.zero_le _) (Nat.zero_le _) ⟨_, _, rfl, rfl, by omega, by omega⟩
              · exact zz_zret zd_4_10_62 rfl (by omega) (Nat.zero_le _) (Nat.zero_le _) ⟨_, _, rfl, rfl, by omega, by omega⟩
          · exfalso; omega
  · refine zz_aload_n (x := zz_rf 6 t) rfl zd_4_10_8 ?_
    have g51 := zz_G.r G_S0 (zz_rf 6 t) 7 (-2147483648) 2147483647 (zR_k6_7 (by omega)) (zB_k6 (by omega))
    refine zz_geti (z := S0 (zz_rf 6 t) 7) zd_4_10_9 zf_Layer_35 (zT_k6 (by omega)) rfl (zN_k6 hn (by omega)) rfl ?_
    refine zz_iconst zd_4_10_12 ?_
    refine zz_bipush (by decide) zd_4_10_13 ?_
    refine zz_callSI [zi (S0 (zz_rf 6 t) 7), zi 0, zi 15] zd_4_10_15 zk_Layer_63 rfl rfl ⟨Nat.le_of_ble_eq_true rfl, Nat.le_of_ble_eq_true rfl⟩ ⟨rfl, rfl⟩ (Nat.zero_le _) (Nat.zero_le _) (zc_isWithin_4_9 (S0 (zz_rf 6 t) 7) 0 15 S0 n hn G_S0 (by omega) (by omega) (by omega)) (fun v53 S52 hP => ?_)
    obtain ⟨rfl, o54, o55⟩ := hP
    rcases (by omega : v53 = 0 ∨ v53 = 1) with rfl | rfl
    · exact zz_zret zd_4_10_18 rfl (by omega) (Nat.zero_le _) (Nat.zero_le _) ⟨_, _, rfl, rfl, by omega, by omega⟩
    · exact zz_zret zd_4_10_18 rfl (by omega) (Nat.zero_le _) (Nat.zero_le _) ⟨_, _, rfl, rfl, by omega, by omega⟩
theorem zk_Network_48 : mm_Vl "TensorForge$Network" 48 2 0 zy_numbersFit_4_10 := ⟨zyw_numbersFit_4_10, (R_Layer, F_Layer, 15), rfl, mm_tb_1 994 (by decide +kernel) rfl, mm_tb_1 995 (by decide +kernel) rfl, mm_tb_1 996 (by decide +kernel) rfl⟩
theorem zd_7_7_33 : zz_B zy_offer_7_7 33 (Instr.ifCond .eq) 61 36 := ⟨28, by decide +kernel, rfl, rfl⟩
theorem zd_7_7_61 : zz_D zy_offer_7_7 61 (.iconst 2) 1 62 := ⟨by decide +kernel, rfl⟩
theorem zd_7_7_62 : zz_D zy_offer_7_7 62 (.ireturn) 1 63 := ⟨by decide +kernel, rfl⟩
theorem zd_7_7_36 : zz_D zy_offer_7_7 36 (.aload_n 1) 1 37 := ⟨by decide +kernel, rfl⟩
theorem zd_7_7_37 : zz_D zy_offer_7_7 37 (.aload_n 0) 1 38 := ⟨by decide +kernel, rfl⟩
theorem zd_7_7_38 : zz_D zy_offer_7_7 38 (.getfield 11) 3 41 := ⟨by decide +kernel, rfl⟩
theorem zd_7_7_41 : zz_D zy_offer_7_7 41 (.aload_n 1) 1 42 := ⟨by decide +kernel, rfl⟩
theorem zd_7_7_42 : zz_D zy_offer_7_7 42 (.getfield 38) 3 45 := ⟨by decide +kernel, rfl⟩
theorem zd_7_7_45 : zz_D zy_offer_7_7 45 (.aaload) 1 46 := ⟨by decide +kernel, rfl⟩
theorem zd_7_7_46 : zz_D zy_offer_7_7 46 (.aload_n 0) 1 47 := ⟨by decide +kernel, rfl⟩
theorem zd_7_7_47 : zz_D zy_offer_7_7 47 (.getfield 11) 3 50 := ⟨by decide +kernel, rfl⟩
theorem zd_7_7_50 : zz_D zy_offer_7_7 50 (.aload_n 1) 1 51 := ⟨by decide +kernel, rfl⟩
theorem zd_7_7_51 : zz_D zy_offer_7_7 51 (.getfield 45) 3 54 := ⟨by decide +kernel, rfl⟩
theorem zd_7_7_54 : zz_D zy_offer_7_7 54 (.aaload) 1 55 := ⟨by decide +kernel, rfl⟩
theorem zd_7_7_55 : zz_D zy_offer_7_7 55 (.invokevirtual 52) 3 58 := ⟨by decide +kernel, rfl⟩
abbrev zy_takeResult_4_11 : mm_Y := (⟨"TensorForge$Layer", "takeResult", "(LTensorForge$Layer;LTensorForge$Layer;)Z"⟩, prog_4_method_11_code, 5, (some .boolean))
theorem zyw_takeResult_4_11 : mm_Yw zy_takeResult_4_11 2 := ⟨mm_tb_1 1004 (by decide +kernel) rfl, mm_tb_1 3 (by decide +kernel) rfl, ⟨by decide, by decide⟩, by decide +kernel⟩
theorem zd_4_11_0 : zz_D zy_takeResult_4_11 0 (.aload_n 0) 1 1 := ⟨by decide +kernel, rfl⟩
theorem zd_4_11_1 : zz_D zy_takeResult_4_11 1 (.getfield 13) 3 4 := ⟨by decide +kernel, rfl⟩
theorem zd_4_11_4 : zz_D zy_takeResult_4_11 4 (.iconst 3) 1 5 := ⟨by decide +kernel, rfl⟩
theorem zd_4_11_5 : zz_B zy_takeResult_4_11 5 (Instr.if_icmp .ne) 63 8 := ⟨58, by decide +kernel, rfl, rfl⟩
theorem zd_4_11_63 : zz_D zy_takeResult_4_11 63 (.aload_n 1) 1 64 := ⟨by decide +kernel, rfl⟩
theorem zd_4_11_64 : zz_D zy_takeResult_4_11 64 (.getfield 54) 3 67 := ⟨by decide +kernel, rfl⟩
theorem zd_4_11_67 : zz_D zy_takeResult_4_11 67 (.iconst 2) 1 68 := ⟨by decide +kernel, rfl⟩
theorem zd_4_11_68 : zz_D zy_takeResult_4_11 68 (.aload_n 0) 1 69 := ⟨by decide +kernel, rfl⟩
theorem zd_4_11_69 : zz_D zy_takeResult_4_11 69 (.getfield 32) 3 72 := ⟨by decide +kernel, rfl⟩
theorem zd_4_11_72 : zz_D zy_takeResult_4_11 72 (.imul) 1 73 := ⟨by decide +kernel, rfl⟩
theorem zd_4_11_73 : zz_D zy_takeResult_4_11 73 (.iadd) 1 74 := ⟨by decide +kernel, rfl⟩
theorem zd_4_11_74 : zz_D zy_takeResult_4_11 74 (.aload_n 0) 1 75 := ⟨by decide +kernel, rfl⟩
theorem zd_4_11_75 : zz_D zy_takeResult_4_11 75 (.getfield 23) 3 78 := ⟨by decide +kernel, rfl⟩
theorem zd_4_11_78 : zz_D zy_takeResult_4_11 78 (.isub) 1 79 := ⟨by decide +kernel, rfl⟩
theorem zd_4_11_79 : zz_D zy_takeResult_4_11 79 (.istore_n 3) 1 80 := ⟨by decide +kernel, rfl⟩
theorem zd_4_11_80 : zz_D zy_takeResult_4_11 80 (.aload_n 1) 1 81 := ⟨by decide +kernel, rfl⟩
theorem zd_4_11_81 : zz_D zy_takeResult_4_11 81 (.getfield 57) 3 84 := ⟨by decide +kernel, rfl⟩
theorem zd_4_11_84 : zz_D zy_takeResult_4_11 84 (.iconst 2) 1 85 := ⟨by decide +kernel, rfl⟩
theorem zd_4_11_85 : zz_D zy_takeResult_4_11 85 (.aload_n 0) 1 86 := ⟨by decide +kernel, rfl⟩
theorem zd_4_11_86 : zz_D zy_takeResult_4_11 86 (.getfield 32) 3 89 := ⟨by decide +kernel, rfl⟩
theorem zd_4_11_89 : zz_D zy_takeResult_4_11 89 (.imul) 1 90 := ⟨by decide +kernel, rfl⟩
theorem zd_4_11_90 : zz_D zy_takeResult_4_11 90 (.iadd) 1 91 := ⟨by decide +kernel, rfl⟩
theorem zd_4_11_91 : zz_D zy_takeResult_4_11 91 (.aload_n 0) 1 92 := ⟨by decide +kernel, rfl⟩
theorem zd_4_11_92 : zz_D zy_takeResult_4_11 92 (.getfield 26) 3 95 := ⟨by decide +kernel, rfl⟩
theorem zd_4_11_95 : zz_D zy_takeResult_4_11 95 (.isub) 1 96 := ⟨by decide +kernel, rfl⟩
theorem zd_4_11_96 : zz_D zy_takeResult_4_11 96 (.istore 4) 2 98 := ⟨by decide +kernel, rfl⟩
theorem zd_4_11_98 : zz_D zy_takeResult_4_11 98 (.iload_n 3) 1 99 := ⟨by decide +kernel, rfl⟩
theorem zd_4_11_99 : zz_B zy_takeResult_4_11 99 (Instr.ifCond .lt) 115 102 := ⟨16, by decide +kernel, rfl, rfl⟩
theorem zd_4_11_115 : zz_D zy_takeResult_4_11 115 (.iconst 0) 1 116 := ⟨by decide +kernel, rfl⟩
theorem zd_4_11_116 : zz_D zy_takeResult_4_11 116 (.ireturn) 1 117 := ⟨by decide +kernel, rfl⟩
theorem zd_4_11_102 : zz_D zy_takeResult_4_11 102 (.iload 4) 2 104 := ⟨by decide +kernel, rfl⟩
theorem zd_4_11_104 : zz_B zy_takeResult_4_11 104 (Instr.ifCond .lt) 115 107 := ⟨11, by decide +kernel, rfl, rfl⟩
theorem zd_4_11_107 : zz_D zy_takeResult_4_11 107 (.aload_n 0) 1 108 := ⟨by decide +kernel, rfl⟩
theorem zd_4_11_108 : zz_D zy_takeResult_4_11 108 (.getfield 29) 3 111 := ⟨by decide +kernel, rfl⟩
theorem zd_4_11_111 : zz_D zy_takeResult_4_11 111 (.iconst 1) 1 112 := ⟨by decide +kernel, rfl⟩
theorem zd_4_11_112 : zz_B zy_takeResult_4_11 112 (Instr.if_icmp .ge) 117 115 := ⟨5, by decide +kernel, rfl, rfl⟩
theorem zd_4_11_117 : zz_D zy_takeResult_4_11 117 (.aload_n 0) 1 118 := ⟨by decide +kernel, rfl⟩
theorem zd_4_11_118 : zz_D zy_takeResult_4_11 118 (.iload_n 3) 1 119 := ⟨by decide +kernel, rfl⟩
theorem zd_4_11_119 : zz_D zy_takeResult_4_11 119 (.aload_n 0) 1 120 := ⟨by decide +kernel, rfl⟩
theorem zd_4_11_120 : zz_D zy_takeResult_4_11 120 (.getfield 29) 3 123 := ⟨by decide +kernel, rfl⟩
theorem zd_4_11_123 : zz_D zy_takeResult_4_11 123 (.idiv) 1 124 := ⟨by decide +kernel, rfl⟩
theorem zd_4_11_124 : zz_D zy_takeResult_4_11 124 (.iconst 1) 1 125 := ⟨by decide +kernel, rfl⟩
theorem zd_4_11_125 : zz_D zy_takeResult_4_11 125 (.iadd) 1 126 := ⟨by decide +kernel, rfl⟩
theorem zd_4_11_126 : zz_D zy_takeResult_4_11 126 (.putfield 54) 3 129 := ⟨by decide +kernel, rfl⟩
theorem zd_4_11_129 : zz_D zy_takeResult_4_11 129 (.aload_n 0) 1 130 := ⟨by decide +kernel, rfl⟩
theorem zd_4_11_130 : zz_D zy_takeResult_4_11 130 (.iload 4) 2 132 := ⟨by decide +kernel, rfl⟩
theorem zd_4_11_132 : zz_D zy_takeResult_4_11 132 (.aload_n 0) 1 133 := ⟨by decide +kernel, rfl⟩
theorem zd_4_11_133 : zz_D zy_takeResult_4_11 133 (.getfield 29) 3 136 := ⟨by decide +kernel, rfl⟩
theorem zd_4_11_136 : zz_D zy_takeResult_4_11 136 (.idiv) 1 137 := ⟨by decide +kernel, rfl⟩
theorem zd_4_11_137 : zz_D zy_takeResult_4_11 137 (.iconst 1) 1 138 := ⟨by decide +kernel, rfl⟩
theorem zd_4_11_138 : zz_D zy_takeResult_4_11 138 (.iadd) 1 139 := ⟨by decide +kernel, rfl⟩
theorem zd_4_11_139 : zz_D zy_takeResult_4_11 139 (.putfield 57) 3 142 := ⟨by decide +kernel, rfl⟩
theorem zd_4_11_142 : zz_D zy_takeResult_4_11 142 (.aload_n 0) 1 143 := ⟨by decide +kernel, rfl⟩
theorem zd_4_11_143 : zz_D zy_takeResult_4_11 143 (.getfield 13) 3 146 := ⟨by decide +kernel, rfl⟩
theorem zd_4_11_146 : zz_D zy_takeResult_4_11 146 (.iconst 2) 1 147 := ⟨by decide +kernel, rfl⟩
theorem zd_4_11_147 : zz_B zy_takeResult_4_11 147 (Instr.if_icmp .ne) 161 150 := ⟨14, by decide +kernel, rfl, rfl⟩
theorem zd_4_11_161 : zz_D zy_takeResult_4_11 161 (.aload_n 0) 1 162 := ⟨by decide +kernel, rfl⟩
theorem zd_4_11_162 : zz_D zy_takeResult_4_11 162 (.getfield 42) 3 165 := ⟨by decide +kernel, rfl⟩
theorem zd_4_11_165 : zz_B zy_takeResult_4_11 165 (Instr.ifCond .lt) 184 168 := ⟨19, by decide +kernel, rfl, rfl⟩
theorem zd_4_11_184 : zz_D zy_takeResult_4_11 184 (.iconst 0) 1 185 := ⟨by decide +kernel, rfl⟩
theorem zd_4_11_185 : zz_D zy_takeResult_4_11 185 (.ireturn) 1 186 := ⟨by decide +kernel, rfl⟩
theorem zd_4_11_168 : zz_D zy_takeResult_4_11 168 (.aload_n 0) 1 169 := ⟨by decide +kernel, rfl⟩
theorem zd_4_11_169 : zz_D zy_takeResult_4_11 169 (.getfield 42) 3 172 := ⟨by decide +kernel, rfl⟩
theorem zd_4_11_172 : zz_D zy_takeResult_4_11 172 (.sipush 4096) 3 175 := ⟨by decide +kernel, rfl⟩
theorem zd_4_11_175 : zz_D zy_takeResult_4_11 175 (.aload_n 0) 1 176 := ⟨by decide +kernel, rfl⟩
theorem zd_4_11_176 : zz_D zy_takeResult_4_11 176 (.aload_n 1) 1 177 := ⟨by decide +kernel, rfl⟩
theorem zd_4_11_177 : zz_D zy_takeResult_4_11 177 (.invokevirtual 69) 3 180 := ⟨by decide +kernel, rfl⟩
abbrev zy_parametersSize_4_12 : mm_Y := (⟨"TensorForge$Layer", "parametersSize", "(LTensorForge$Layer;)I"⟩, prog_4_method_12_code, 2, (some .int))
theorem zyw_parametersSize_4_12 : mm_Yw zy_parametersSize_4_12 1 := ⟨mm_tb_1 1008 (by decide +kernel) rfl, mm_tb_1 3 (by decide +kernel) rfl, ⟨by decide, by decide⟩, by decide +kernel⟩
theorem zd_4_12_0 : zz_D zy_parametersSize_4_12 0 (.aload_n 0) 1 1 := ⟨by decide +kernel, rfl⟩
theorem zd_4_12_1 : zz_D zy_parametersSize_4_12 1 (.getfield 60) 3 4 := ⟨by decide +kernel, rfl⟩
theorem zd_4_12_4 : zz_D zy_parametersSize_4_12 4 (.iconst 4) 1 5 := ⟨by decide +kernel, rfl⟩
theorem zd_4_12_5 : zz_D zy_parametersSize_4_12 5 (.aload_n 0) 1 6 := ⟨by decide +kernel, rfl⟩
theorem zd_4_12_6 : zz_D zy_parametersSize_4_12 6 (.getfield 23) 3 9 := ⟨by decide +kernel, rfl⟩
theorem zd_4_12_9 : zz_D zy_parametersSize_4_12 9 (.aload_n 0) 1 10 := ⟨by decide +kernel, rfl⟩
theorem zd_4_12_10 : zz_D zy_parametersSize_4_12 10 (.getfield 26) 3 13 := ⟨by decide +kernel, rfl⟩
theorem zd_4_12_13 : zz_D zy_parametersSize_4_12 13 (.imul) 1 14 := ⟨by decide +kernel, rfl⟩
theorem zd_4_12_14 : zz_D zy_parametersSize_4_12 14 (.aload_n 1) 1 15 := ⟨by decide +kernel, rfl⟩
theorem zd_4_12_15 : zz_D zy_parametersSize_4_12 15 (.getfield 60) 3 18 := ⟨by decide +kernel, rfl⟩
theorem zd_4_12_18 : zz_D zy_parametersSize_4_12 18 (.imul) 1 19 := ⟨by decide +kernel, rfl⟩
theorem zd_4_12_19 : zz_D zy_parametersSize_4_12 19 (.iadd) 1 20 := ⟨by decide +kernel, rfl⟩
theorem zd_4_12_20 : zz_D zy_parametersSize_4_12 20 (.imul) 1 21 := ⟨by decide +kernel, rfl⟩
theorem zd_4_12_21 : zz_D zy_parametersSize_4_12 21 (.ireturn) 1 22 := ⟨by decide +kernel, rfl⟩
-- TensorForge$Layer parametersSize (LTensorForge$Layer;)I
abbrev zr_parametersSize_4_12 : Room := { frames := 0, cells := 0, slots := 0, locals := 0 }
def zp_parametersSize_4_12 (t : Int) (p0 : Int) (S0 : zz_S) : Int → zz_S → Prop := fun r S => S0 = S ∧ ((-2147483648) ≤ r ∧ r ≤ 2147483647)
theorem zc_parametersSize_4_12 {g : mm_G} {l : Launch} (t : Int) (p0 : Int) (S0 : zz_S) (n : Nat) (hn : zz_end ≤ n) (G_S0 : zz_G S0) (ht : 0 ≤ t ∧ t ≤ 23) (hp0 : 0 ≤ p0 ∧ p0 ≤ 23) : mm_Met g l zy_parametersSize_4_12 zr_parametersSize_4_12 [.ref (zz_rf 6 t), .ref (zz_rf 6 p0)] (zz_M S0 n) n (zz_QI n (zp_parametersSize_4_12 t p0 S0)) := by
  refine zz_enter (by decide) (Nat.le_of_ble_eq_true rfl) (zz_less (ls1 := [some (.ref (zz_rf 6 t)), some (.ref (zz_rf 6 p0))]) ⟨rfl, ⟨rfl, trivial⟩⟩ ?_)
  have b_p0 := zz_rf6 (z := p0) (by omega)
  have b_t := zz_rf6 (z := t) (by omega)
  refine zz_aload_n (x := zz_rf 6 t) rfl zd_4_12_0 ?_
  have g1 := zz_G.r G_S0 (zz_rf 6 t) 12 (-2147483648) 2147483647 (zR_k6_12 (by omega)) (zB_k6 (by omega))
  refine zz_geti (z := S0 (zz_rf 6 t) 12) zd_4_12_1 zf_Layer_60 (zT_k6 (by omega)) rfl (zN_k6 hn (by omega)) rfl ?_
  refine zz_iconst zd_4_12_4 ?_
  refine zz_aload_n (x := zz_rf 6 t) rfl zd_4_12_5 ?_
  have g2 := zz_G.r G_S0 (zz_rf 6 t) 3 (-2147483648) 2147483647 (zR_k6_3 (by omega)) (zB_k6 (by omega))
  refine zz_geti (z := S0 (zz_rf 6 t) 3) zd_4_12_6 zf_Layer_23 (zT_k6 (by omega)) rfl (zN_k6 hn (by omega)) rfl ?_
  refine zz_aload_n (x := zz_rf 6 t) rfl zd_4_12_9 ?_
  have g3 := zz_G.r G_S0 (zz_rf 6 t) 4 (-2147483648) 2147483647 (zR_k6_4 (by omega)) (zB_k6 (by omega))
  refine zz_geti (z := S0 (zz_rf 6 t) 4) zd_4_12_10 zf_Layer_26 (zT_k6 (by omega)) rfl (zN_k6 hn (by omega)) rfl ?_
  refine zz_imul zd_4_12_13 ?_
  refine zz_nrm (fun v4 hv4 ev4 => ?_)
  refine zz_aload_n (x := zz_rf 6 p0) rfl zd_4_12_14 ?_
  have g5 := zz_G.r G_S0 (zz_rf 6 p0) 12 (-2147483648) 2147483647 (zR_k6_12 (by omega)) (zB_k6 (by omega))
  refine zz_geti (z := S0 (zz_rf 6 p0) 12) zd_4_12_15 zf_Layer_60 (zT_k6 (by omega)) rfl (zN_k6 hn (by omega)) rfl ?_
  refine zz_imul zd_4_12_18 ?_
  refine zz_nrm (fun v6 hv6 ev6 => ?_)
  refine zz_iadd zd_4_12_19 ?_
  refine zz_nrm (fun v7 hv7 ev7 => ?_)
  refine zz_imul zd_4_12_20 ?_
  refine zz_nrm (fun v8 hv8 ev8 => ?_)
  exact zz_iret zd_4_12_21 rfl (Nat.zero_le _) (Nat.zero_le _) ⟨_, _, rfl, rfl, by omega⟩
theorem zk_Layer_69 : mm_Vl "TensorForge$Layer" 69 2 1 zy_parametersSize_4_12 := ⟨zyw_parametersSize_4_12, (R_Layer, F_Layer, 15), rfl, mm_tb_1 1005 (by decide +kernel) rfl, mm_tb_1 1007 (by decide +kernel) rfl, mm_tb_s 50 (by decide +kernel) rfl⟩
theorem zd_4_11_180 : zz_D zy_takeResult_4_11 180 (.isub) 1 181 := ⟨by decide +kernel, rfl⟩
theorem zd_4_11_181 : zz_B zy_takeResult_4_11 181 (Instr.if_icmp .le) 186 184 := ⟨5, by decide +kernel, rfl, rfl⟩
theorem zd_4_11_186 : zz_D zy_takeResult_4_11 186 (.aload_n 0) 1 187 := ⟨by decide +kernel, rfl⟩
theorem zd_4_11_187 : zz_D zy_takeResult_4_11 187 (.getfield 54) 3 190 := ⟨by decide +kernel, rfl⟩
theorem zd_4_11_190 : zz_D zy_takeResult_4_11 190 (.iconst 1) 1 191 := ⟨by decide +kernel, rfl⟩
theorem zd_4_11_191 : zz_D zy_takeResult_4_11 191 (.bipush 63) 2 193 := ⟨by decide +kernel, rfl⟩
theorem zd_4_11_193 : zz_D zy_takeResult_4_11 193 (.invokestatic 63) 3 196 := ⟨by decide +kernel, rfl⟩
theorem zd_4_11_196 : zz_B zy_takeResult_4_11 196 (Instr.ifCond .eq) 216 199 := ⟨20, by decide +kernel, rfl, rfl⟩
theorem zd_4_11_216 : zz_D zy_takeResult_4_11 216 (.iconst 0) 1 217 := ⟨by decide +kernel, rfl⟩
theorem zd_4_11_217 : zz_D zy_takeResult_4_11 217 (.ireturn) 1 218 := ⟨by decide +kernel, rfl⟩
theorem zd_4_11_199 : zz_D zy_takeResult_4_11 199 (.aload_n 0) 1 200 := ⟨by decide +kernel, rfl⟩
theorem zd_4_11_200 : zz_D zy_takeResult_4_11 200 (.getfield 57) 3 203 := ⟨by decide +kernel, rfl⟩
theorem zd_4_11_203 : zz_D zy_takeResult_4_11 203 (.iconst 1) 1 204 := ⟨by decide +kernel, rfl⟩
theorem zd_4_11_204 : zz_D zy_takeResult_4_11 204 (.bipush 63) 2 206 := ⟨by decide +kernel, rfl⟩
theorem zd_4_11_206 : zz_D zy_takeResult_4_11 206 (.invokestatic 63) 3 209 := ⟨by decide +kernel, rfl⟩
theorem zd_4_11_209 : zz_B zy_takeResult_4_11 209 (Instr.ifCond .eq) 216 212 := ⟨7, by decide +kernel, rfl, rfl⟩
theorem zd_4_11_212 : zz_D zy_takeResult_4_11 212 (.iconst 1) 1 213 := ⟨by decide +kernel, rfl⟩
theorem zd_4_11_213 : zz_B zy_takeResult_4_11 213 Instr.goto 217 216 := ⟨4, by decide +kernel, rfl, rfl⟩
theorem zd_4_11_150 : zz_D zy_takeResult_4_11 150 (.aload_n 0) 1 151 := ⟨by decide +kernel, rfl⟩
theorem zd_4_11_151 : zz_D zy_takeResult_4_11 151 (.aload_n 1) 1 152 := ⟨by decide +kernel, rfl⟩
theorem zd_4_11_152 : zz_D zy_takeResult_4_11 152 (.getfield 60) 3 155 := ⟨by decide +kernel, rfl⟩
theorem zd_4_11_155 : zz_D zy_takeResult_4_11 155 (.putfield 60) 3 158 := ⟨by decide +kernel, rfl⟩
theorem zd_4_11_158 : zz_B zy_takeResult_4_11 158 Instr.goto 186 161 := ⟨28, by decide +kernel, rfl, rfl⟩
theorem zd_4_11_8 : zz_D zy_takeResult_4_11 8 (.aload_n 0) 1 9 := ⟨by decide +kernel, rfl⟩
theorem zd_4_11_9 : zz_D zy_takeResult_4_11 9 (.aload_n 1) 1 10 := ⟨by decide +kernel, rfl⟩
theorem zd_4_11_10 : zz_D zy_takeResult_4_11 10 (.getfield 54) 3 13 := ⟨by decide +kernel, rfl⟩
theorem zd_4_11_13 : zz_D zy_takeResult_4_11 13 (.aload_n 1) 1 14 := ⟨by decide +kernel, rfl⟩
theorem zd_4_11_14 : zz_D zy_takeResult_4_11 14 (.getfield 57) 3 17 := ⟨by decide +kernel, rfl⟩
theorem zd_4_11_17 : zz_D zy_takeResult_4_11 17 (.aload_n 1) 1 18 := ⟨by decide +kernel, rfl⟩
theorem zd_4_11_18 : zz_D zy_takeResult_4_11 18 (.getfield 60) 3 21 := ⟨by decide +kernel, rfl⟩
theorem zd_4_11_21 : zz_D zy_takeResult_4_11 21 (.invokevirtual 45) 3 24 := ⟨by decide +kernel, rfl⟩
theorem zd_4_11_24 : zz_D zy_takeResult_4_11 24 (.aload_n 0) 1 25 := ⟨by decide +kernel, rfl⟩
theorem zd_4_11_25 : zz_D zy_takeResult_4_11 25 (.getfield 54) 3 28 := ⟨by decide +kernel, rfl⟩
theorem zd_4_11_28 : zz_D zy_takeResult_4_11 28 (.aload_n 2) 1 29 := ⟨by decide +kernel, rfl⟩
theorem zd_4_11_29 : zz_D zy_takeResult_4_11 29 (.getfield 54) 3 32 := ⟨by decide +kernel, rfl⟩
theorem zd_4_11_32 : zz_B zy_takeResult_4_11 32 (Instr.if_icmp .ne) 61 35 := ⟨29, by decide +kernel, rfl, rfl⟩
theorem zd_4_11_61 : zz_D zy_takeResult_4_11 61 (.iconst 0) 1 62 := ⟨by decide +kernel, rfl⟩
theorem zd_4_11_62 : zz_D zy_takeResult_4_11 62 (.ireturn) 1 63 := ⟨by decide +kernel, rfl⟩
theorem zd_4_11_35 : zz_D zy_takeResult_4_11 35 (.aload_n 0) 1 36 := ⟨by decide +kernel, rfl⟩
theorem zd_4_11_36 : zz_D zy_takeResult_4_11 36 (.getfield 57) 3 39 := ⟨by decide +kernel, rfl⟩
theorem zd_4_11_39 : zz_D zy_takeResult_4_11 39 (.aload_n 2) 1 40 := ⟨by decide +kernel, rfl⟩
theorem zd_4_11_40 : zz_D zy_takeResult_4_11 40 (.getfield 57) 3 43 := ⟨by decide +kernel, rfl⟩
theorem zd_4_11_43 : zz_B zy_takeResult_4_11 43 (Instr.if_icmp .ne) 61 46 := ⟨18, by decide +kernel, rfl, rfl⟩
theorem zd_4_11_46 : zz_D zy_takeResult_4_11 46 (.aload_n 0) 1 47 := ⟨by decide +kernel, rfl⟩
theorem zd_4_11_47 : zz_D zy_takeResult_4_11 47 (.getfield 60) 3 50 := ⟨by decide +kernel, rfl⟩
theorem zd_4_11_50 : zz_D zy_takeResult_4_11 50 (.aload_n 2) 1 51 := ⟨by decide +kernel, rfl⟩
theorem zd_4_11_51 : zz_D zy_takeResult_4_11 51 (.getfield 60) 3 54 := ⟨by decide +kernel, rfl⟩
theorem zd_4_11_54 : zz_B zy_takeResult_4_11 54 (Instr.if_icmp .ne) 61 57 := ⟨7, by decide +kernel, rfl, rfl⟩
theorem zd_4_11_57 : zz_D zy_takeResult_4_11 57 (.iconst 1) 1 58 := ⟨by decide +kernel, rfl⟩
theorem zd_4_11_58 : zz_B zy_takeResult_4_11 58 Instr.goto 62 61 := ⟨4, by decide +kernel, rfl, rfl⟩
-- TensorForge$Layer takeResult (LTensorForge$Layer;LTensorForge$Layer;)Z
abbrev zr_takeResult_4_11 : Room := { frames := 1, cells := 0, slots := 0, locals := 15 }
def zp_takeResult_4_11 (t : Int) (p0 : Int) (p1 : Int) (S0 : zz_S) : Int → zz_S → Prop := fun r S => zz_G S ∧ zz_fr [] [] (fun a i => (a = zz_rf 6 t ∧ i = 10) ∨ (a = zz_rf 6 t ∧ i = 11) ∨ (a = zz_rf 6 t ∧ i = 12)) S0 S ∧ (0 ≤ r ∧ r ≤ 1) ∧ (r = 1 → ((S0 (zz_rf 6 t) 0 = 3 ∨ S0 (zz_rf 6 t) 0 = 2) ∧ S (zz_rf 6 t) 12 = S0 (zz_rf 6 p0) 12) ∨ (S0 (zz_rf 6 t) 0 ≠ 3 ∧ S0 (zz_rf 6 t) 0 ≠ 2 ∧ S (zz_rf 6 t) 12 = S0 (zz_rf 6 t) 12))
theorem zc_takeResult_4_11 {g : mm_G} {l : Launch} (t : Int) (p0 : Int) (p1 : Int) (S0 : zz_S) (n : Nat) (hn : zz_end ≤ n) (G_S0 : zz_G S0) (ht : 0 ≤ t ∧ t ≤ 23) (hp0 : 0 ≤ p0 ∧ p0 ≤ 23) (hp1 : 0 ≤ p1 ∧ p1 ≤ 23) : mm_Met g l zy_takeResult_4_11 zr_takeResult_4_11 [.ref (zz_rf 6 t), .ref (zz_rf 6 p0), .ref (zz_rf 6 p1)] (zz_M S0 n) n (zz_QI n (zp_takeResult_4_11 t p0 p1 S0)) := by
  refine zz_enter (by decide) (Nat.le_of_ble_eq_true rfl) (zz_less (ls1 := [some (.ref (zz_rf 6 t)), some (.ref (zz_rf 6 p0)), some (.ref (zz_rf 6 p1))]) ⟨rfl, ⟨rfl, ⟨rfl, trivial⟩⟩⟩ ?_)
  have F_S0 : zz_fr [] [] (fun a i => (a = zz_rf 6 t ∧ i = 10) ∨ (a = zz_rf 6 t ∧ i = 11) ∨ (a = zz_rf 6 t ∧ i = 12)) S0 S0 := zz_fr.refl
  have b_p0 := zz_rf6 (z := p0) (by omega)
  have b_p1 := zz_rf6 (z := p1) (by omega)
  have b_t := zz_rf6 (z := t) (by omega)
  refine zz_aload_n (x := zz_rf 6 t) rfl zd_4_11_0 ?_
  have g1 := zz_G.r G_S0 (zz_rf 6 t) 0 (-2147483648) 2147483647 (zR_k6_0 (by omega)) (zB_k6 (by omega))
  refine zz_geti (z := S0 (zz_rf 6 t) 0) zd_4_11_1 zf_Layer_13 (zT_k6 (by omega)) rfl (zN_k6 hn (by omega)) rfl ?_
  refine zz_iconst zd_4_11_4 ?_
  refine zz_icmp_ne (by omega) (by omega) zd_4_11_5 (fun c2 => ?_) (fun c2 => ?_)
  · refine zz_aload_n (x := zz_rf 6 p0) rfl zd_4_11_63 ?_
    have g3 := zz_G.r G_S0 (zz_rf 6 p0) 10 (-2147483648) 2147483647 (zR_k6_10 (by omega)) (zB_k6 (by omega))
    refine zz_geti (z := S0 (zz_rf 6 p0) 10) zd_4_11_64 zf_Layer_54 (zT_k6 (by omega)) rfl (zN_k6 hn (by omega)) rfl ?_
    refine zz_iconst zd_4_11_67 ?_
    refine zz_aload_n (x := zz_rf 6 t) rfl zd_4_11_68 ?_
    have g4 := zz_G.r G_S0 (zz_rf 6 t) 6 (-2147483648) 2147483647 (zR_k6_6 (by omega)) (zB_k6 (by omega))
    refine zz_geti (z := S0 (zz_rf 6 t) 6) zd_4_11_69 zf_Layer_32 (zT_k6 (by omega)) rfl (zN_k6 hn (by omega)) rfl ?_
    refine zz_imul zd_4_11_72 ?_
    refine zz_nrm (fun v5 hv5 ev5 => ?_)
    refine zz_iadd zd_4_11_73 ?_
    refine zz_nrm (fun v6 hv6 ev6 => ?_)
    refine zz_aload_n (x := zz_rf 6 t) rfl zd_4_11_74 ?_
    have g7 := zz_G.r G_S0 (zz_rf 6 t) 3 (-2147483648) 2147483647 (zR_k6_3 (by omega)) (zB_k6 (by omega))
    refine zz_geti (z := S0 (zz_rf 6 t) 3) zd_4_11_75 zf_Layer_23 (zT_k6 (by omega)) rfl (zN_k6 hn (by omega)) rfl ?_
    refine zz_isub zd_4_11_78 ?_
    refine zz_nrm (fun v8 hv8 ev8 => ?_)
    refine zz_istore_n [some (.ref (zz_rf 6 t)), some (.ref (zz_rf 6 p0)), some (.ref (zz_rf 6 p1)), some (zi v8)] zd_4_11_79 (by decide) rfl ?_
    refine zz_aload_n (x := zz_rf 6 p0) rfl zd_4_11_80 ?_
    have g9 := zz_G.r G_S0 (zz_rf 6 p0) 11 (-2147483648) 2147483647 (zR_k6_11 (by omega)) (zB_k6 (by omega))
    refine zz_geti (z := S0 (zz_rf 6 p0) 11) zd_4_11_81 zf_Layer_57 (zT_k6 (by omega)) rfl (zN_k6 hn (by omega)) rfl ?_
    refine zz_iconst zd_4_11_84 ?_
    refine zz_aload_n (x := zz_rf 6 t) rfl zd_4_11_85 ?_
    refine zz_geti (z := S0 (zz_rf 6 t) 6) zd_4_11_86 zf_Layer_32 (zT_k6 (by omega)) rfl (zN_k6 hn (by omega)) rfl ?_
    refine zz_imul zd_4_11_89 ?_
    refine zz_nrm (fun v10 hv10 ev10 => ?_)
    refine zz_iadd zd_4_11_90 ?_
    refine zz_nrm (fun v11 hv11 ev11 => ?_)
    refine zz_aload_n (x := zz_rf 6 t) rfl zd_4_11_91 ?_
    have g12 := zz_G.r G_S0 (zz_rf 6 t) 4 (-2147483648) 2147483647 (zR_k6_4 (by omega)) (zB_k6 (by omega))
    refine zz_geti (z := S0 (zz_rf 6 t) 4) zd_4_11_92 zf_Layer_26 (zT_k6 (by omega)) rfl (zN_k6 hn (by omega)) rfl ?_
    refine zz_isub zd_4_11_95 ?_
    refine zz_nrm (fun v13 hv13 ev13 => ?_)
    refine zz_istore [some (.ref (zz_rf 6 t)), some (.ref (zz_rf 6 p0)), some (.ref (zz_rf 6 p1)), some (zi v8), some (zi v13)] zd_4_11_96 (by decide) rfl ?_
    refine zz_iload_n (x := v8) rfl zd_4_11_98 ?_
    refine zz_if_lt (by omega) zd_4_11_99 (fun c14 => ?_) (fun c14 => ?_)
    · refine zz_iconst zd_4_11_115 ?_
      exact zz_zret zd_4_11_116 rfl (by omega) (Nat.zero_le _) (Nat.zero_le _) ⟨_, _, rfl, G_S0, F_S0, by omega, fun hr => absurd hr (by decide)⟩
    · refine zz_iload (x := v13) rfl zd_4_11_102 ?_
      refine zz_if_lt (by omega) zd_4_11_104 (fun c15 => ?_) (fun c15 => ?_)
      · refine zz_iconst zd_4_11_115 ?_
        exact zz_zret zd_4_11_116 rfl (by omega) (Nat.zero_le _) (Nat.zero_le _) ⟨_, _, rfl, G_S0, F_S0, by omega, fun hr => absurd hr (by decide)⟩
      · refine zz_aload_n (x := zz_rf 6 t) rfl zd_4_11_107 ?_
        have g16 := zz_G.r G_S0 (zz_rf 6 t) 5 (-2147483648) 2147483647 (zR_k6_5 (by omega)) (zB_k6 (by omega))
        refine zz_geti (z := S0 (zz_rf 6 t) 5) zd_4_11_108 zf_Layer_29 (zT_k6 (by omega)) rfl (zN_k6 hn (by omega)) rfl ?_
        refine zz_iconst zd_4_11_111 ?_
        refine zz_icmp_ge (by omega) (by omega) zd_4_11_112 (fun c17 => ?_) (fun c17 => ?_)
        · refine zz_aload_n (x := zz_rf 6 t) rfl zd_4_11_117 ?_
          refine zz_iload_n (x := v8) rfl zd_4_11_118 ?_
          refine zz_aload_n (x := zz_rf 6 t) rfl zd_4_11_119 ?_
          refine zz_geti (z := S0 (zz_rf 6 t) 5) zd_4_11_120 zf_Layer_29 (zT_k6 (by omega)) rfl (zN_k6 hn (by omega)) rfl ?_
          refine zz_idiv (by omega) (by omega) zd_4_11_123 (fun v18 hv18 av18 bv18 cv18 => ?_)
          have m19 := zz_divb (by omega) (by omega) av18
          refine zz_iconst zd_4_11_124 ?_
          refine zz_iadd zd_4_11_125 ?_
          refine zz_nrm (fun v20 hv20 ev20 => ?_)
          refine zz_puti zd_4_11_126 zf_Layer_54 (zT_k6 (by omega)) rfl (zN_k6 hn (by omega)) (fun S21 qS21 => ?_)
          have G_S21 := zz_G.put G_S0 qS21 (-2147483648) 2147483647 (zR_k6_10 (by omega)) (by omega)
          have F_S21 := zz_fr.putv F_S0 qS21 (Or.inl ⟨rfl, rfl⟩)
          refine zz_aload_n (x := zz_rf 6 t) rfl zd_4_11_129 ?_
          refine zz_iload (x := v13) rfl zd_4_11_130 ?_
          refine zz_aload_n (x := zz_rf 6 t) rfl zd_4_11_132 ?_
          refine zz_geti (z := S0 (zz_rf 6 t) 5) zd_4_11_133 zf_Layer_29 (zT_k6 (by omega)) rfl (zN_k6 hn (by omega)) (zz_ro qS21 (fun h => absurd h.2 (by decide)) rfl) ?_
          refine zz_idiv (by omega) (by omega) zd_4_11_136 (fun v22 hv22 av22 bv22 cv22 => ?_)
          have m23 := zz_divb (by omega) (by omega) av22
          refine zz_iconst zd_4_11_137 ?_
          refine zz_iadd zd_4_11_138 ?_
          refine zz_nrm (fun v24 hv24 ev24 => ?_)
          refine zz_puti zd_4_11_139 zf_Layer_57 (zT_k6 (by omega)) rfl (zN_k6 hn (by omega)) (fun S25 qS25 => ?_)
          have G_S25 := zz_G.put G_S21 qS25 (-2147483648) 2147483647 (zR_k6_11 (by omega)) (by omega)
          have F_S25 := zz_fr.putv F_S21 qS25 (Or.inr (Or.inl ⟨rfl, rfl⟩))
          refine zz_aload_n (x := zz_rf 6 t) rfl zd_4_11_142 ?_
          refine zz_geti (z := S0 (zz_rf 6 t) 0) zd_4_11_143 zf_Layer_13 (zT_k6 (by omega)) rfl (zN_k6 hn (by omega)) (zz_ro qS25 (fun h => absurd h.2 (by decide)) (zz_ro qS21 (fun h => absurd h.2 (by decide)) rfl)) ?_
          refine zz_iconst zd_4_11_146 ?_
          refine zz_icmp_ne (by omega) (by omega) zd_4_11_147 (fun c26 => ?_) (fun c26 => ?_)
          · refine zz_aload_n (x := zz_rf 6 t) rfl zd_4_11_161 ?_
            have g27 := zz_G.r G_S0 (zz_rf 6 t) 9 (-2147483648) 2147483647 (zR_k6_9 (by omega)) (zB_k6 (by omega))
            refine zz_geti (z := S0 (zz_rf 6 t) 9) zd_4_11_162 zf_Layer_42 (zT_k6 (by omega)) rfl (zN_k6 hn (by omega)) (zz_ro qS25 (fun h => absurd h.2 (by decide)) (zz_ro qS21 (fun h => absurd h.2 (by decide)) rfl)) ?_
            refine zz_if_lt (by omega) zd_4_11_165 (fun c28 => ?_) (fun c28 => ?_)
            · refine zz_iconst zd_4_11_184 ?_
              have e29 : S25 (zz_rf 6 t) 12 = S0 (zz_rf 6 t) 12 := (zz_ro qS25 (fun h => absurd h.2 (by decide)) (zz_ro qS21 (fun h => absurd h.2 (by decide)) rfl))
              exact zz_zret zd_4_11_185 rfl (by omega) (Nat.zero_le _) (Nat.zero_le _) ⟨_, _, rfl, G_S25, F_S25, by omega, fun hr => absurd hr (by decide)⟩
            · refine zz_aload_n (x := zz_rf 6 t) rfl zd_4_11_168 ?_
              refine zz_geti (z := S0 (zz_rf 6 t) 9) zd_4_11_169 zf_Layer_42 (zT_k6 (by omega)) rfl (zN_k6 hn (by omega)) (zz_ro qS25 (fun h => absurd h.2 (by decide)) (zz_ro qS21 (fun h => absurd h.2 (by decide)) rfl)) ?_
              refine zz_sipush (by decide) zd_4_11_172 ?_
              refine zz_aload_n (x := zz_rf 6 t) rfl zd_4_11_175 ?_
              refine zz_aload_n (x := zz_rf 6 p0) rfl zd_4_11_176 ?_
              refine zz_callVI [.ref (zz_rf 6 p0)] zd_4_11_177 zk_Layer_69 (zT_k6 (by omega)) (zN_k6 hn (by omega)) rfl rfl ⟨Nat.le_of_ble_eq_true rfl, Nat.le_of_ble_eq_true rfl⟩ ⟨rfl, rfl⟩ (Nat.zero_le _) (Nat.zero_le _) (zc_parametersSize_4_12 t p0 S25 n hn G_S25 (by omega) (by omega)) (fun v31 S30 hP => ?_)
              obtain ⟨rfl, o32⟩ := hP
              refine zz_isub zd_4_11_180 ?_
              refine zz_nrm (fun v33 hv33 ev33 => ?_)
              refine zz_icmp_le (by omega) (by omega) zd_4_11_181 (fun c34 => ?_) (fun c34 => ?_)
              · refine zz_aload_n (x := zz_rf 6 t) rfl zd_4_11_186 ?_
                refine zz_geti (z := v20) zd_4_11_187 zf_Layer_54 (zT_k6 (by omega)) rfl (zN_k6 hn (by omega)) (zz_ro qS25 (fun h => absurd h.2 (by decide)) (zz_rs qS21)) ?_
                refine zz_iconst zd_4_11_190 ?_
                refine zz_bipush (by decide) zd_4_11_191 ?_
                refine zz_callSI [zi v20, zi 1, zi 63] zd_4_11_193 zk_Layer_63 rfl rfl ⟨Nat.le_of_ble_eq_true rfl, Nat.le_of_ble_eq_true rfl⟩ ⟨rfl, rfl⟩ (Nat.zero_le _) (Nat.zero_le _) (zc_isWithin_4_9 v20 1 63 S25 n hn G_S25 (by omega) (by omega) (by omega)) (fun v36 S35 hP => ?_)
                obtain ⟨rfl, o37, o38⟩ := hP
                rcases (by omega : v36 = 0 ∨ v36 = 1) with rfl | rfl
                · refine zz_if_eq (by omega) zd_4_11_196 (fun c39 => ?_) (fun c39 => ?_)
                  · refine zz_iconst zd_4_11_216 ?_
                    have e40 : S25 (zz_rf 6 t) 12 = S0 (zz_rf 6 t) 12 := (zz_ro qS25 (fun h => absurd h.2 (by decide)) (zz_ro qS21 (fun h => absurd h.2 (by decide)) rfl))
                    exact zz_zret zd_4_11_217 rfl (by omega) (Nat.zero_le _) (Nat.zero_le _) ⟨_, _, rfl, G_S25, F_S25, by omega, fun hr => absurd hr (by decide)⟩
                  · exfalso; omega
                · refine zz_if_eq (by omega) zd_4_11_196 (fun c41 => ?_) (fun c41 => ?_)
                  · exfalso; omega
                  · refine zz_aload_n (x := zz_rf 6 t) rfl zd_4_11_199 ?_
                    refine zz_geti (z := v24) zd_4_11_200 zf_Layer_57 (zT_k6 (by omega)) rfl (zN_k6 hn (by omega)) (zz_rs qS25) ?_
                    refine zz_iconst zd_4_11_203 ?_
                    refine zz_bipush (by decide) zd_4_11_204 ?_
                    refine zz_callSI [zi v24, zi 1, zi 63] zd_4_11_206 zk_Layer_63 rfl rfl ⟨Nat.le_of_ble_eq_true rfl, Nat.le_of_ble_eq_true rfl⟩ ⟨rfl, rfl⟩ (Nat.zero_le _) (Nat.zero_le _) (zc_isWithin_4_9 v24 1 63 S25 n hn G_S25 (by omega) (by omega) (by omega)) (fun v43 S42 hP => ?_)
                    obtain ⟨rfl, o44, o45⟩ := hP
                    rcases (by omega : v43 = 0 ∨ v43 = 1) with rfl | rfl
                    · refine zz_if_eq (by omega) zd_4_11_209 (fun c46 => ?_) (fun c46 => ?_)
                      · refine zz_iconst zd_4_11_216 ?_
                        have e47 : S25 (zz_rf 6 t) 12 = S0 (zz_rf 6 t) 12 := (zz_ro qS25 (fun h => absurd h.2 (by decide)) (zz_ro qS21 (fun h => absurd h.2 (by decide)) rfl))
                        exact zz_zret zd_4_11_217 rfl (by omega) (Nat.zero_le _) (Nat.zero_le _) ⟨_, _, rfl, G_S25, F_S25, by omega, fun hr => absurd hr (by decide)⟩
                      · exfalso; omega
                    · refine zz_if_eq (by omega) zd_4_11_209 (fun c48 => ?_) (fun c48 => ?_)
                      · exfalso; omega
                      · refine zz_iconst zd_4_11_212 ?_
                        refine zz_goto zd_4_11_213 ?_
                        have e49 : S25 (zz_rf 6 t) 12 = S0 (zz_rf 6 t) 12 := (zz_ro qS25 (fun h => absurd h.2 (by decide)) (zz_ro qS21 (fun h => absurd h.2 (by decide)) rfl))
                        exact zz_zret zd_4_11_217 rfl (by omega) (Nat.zero_le _) (Nat.zero_le _) ⟨_, _, rfl, G_S25, F_S25, by omega, fun _ => Or.inr ⟨by omega, by omega, by omega⟩⟩
              · refine zz_iconst zd_4_11_184 ?_
                have e50 : S25 (zz_rf 6 t) 12 = S0 (zz_rf 6 t) 12 := (zz_ro qS25 (fun h => absurd h.2 (by decide)) (zz_ro qS21 (fun h => absurd h.2 (by decide)) rfl))
                exact zz_zret zd_4_11_185 rfl (by omega) (Nat.zero_le _) (Nat.zero_le _) ⟨_, _, rfl, G_S25, F_S25, by omega, fun hr => absurd hr (by decide)⟩
          · refine zz_aload_n (x := zz_rf 6 t) rfl zd_4_11_150 ?_
            refine zz_aload_n (x := zz_rf 6 p0) rfl zd_4_11_151 ?_
            have g51 := zz_G.r G_S0 (zz_rf 6 p0) 12 (-2147483648) 2147483647 (zR_k6_12 (by omega)) (zB_k6 (by omega))
            refine zz_geti (z := S0 (zz_rf 6 p0) 12) zd_4_11_152 zf_Layer_60 (zT_k6 (by omega)) rfl (zN_k6 hn (by omega)) (zz_ro qS25 (fun h => absurd h.2 (by decide)) (zz_ro qS21 (fun h => absurd h.2 (by decide)) rfl)) ?_
            refine zz_puti zd_4_11_155 zf_Layer_60 (zT_k6 (by omega)) rfl (zN_k6 hn (by omega)) (fun S52 qS52 => ?_)
            have G_S52 := zz_G.put G_S25 qS52 (-2147483648) 2147483647 (zR_k6_12 (by omega)) (by omega)
            have F_S52 := zz_fr.putv F_S25 qS52 (Or.inr (Or.inr (⟨rfl, rfl⟩)))
            refine zz_goto zd_4_11_158 ?_
            refine zz_aload_n (x := zz_rf 6 t) rfl zd_4_11_186 ?_
            refine zz_geti (z := v20) zd_4_11_187 zf_Layer_54 (zT_k6 (by omega)) rfl (zN_k6 hn (by omega)) (zz_ro qS52 (fun h => absurd h.2 (by decide)) (zz_ro qS25 (fun h => absurd h.2 (by decide)) (zz_rs qS21))) ?_
            refine zz_iconst zd_4_11_190 ?_
            refine zz_bipush (by decide) zd_4_11_191 ?_
            refine zz_callSI [zi v20, zi 1, zi 63] zd_4_11_193 zk_Layer_63 rfl rfl ⟨Nat.le_of_ble_eq_true rfl, Nat.le_of_ble_eq_true rfl⟩ ⟨rfl, rfl⟩ (Nat.zero_le _) (Nat.zero_le _) (zc_isWithin_4_9 v20 1 63 S52 n hn G_S52 (by omega) (by omega) (by omega)) (fun v54 S53 hP => ?_)
            obtain ⟨rfl, o55, o56⟩ := hP
            rcases (by omega : v54 = 0 ∨ v54 = 1) with rfl | rfl
            · refine zz_if_eq (by omega) zd_4_11_196 (fun c57 => ?_) (fun c57 => ?_)
              · refine zz_iconst zd_4_11_216 ?_
                have e58 : S52 (zz_rf 6 t) 12 = S0 (zz_rf 6 p0) 12 := (zz_rs qS52)
                exact zz_zret zd_4_11_217 rfl (by omega) (Nat.zero_le _) (Nat.zero_le _) ⟨_, _, rfl, G_S52, F_S52, by omega, fun hr => absurd hr (by decide)⟩
              · exfalso; omega
            · refine zz_if_eq (by omega) zd_4_11_196 (fun c59 => ?_) (fun c59 => ?_)
              · exfalso; omega
              · refine zz_aload_n (x := zz_rf 6 t) rfl zd_4_11_199 ?_
                refine zz_geti (z := v24) zd_4_11_200 zf_Layer_57 (zT_k6 (by omega)) rfl (zN_k6 hn (by omega)) (zz_ro qS52 (fun h => absurd h.2 (by decide)) (zz_rs qS25)) ?_
                refine zz_iconst zd_4_11_203 ?_
                refine zz_bipush (by decide) zd_4_11_204 ?_
                refine zz_callSI [zi v24, zi 1, zi 63] zd_4_11_206 zk_Layer_63 rfl rfl ⟨Nat.le_of_ble_eq_true rfl, Nat.le_of_ble_eq_true rfl⟩ ⟨rfl, rfl⟩ (Nat.zero_le _) (Nat.zero_le _) (zc_isWithin_4_9 v24 1 63 S52 n hn G_S52 (by omega) (by omega) (by omega)) (fun v61 S60 hP => ?_)
                obtain ⟨rfl, o62, o63⟩ := hP
                rcases (by omega : v61 = 0 ∨ v61 = 1) with rfl | rfl
                · refine zz_if_eq (by omega) zd_4_11_209 (fun c64 => ?_) (fun c64 => ?_)
                  · refine zz_iconst zd_4_11_216 ?_
                    have e65 : S52 (zz_rf 6 t) 12 = S0 (zz_rf 6 p0) 12 := (zz_rs qS52)
                    exact zz_zret zd_4_11_217 rfl (by omega) (Nat.zero_le _) (Nat.zero_le _) ⟨_, _, rfl, G_S52, F_S52, by omega, fun hr => absurd hr (by decide)⟩
                  · exfalso; omega
                · refine zz_if_eq (by omega) zd_4_11_209 (fun c66 => ?_) (fun c66 => ?_)
                  · exfalso; omega
                  · refine zz_iconst zd_4_11_212 ?_
                    refine zz_goto zd_4_11_213 ?_
                    have e67 : S52 (zz_rf 6 t) 12 = S0 (zz_rf 6 p0) 12 := (zz_rs qS52)
                    exact zz_zret zd_4_11_217 rfl (by omega) (Nat.zero_le _) (Nat.zero_le _) ⟨_, _, rfl, G_S52, F_S52, by omega, fun _ => Or.inl ⟨Or.inr (by omega), by omega⟩⟩
        · refine zz_iconst zd_4_11_115 ?_
          exact zz_zret zd_4_11_116 rfl (by omega) (Nat.zero_le _) (Nat.zero_le _) ⟨_, _, rfl, G_S0, F_S0, by omega, fun hr => absurd hr (by decide)⟩
  · refine zz_aload_n (x := zz_rf 6 t) rfl zd_4_11_8 ?_
    refine zz_aload_n (x := zz_rf 6 p0) rfl zd_4_11_9 ?_
    have g68 := zz_G.r G_S0 (zz_rf 6 p0) 10 (-2147483648) 2147483647 (zR_k6_10 (by omega)) (zB_k6 (by omega))
    refine zz_geti (z := S0 (zz_rf 6 p0) 10) zd_4_11_10 zf_Layer_54 (zT_k6 (by omega)) rfl (zN_k6 hn (by omega)) rfl ?_
    refine zz_aload_n (x := zz_rf 6 p0) rfl zd_4_11_13 ?_
    have g69 := zz_G.r G_S0 (zz_rf 6 p0) 11 (-2147483648) 2147483647 (zR_k6_11 (by omega)) (zB_k6 (by omega))
    refine zz_geti (z := S0 (zz_rf 6 p0) 11) zd_4_11_14 zf_Layer_57 (zT_k6 (by omega)) rfl (zN_k6 hn (by omega)) rfl ?_
    refine zz_aload_n (x := zz_rf 6 p0) rfl zd_4_11_17 ?_
    have g70 := zz_G.r G_S0 (zz_rf 6 p0) 12 (-2147483648) 2147483647 (zR_k6_12 (by omega)) (zB_k6 (by omega))
    refine zz_geti (z := S0 (zz_rf 6 p0) 12) zd_4_11_18 zf_Layer_60 (zT_k6 (by omega)) rfl (zN_k6 hn (by omega)) rfl ?_
    refine zz_callVV [zi (S0 (zz_rf 6 p0) 10), zi (S0 (zz_rf 6 p0) 11), zi (S0 (zz_rf 6 p0) 12)] zd_4_11_21 zk_Layer_45 (zT_k6 (by omega)) (zN_k6 hn (by omega)) rfl rfl ⟨Nat.le_of_ble_eq_true rfl, Nat.le_of_ble_eq_true rfl⟩ ⟨rfl, rfl⟩ (Nat.zero_le _) (Nat.zero_le _) (zc_takeForm_4_3 t (S0 (zz_rf 6 p0) 10) (S0 (zz_rf 6 p0) 11) (S0 (zz_rf 6 p0) 12) S0 n hn G_S0 (by omega) (by omega) (by omega) (by omega)) (fun S71 hP => ?_)
    obtain ⟨G_S71, fS71, o73⟩ := hP
    have F_S71 := zz_fr.trans F_S0 fS71 rfl (fun a i h => by rcases h with h | h | h; exact Or.inr (Or.inr (Or.inl h)); exact Or.inr (Or.inr (Or.inr (Or.inl h))); exact Or.inr (Or.inr (Or.inr (Or.inr (h)))))
    have b74 := zz_rf6 (z := t) (by omega)
    refine zz_aload_n (x := zz_rf 6 t) rfl zd_4_11_24 ?_
    have g75 := zz_G.r G_S71 (zz_rf 6 t) 10 (-2147483648) 2147483647 (zR_k6_10 (by omega)) (zB_k6 (by omega))
    refine zz_geti (z := S71 (zz_rf 6 t) 10) zd_4_11_25 zf_Layer_54 (zT_k6 (by omega)) rfl (zN_k6 hn (by omega)) rfl ?_
    refine zz_aload_n (x := zz_rf 6 p1) rfl zd_4_11_28 ?_
    have g76 := zz_G.r G_S71 (zz_rf 6 p1) 10 (-2147483648) 2147483647 (zR_k6_10 (by omega)) (zB_k6 (by omega))
    refine zz_geti (z := S71 (zz_rf 6 p1) 10) zd_4_11_29 zf_Layer_54 (zT_k6 (by omega)) rfl (zN_k6 hn (by omega)) rfl ?_
    refine zz_icmp_ne (by omega) (by omega) zd_4_11_32 (fun c77 => ?_) (fun c77 => ?_)
    · refine zz_iconst zd_4_11_61 ?_
      exact zz_zret zd_4_11_62 rfl (by omega) (Nat.zero_le _) (Nat.zero_le _) ⟨_, _, rfl, G_S71, F_S71, by omega, fun hr => absurd hr (by decide)⟩
    · refine zz_aload_n (x := zz_rf 6 t) rfl zd_4_11_35 ?_
      have g78 := zz_G.r G_S71 (zz_rf 6 t) 11 (-2147483648) 2147483647 (zR_k6_11 (by omega)) (zB_k6 (by omega))
      refine zz_geti (z := S71 (zz_rf 6 t) 11) zd_4_11_36 zf_Layer_57 (zT_k6 (by omega)) rfl (zN_k6 hn (by omega)) rfl ?_
      refine zz_aload_n (x := zz_rf 6 p1) rfl zd_4_11_39 ?_
      have g79 := zz_G.r G_S71 (zz_rf 6 p1) 11 (-2147483648) 2147483647 (zR_k6_11 (by omega)) (zB_k6 (by omega))
      refine zz_geti (z := S71 (zz_rf 6 p1) 11) zd_4_11_40 zf_Layer_57 (zT_k6 (by omega)) rfl (zN_k6 hn (by omega)) rfl ?_
      refine zz_icmp_ne (by omega) (by omega) zd_4_11_43 (fun c80 => ?_) (fun c80 => ?_)
      · refine zz_iconst zd_4_11_61 ?_
        exact zz_zret zd_4_11_62 rfl (by omega) (Nat.zero_le _) (Nat.zero_le _) ⟨_, _, rfl, G_S71, F_S71, by omega, fun hr => absurd hr (by decide)⟩
      · refine zz_aload_n (x := zz_rf 6 t) rfl zd_4_11_46 ?_
        have g81 := zz_G.r G_S71 (zz_rf 6 t) 12 (-2147483648) 2147483647 (zR_k6_12 (by omega)) (zB_k6 (by omega))
        refine zz_geti (z := S71 (zz_rf 6 t) 12) zd_4_11_47 zf_Layer_60 (zT_k6 (by omega)) rfl (zN_k6 hn (by omega)) rfl ?_
        refine zz_aload_n (x := zz_rf 6 p1) rfl zd_4_11_50 ?_
        have g82 := zz_G.r G_S71 (zz_rf 6 p1) 12 (-2147483648) 2147483647 (zR_k6_12 (by omega)) (zB_k6 (by omega))
        refine zz_geti (z := S71 (zz_rf 6 p1) 12) zd_4_11_51 zf_Layer_60 (zT_k6 (by omega)) rfl (zN_k6 hn (by omega)) rfl ?_
        refine zz_icmp_ne (by omega) (by omega) zd_4_11_54 (fun c83 => ?_) (fun c83 => ?_)
        · refine zz_iconst zd_4_11_61 ?_
          exact zz_zret zd_4_11_62 rfl (by omega) (Nat.zero_le _) (Nat.zero_le _) ⟨_, _, rfl, G_S71, F_S71, by omega, fun hr => absurd hr (by decide)⟩
        · refine zz_iconst zd_4_11_57 ?_
          refine zz_goto zd_4_11_58 ?_
          exact zz_zret zd_4_11_62 rfl (by omega) (Nat.zero_le _) (Nat.zero_le _) ⟨_, _, rfl, G_S71, F_S71, by omega, fun _ => Or.inl ⟨Or.inl (by omega), by omega⟩⟩
theorem zk_Network_52 : mm_Vl "TensorForge$Network" 52 2 2 zy_takeResult_4_11 := ⟨zyw_takeResult_4_11, (R_Layer, F_Layer, 15), rfl, mm_tb_1 1001 (by decide +kernel) rfl, mm_tb_1 1002 (by decide +kernel) rfl, mm_tb_1 1003 (by decide +kernel) rfl⟩
theorem zd_7_7_58 : zz_B zy_offer_7_7 58 (Instr.ifCond .ne) 63 61 := ⟨5, by decide +kernel, rfl, rfl⟩
theorem zd_7_7_63 : zz_D zy_offer_7_7 63 (.aload_n 0) 1 64 := ⟨by decide +kernel, rfl⟩
theorem zd_7_7_64 : zz_D zy_offer_7_7 64 (.invokevirtual 56) 3 67 := ⟨by decide +kernel, rfl⟩
abbrev zy_endOfAll_7_8 : mm_Y := (⟨"TensorForge$Network", "endOfAll", "()I"⟩, prog_7_method_8_code, 3, (some .int))
theorem zyw_endOfAll_7_8 : mm_Yw zy_endOfAll_7_8 0 := ⟨mm_tb_1 1012 (by decide +kernel) rfl, mm_tb_1 2 (by decide +kernel) rfl, ⟨by decide, by decide⟩, by decide +kernel⟩
theorem zd_7_8_0 : zz_D zy_endOfAll_7_8 0 (.iconst 0) 1 1 := ⟨by decide +kernel, rfl⟩
theorem zd_7_8_1 : zz_D zy_endOfAll_7_8 1 (.istore_n 1) 1 2 := ⟨by decide +kernel, rfl⟩
theorem zd_7_8_2 : zz_D zy_endOfAll_7_8 2 (.iconst 0) 1 3 := ⟨by decide +kernel, rfl⟩
theorem zd_7_8_3 : zz_D zy_endOfAll_7_8 3 (.istore_n 2) 1 4 := ⟨by decide +kernel, rfl⟩
theorem zd_7_8_4 : zz_D zy_endOfAll_7_8 4 (.iload_n 2) 1 5 := ⟨by decide +kernel, rfl⟩
theorem zd_7_8_5 : zz_D zy_endOfAll_7_8 5 (.aload_n 0) 1 6 := ⟨by decide +kernel, rfl⟩
theorem zd_7_8_6 : zz_D zy_endOfAll_7_8 6 (.getfield 16) 3 9 := ⟨by decide +kernel, rfl⟩
theorem zd_7_8_9 : zz_B zy_endOfAll_7_8 9 (Instr.if_icmp .ge) 42 12 := ⟨33, by decide +kernel, rfl, rfl⟩
theorem zd_7_8_12 : zz_D zy_endOfAll_7_8 12 (.iload_n 1) 1 13 := ⟨by decide +kernel, rfl⟩
theorem zd_7_8_13 : zz_D zy_endOfAll_7_8 13 (.aload_n 0) 1 14 := ⟨by decide +kernel, rfl⟩
theorem zd_7_8_14 : zz_D zy_endOfAll_7_8 14 (.getfield 11) 3 17 := ⟨by decide +kernel, rfl⟩
theorem zd_7_8_17 : zz_D zy_endOfAll_7_8 17 (.iload_n 2) 1 18 := ⟨by decide +kernel, rfl⟩
theorem zd_7_8_18 : zz_D zy_endOfAll_7_8 18 (.aaload) 1 19 := ⟨by decide +kernel, rfl⟩
theorem zd_7_8_19 : zz_D zy_endOfAll_7_8 19 (.getfield 63) 3 22 := ⟨by decide +kernel, rfl⟩
theorem zf_Network_63 : mm_Fl "TensorForge$Network" 63 2 13 .int false := ⟨R_Layer, F_Layer, 15, t_Layer, rfl, i_Layer, by decide, mm_tb_1 108 (by decide +kernel) rfl, rfl, t_Layer_ok, n_Layer, rfl, by decide +kernel⟩
theorem zd_7_8_22 : zz_D zy_endOfAll_7_8 22 (.aload_n 0) 1 23 := ⟨by decide +kernel, rfl⟩
theorem zd_7_8_23 : zz_D zy_endOfAll_7_8 23 (.getfield 11) 3 26 := ⟨by decide +kernel, rfl⟩
theorem zd_7_8_26 : zz_D zy_endOfAll_7_8 26 (.iload_n 2) 1 27 := ⟨by decide +kernel, rfl⟩
theorem zd_7_8_27 : zz_D zy_endOfAll_7_8 27 (.aaload) 1 28 := ⟨by decide +kernel, rfl⟩
theorem zd_7_8_28 : zz_D zy_endOfAll_7_8 28 (.invokevirtual 60) 3 31 := ⟨by decide +kernel, rfl⟩
abbrev zy_size_4_7 : mm_Y := (⟨"TensorForge$Layer", "size", "()I"⟩, prog_4_method_7_code, 1, (some .int))
theorem zyw_size_4_7 : mm_Yw zy_size_4_7 0 := ⟨mm_tb_1 1016 (by decide +kernel) rfl, mm_tb_1 3 (by decide +kernel) rfl, ⟨by decide, by decide⟩, by decide +kernel⟩
theorem zd_4_7_0 : zz_D zy_size_4_7 0 (.aload_n 0) 1 1 := ⟨by decide +kernel, rfl⟩
theorem zd_4_7_1 : zz_D zy_size_4_7 1 (.getfield 54) 3 4 := ⟨by decide +kernel, rfl⟩
theorem zd_4_7_4 : zz_D zy_size_4_7 4 (.aload_n 0) 1 5 := ⟨by decide +kernel, rfl⟩
theorem zd_4_7_5 : zz_D zy_size_4_7 5 (.getfield 57) 3 8 := ⟨by decide +kernel, rfl⟩
theorem zd_4_7_8 : zz_D zy_size_4_7 8 (.imul) 1 9 := ⟨by decide +kernel, rfl⟩
theorem zd_4_7_9 : zz_D zy_size_4_7 9 (.aload_n 0) 1 10 := ⟨by decide +kernel, rfl⟩
theorem zd_4_7_10 : zz_D zy_size_4_7 10 (.getfield 60) 3 13 := ⟨by decide +kernel, rfl⟩
theorem zd_4_7_13 : zz_D zy_size_4_7 13 (.imul) 1 14 := ⟨by decide +kernel, rfl⟩
theorem zd_4_7_14 : zz_D zy_size_4_7 14 (.ireturn) 1 15 := ⟨by decide +kernel, rfl⟩
-- TensorForge$Layer size ()I
abbrev zr_size_4_7 : Room := { frames := 0, cells := 0, slots := 0, locals := 0 }
def zp_size_4_7 (t : Int) (S0 : zz_S) : Int → zz_S → Prop := fun r S => S0 = S ∧ ((-2147483648) ≤ r ∧ r ≤ 2147483647)
theorem zc_size_4_7 {g : mm_G} {l : Launch} (t : Int) (S0 : zz_S) (n : Nat) (hn : zz_end ≤ n) (G_S0 : zz_G S0) (ht : 0 ≤ t ∧ t ≤ 23) : mm_Met g l zy_size_4_7 zr_size_4_7 [.ref (zz_rf 6 t)] (zz_M S0 n) n (zz_QI n (zp_size_4_7 t S0)) := by
  refine zz_enter (by decide) (Nat.le_of_ble_eq_true rfl) (zz_less (ls1 := [some (.ref (zz_rf 6 t))]) ⟨rfl, trivial⟩ ?_)
  have b_t := zz_rf6 (z := t) (by omega)
  refine zz_aload_n (x := zz_rf 6 t) rfl zd_4_7_0 ?_
  have g1 := zz_G.r G_S0 (zz_rf 6 t) 10 (-2147483648) 2147483647 (zR_k6_10 (by omega)) (zB_k6 (by omega))
  refine zz_geti (z := S0 (zz_rf 6 t) 10) zd_4_7_1 zf_Layer_54 (zT_k6 (by omega)) rfl (zN_k6 hn (by omega)) rfl ?_
  refine zz_aload_n (x := zz_rf 6 t) rfl zd_4_7_4 ?_
  have g2 := zz_G.r G_S0 (zz_rf 6 t) 11 (-2147483648) 2147483647 (zR_k6_11 (by omega)) (zB_k6 (by omega))
  refine zz_geti (z := S0 (zz_rf 6 t) 11) zd_4_7_5 zf_Layer_57 (zT_k6 (by omega)) rfl (zN_k6 hn (by omega)) rfl ?_
  refine zz_imul zd_4_7_8 ?_
  refine zz_nrm (fun v3 hv3 ev3 => ?_)
  refine zz_aload_n (x := zz_rf 6 t) rfl zd_4_7_9 ?_
  have g4 := zz_G.r G_S0 (zz_rf 6 t) 12 (-2147483648) 2147483647 (zR_k6_12 (by omega)) (zB_k6 (by omega))
  refine zz_geti (z := S0 (zz_rf 6 t) 12) zd_4_7_10 zf_Layer_60 (zT_k6 (by omega)) rfl (zN_k6 hn (by omega)) rfl ?_
  refine zz_imul zd_4_7_13 ?_
  refine zz_nrm (fun v5 hv5 ev5 => ?_)
  exact zz_iret zd_4_7_14 rfl (Nat.zero_le _) (Nat.zero_le _) ⟨_, _, rfl, rfl, by omega⟩
theorem zk_Network_60 : mm_Vl "TensorForge$Network" 60 2 0 zy_size_4_7 := ⟨zyw_size_4_7, (R_Layer, F_Layer, 15), rfl, mm_tb_1 1013 (by decide +kernel) rfl, mm_tb_1 1014 (by decide +kernel) rfl, mm_tb_1 1015 (by decide +kernel) rfl⟩
theorem zd_7_8_31 : zz_D zy_endOfAll_7_8 31 (.iadd) 1 32 := ⟨by decide +kernel, rfl⟩
theorem zd_7_8_32 : zz_D zy_endOfAll_7_8 32 (.invokestatic 66) 3 35 := ⟨by decide +kernel, rfl⟩
theorem zm_Network_66 : Cond.methodLink "TensorForge$Network" 66 Lib.Math.max.name ∈ mm_tb ∧ Cond.static Lib.Math.max.name ∈ mm_tb ∧ Cond.initialized "java/lang/Math" ∈ mm_tb ∧ Cond.code Lib.Math.max.name Lib.Math.max.code 2 (some .int) ∈ mm_tb := ⟨mm_tb_1 1017 (by decide +kernel) rfl, mm_tb_1 709 (by decide +kernel) rfl, mm_tb_1 25 (by decide +kernel) rfl, mm_tb_1 710 (by decide +kernel) rfl⟩
theorem zd_7_8_35 : zz_D zy_endOfAll_7_8 35 (.istore_n 1) 1 36 := ⟨by decide +kernel, rfl⟩
theorem zd_7_8_36 : zz_D zy_endOfAll_7_8 36 (.iinc 2 1) 3 39 := ⟨by decide +kernel, rfl⟩
theorem zd_7_8_39 : zz_B zy_endOfAll_7_8 39 Instr.goto 4 42 := ⟨(-35), by decide +kernel, rfl, rfl⟩
theorem zd_7_8_42 : zz_D zy_endOfAll_7_8 42 (.iload_n 1) 1 43 := ⟨by decide +kernel, rfl⟩
theorem zd_7_8_43 : zz_D zy_endOfAll_7_8 43 (.ireturn) 1 44 := ⟨by decide +kernel, rfl⟩
-- TensorForge$Network endOfAll ()I
abbrev zr_endOfAll_7_8 : Room := { frames := 1, cells := 0, slots := 0, locals := 14 }
def zp_endOfAll_7_8 (t : Int) (S0 : zz_S) : Int → zz_S → Prop := fun r S => S0 = S ∧ ((-2147483648) ≤ r ∧ r ≤ 2147483647)
theorem zb_endOfAll_7_8_4 {g : mm_G} {l : Launch} (t : Int) (S0 : zz_S) (n : Nat) (hn : zz_end ≤ n) (G_S0 : zz_G S0) (ht : 0 ≤ t ∧ t ≤ 1) (x1 : Int) (x2 : Int) (S : zz_S) (G_S : zz_G S) (F_S : zz_fr [] [] (fun _ _ => False) S0 S) (i4_0 : 0 ≤ x1 ∧ x1 ≤ 2147483647) (i4_1 : 0 ≤ x2 ∧ x2 ≤ 11) (R : Nat) (hR : (S (zz_rf 3 t) 1 - x2).toNat = R) (k4 : ∀ (x1 : Int) (x2 : Int) (S : zz_S), zz_G S → zz_fr [] [] (fun _ _ => False) S0 S → (0 ≤ x1 ∧ x1 ≤ 2147483647) → (0 ≤ x2 ∧ x2 ≤ 11) → (S (zz_rf 3 t) 1 - x2).toNat < R → zz_E g l zy_endOfAll_7_8 zr_endOfAll_7_8 (zz_QI n (zp_endOfAll_7_8 t S0)) S n 4 [some (.ref (zz_rf 3 t)), some (zi x1), some (zi x2)] [] 0 0) : zz_E g l zy_endOfAll_7_8 zr_endOfAll_7_8 (zz_QI n (zp_endOfAll_7_8 t S0)) S n 4 [some (.ref (zz_rf 3 t)), some (zi x1), some (zi x2)] [] 0 0 := by
  have b_t := zz_rf3 (z := t) (by omega)
  refine zz_iload_n (x := x2) rfl zd_7_8_4 ?_
  refine zz_aload_n (x := zz_rf 3 t) rfl zd_7_8_5 ?_
  have g1 := zz_G.r G_S0 (zz_rf 3 t) 1 1 11 (zR_k3_1 (by omega)) (zB_k3 (by omega))
  refine zz_geti (z := S0 (zz_rf 3 t) 1) zd_7_8_6 zf_Network_16 (zT_k3 (by omega)) rfl (zN_k3 hn (by omega)) (zz_rc F_S (zP_k3 (by omega) rfl) (zQ_k3 (by omega) rfl) (fun h => h) rfl) ?_
  refine zz_icmp_ge (by omega) (by omega) zd_7_8_9 (fun c2 => ?_) (fun c2 => ?_)
  · refine zz_iload_n (x := x1) rfl zd_7_8_42 ?_
    exact zz_iret zd_7_8_43 rfl (Nat.zero_le _) (Nat.zero_le _) ⟨_, _, rfl, zz_fr.eq F_S, by omega⟩
  · refine zz_iload_n (x := x1) rfl zd_7_8_12 ?_
    refine zz_aload_n (x := zz_rf 3 t) rfl zd_7_8_13 ?_
    refine zz_getr (kd := 0) (z := ((zz_rf 3 t + 1 : Nat) : Int)) zd_7_8_14 zf_Network_11 (zT_k3 (by omega)) rfl (zN_k3 hn (by omega)) (zE_k3a G_S (by omega)) (Int.natCast_nonneg _) (zz_rf 3 t + 1) (Int.toNat_natCast _) ?_
    refine zz_iload_n (x := x2) rfl zd_7_8_17 ?_
    refine zz_aald (kd := 4) (z := 12 * t + x2) zd_7_8_18 (zT_k3a (by omega)) rfl (zN_k3a hn (by omega)) (by decide) (by omega) (zE_lay G_S (by omega) (by omega)) (by omega) (zz_rf 6 (12 * t + x2)) rfl ?_
    have g3 := zz_G.r G_S0 (zz_rf 6 (12 * t + x2)) 13 (-2147483648) 2147483647 (zR_k6_13 (by omega)) (zB_k6 (by omega))
    refine zz_geti (z := S0 (zz_rf 6 (12 * t + x2)) 13) zd_7_8_19 zf_Network_63 (zT_k6 (by omega)) rfl (zN_k6 hn (by omega)) (zz_rc F_S (zP_k6 (by omega) rfl) (zQ_k6 (by omega) rfl) (fun h => h) rfl) ?_
    refine zz_aload_n (x := zz_rf 3 t) rfl zd_7_8_22 ?_
    refine zz_getr (kd := 0) (z := ((zz_rf 3 t + 1 : Nat) : Int)) zd_7_8_23 zf_Network_11 (zT_k3 (by omega)) rfl (zN_k3 hn (by omega)) (zE_k3a G_S (by omega)) (Int.natCast_nonneg _) (zz_rf 3 t + 1) (Int.toNat_natCast _) ?_
    refine zz_iload_n (x := x2) rfl zd_7_8_26 ?_
    refine zz_aald (kd := 4) (z := 12 * t + x2) zd_7_8_27 (zT_k3a (by omega)) rfl (zN_k3a hn (by omega)) (by decide) (by omega) (zE_lay G_S (by omega) (by omega)) (by omega) (zz_rf 6 (12 * t + x2)) rfl ?_
    refine zz_callVI [] zd_7_8_28 zk_Network_60 (zT_k6 (by omega)) (zN_k6 hn (by omega)) rfl rfl ⟨Nat.le_of_ble_eq_true rfl, Nat.le_of_ble_eq_true rfl⟩ ⟨rfl, rfl⟩ (Nat.zero_le _) (Nat.zero_le _) (zc_size_4_7 (12 * t + x2) S n hn G_S (by omega)) (fun v5 S4 hP => ?_)
    obtain ⟨rfl, o6⟩ := hP
    refine zz_iadd zd_7_8_31 ?_
    refine zz_nrm (fun v7 hv7 ev7 => ?_)
    refine zz_mmax (by omega) (by omega) zd_7_8_32 zm_Network_66 ⟨Nat.le_of_ble_eq_true rfl, Nat.le_of_ble_eq_true rfl⟩ (Nat.zero_le _) (Nat.zero_le _) (fun v8 hv8 => ?_)
    refine zz_istore_n [some (.ref (zz_rf 3 t)), some (zi v8), some (zi x2)] zd_7_8_35 (by decide) rfl ?_
    refine zz_iinc [some (.ref (zz_rf 3 t)), some (zi v8), some (zi (x2 + 1))] zd_7_8_36 rfl rfl ?_
    refine zz_goto zd_7_8_39 ?_
    have e9 : S (zz_rf 3 t) 1 = S0 (zz_rf 3 t) 1 := (zz_rc F_S (zP_k3 (by omega) rfl) (zQ_k3 (by omega) rfl) (fun h => h) rfl)
    refine zz_less (ls1 := [some (.ref (zz_rf 3 t)), some (zi v8), some (zi (x2 + 1))]) ⟨rfl, ⟨rfl, ⟨rfl, trivial⟩⟩⟩ ?_
    exact k4 v8 (x2 + 1) S G_S F_S (by omega) (by omega) (by omega)
theorem zi_endOfAll_7_8 {g : mm_G} {l : Launch} (t : Int) (S0 : zz_S) (n : Nat) (hn : zz_end ≤ n) (G_S0 : zz_G S0) (ht : 0 ≤ t ∧ t ≤ 1) : ∀ N : Nat, (∀ (x1 : Int) (x2 : Int) (S : zz_S), zz_G S → zz_fr [] [] (fun _ _ => False) S0 S → (0 ≤ x1 ∧ x1 ≤ 2147483647) → (0 ≤ x2 ∧ x2 ≤ 11) → (S (zz_rf 3 t) 1 - x2).toNat < N → zz_E g l zy_endOfAll_7_8 zr_endOfAll_7_8 (zz_QI n (zp_endOfAll_7_8 t S0)) S n 4 [some (.ref (zz_rf 3 t)), some (zi x1), some (zi x2)] [] 0 0) := by
  intro N
  induction N with
  | zero => exact fun x1 x2 S _ _ _ _ h => absurd h (Nat.not_lt_zero _)
  | succ N ih =>
    exact fun x1 x2 S a b j0 j1 hR => zb_endOfAll_7_8_4 t S0 n hn G_S0 ht x1 x2 S a b j0 j1 _ rfl (fun x1 x2 S a b j0 j1 h => ih x1 x2 S a b j0 j1 (Nat.lt_of_lt_of_le h (Nat.le_of_lt_succ hR)))
theorem zc_endOfAll_7_8 {g : mm_G} {l : Launch} (t : Int) (S0 : zz_S) (n : Nat) (hn : zz_end ≤ n) (G_S0 : zz_G S0) (ht : 0 ≤ t ∧ t ≤ 1) : mm_Met g l zy_endOfAll_7_8 zr_endOfAll_7_8 [.ref (zz_rf 3 t)] (zz_M S0 n) n (zz_QI n (zp_endOfAll_7_8 t S0)) := by
  refine zz_enter (by decide) (Nat.le_of_ble_eq_true rfl) (zz_less (ls1 := [some (.ref (zz_rf 3 t))]) ⟨rfl, trivial⟩ ?_)
  have F_S0 : zz_fr [] [] (fun _ _ => False) S0 S0 := zz_fr.refl
  have k4 : ∀ (x1 : Int) (x2 : Int) (S : zz_S), zz_G S → zz_fr [] [] (fun _ _ => False) S0 S → (0 ≤ x1 ∧ x1 ≤ 2147483647) → (0 ≤ x2 ∧ x2 ≤ 11) → zz_E g l zy_endOfAll_7_8 zr_endOfAll_7_8 (zz_QI n (zp_endOfAll_7_8 t S0)) S n 4 [some (.ref (zz_rf 3 t)), some (zi x1), some (zi x2)] [] 0 0 := fun x1 x2 S a b j0 j1 => (zi_endOfAll_7_8 (g := g) (l := l) t S0 n hn G_S0 ht _) x1 x2 S a b j0 j1 (Nat.lt_succ_self _)
  have b_t := zz_rf3 (z := t) (by omega)
  refine zz_iconst zd_7_8_0 ?_
  refine zz_istore_n [some (.ref (zz_rf 3 t)), some (zi 0)] zd_7_8_1 (by decide) rfl ?_
  refine zz_iconst zd_7_8_2 ?_
  refine zz_istore_n [some (.ref (zz_rf 3 t)), some (zi 0), some (zi 0)] zd_7_8_3 (by decide) rfl ?_
  refine zz_less (ls1 := [some (.ref (zz_rf 3 t)), some (zi 0), some (zi 0)]) ⟨rfl, ⟨rfl, ⟨rfl, trivial⟩⟩⟩ ?_
  exact k4 0 0 S0 G_S0 F_S0 (by omega) (by omega)
theorem zk_Network_56 : mm_Vl "TensorForge$Network" 56 1 0 zy_endOfAll_7_8 := ⟨zyw_endOfAll_7_8, (R_Network, F_Network, 2), rfl, mm_tb_1 1009 (by decide +kernel) rfl, mm_tb_1 1010 (by decide +kernel) rfl, mm_tb_1 1011 (by decide +kernel) rfl⟩
theorem zd_7_7_67 : zz_D zy_offer_7_7 67 (.istore_n 2) 1 68 := ⟨by decide +kernel, rfl⟩
theorem zd_7_7_68 : zz_D zy_offer_7_7 68 (.aload_n 0) 1 69 := ⟨by decide +kernel, rfl⟩
theorem zd_7_7_69 : zz_D zy_offer_7_7 69 (.getfield 16) 3 72 := ⟨by decide +kernel, rfl⟩
theorem zd_7_7_72 : zz_D zy_offer_7_7 72 (.bipush 11) 2 74 := ⟨by decide +kernel, rfl⟩
theorem zd_7_7_74 : zz_B zy_offer_7_7 74 (Instr.if_icmp .ge) 89 77 := ⟨15, by decide +kernel, rfl, rfl⟩
theorem zd_7_7_89 : zz_D zy_offer_7_7 89 (.iconst 3) 1 90 := ⟨by decide +kernel, rfl⟩
theorem zd_7_7_90 : zz_D zy_offer_7_7 90 (.ireturn) 1 91 := ⟨by decide +kernel, rfl⟩
theorem zd_7_7_77 : zz_D zy_offer_7_7 77 (.iload_n 2) 1 78 := ⟨by decide +kernel, rfl⟩
theorem zd_7_7_78 : zz_D zy_offer_7_7 78 (.aload_n 1) 1 79 := ⟨by decide +kernel, rfl⟩
theorem zd_7_7_79 : zz_D zy_offer_7_7 79 (.invokevirtual 60) 3 82 := ⟨by decide +kernel, rfl⟩
theorem zd_7_7_82 : zz_D zy_offer_7_7 82 (.iadd) 1 83 := ⟨by decide +kernel, rfl⟩
theorem zd_7_7_83 : zz_D zy_offer_7_7 83 (.sipush 2048) 3 86 := ⟨by decide +kernel, rfl⟩
theorem zd_7_7_86 : zz_B zy_offer_7_7 86 (Instr.if_icmp .le) 91 89 := ⟨5, by decide +kernel, rfl, rfl⟩
theorem zd_7_7_91 : zz_D zy_offer_7_7 91 (.aload_n 1) 1 92 := ⟨by decide +kernel, rfl⟩
theorem zd_7_7_92 : zz_D zy_offer_7_7 92 (.iload_n 2) 1 93 := ⟨by decide +kernel, rfl⟩
theorem zd_7_7_93 : zz_D zy_offer_7_7 93 (.putfield 63) 3 96 := ⟨by decide +kernel, rfl⟩
theorem zd_7_7_96 : zz_D zy_offer_7_7 96 (.aload_n 0) 1 97 := ⟨by decide +kernel, rfl⟩
theorem zd_7_7_97 : zz_D zy_offer_7_7 97 (.dup) 1 98 := ⟨by decide +kernel, rfl⟩
theorem zd_7_7_98 : zz_D zy_offer_7_7 98 (.getfield 16) 3 101 := ⟨by decide +kernel, rfl⟩
theorem zd_7_7_101 : zz_D zy_offer_7_7 101 (.iconst 1) 1 102 := ⟨by decide +kernel, rfl⟩
theorem zd_7_7_102 : zz_D zy_offer_7_7 102 (.iadd) 1 103 := ⟨by decide +kernel, rfl⟩
theorem zd_7_7_103 : zz_D zy_offer_7_7 103 (.putfield 16) 3 106 := ⟨by decide +kernel, rfl⟩
theorem zd_7_7_106 : zz_D zy_offer_7_7 106 (.iconst 0) 1 107 := ⟨by decide +kernel, rfl⟩
theorem zd_7_7_107 : zz_D zy_offer_7_7 107 (.ireturn) 1 108 := ⟨by decide +kernel, rfl⟩
-- TensorForge$Network offer ()I
abbrev zr_offer_7_7 : Room := { frames := 2, cells := 0, slots := 0, locals := 31 }
def zp_offer_7_7 (t : Int) (S0 : zz_S) : Int → zz_S → Prop := fun r S => zz_G S ∧ zz_fr [] [] (fun a i => (a = zz_rf 3 t ∧ i = 1) ∨ (a = zz_rf 6 (12 * t + S0 (zz_rf 3 t) 1) ∧ i = 10) ∨ (a = zz_rf 6 (12 * t + S0 (zz_rf 3 t) 1) ∧ i = 11) ∨ (a = zz_rf 6 (12 * t + S0 (zz_rf 3 t) 1) ∧ i = 12) ∨ (a = zz_rf 6 (12 * t + S0 (zz_rf 3 t) 1) ∧ i = 13)) S0 S ∧ (0 ≤ r ∧ r ≤ 3) ∧ (zz_Hc S)
theorem zc_offer_7_7 {g : mm_G} {l : Launch} (t : Int) (S0 : zz_S) (n : Nat) (hn : zz_end ≤ n) (G_S0 : zz_G S0) (ht : 0 ≤ t ∧ t ≤ 1) (H_S0 : zz_Hc S0) : mm_Met g l zy_offer_7_7 zr_offer_7_7 [.ref (zz_rf 3 t)] (zz_M S0 n) n (zz_QI n (zp_offer_7_7 t S0)) := by
  refine zz_enter (by decide) (Nat.le_of_ble_eq_true rfl) (zz_less (ls1 := [some (.ref (zz_rf 3 t))]) ⟨rfl, trivial⟩ ?_)
  have F_S0 : zz_fr [] [] (fun a i => (a = zz_rf 3 t ∧ i = 1) ∨ (a = zz_rf 6 (12 * t + S0 (zz_rf 3 t) 1) ∧ i = 10) ∨ (a = zz_rf 6 (12 * t + S0 (zz_rf 3 t) 1) ∧ i = 11) ∨ (a = zz_rf 6 (12 * t + S0 (zz_rf 3 t) 1) ∧ i = 12) ∨ (a = zz_rf 6 (12 * t + S0 (zz_rf 3 t) 1) ∧ i = 13)) S0 S0 := zz_fr.refl
  have b_t := zz_rf3 (z := t) (by omega)
  refine zz_aload_n (x := zz_rf 3 t) rfl zd_7_7_0 ?_
  refine zz_callVA [] zd_7_7_1 zk_Network_34 (zT_k3 (by omega)) (zN_k3 hn (by omega)) rfl rfl ⟨Nat.le_of_ble_eq_true rfl, Nat.le_of_ble_eq_true rfl⟩ ⟨rfl, rfl⟩ (Nat.zero_le _) (Nat.zero_le _) (zc_draft_7_6 t S0 n hn G_S0 (by omega)) (fun v2 S1 hP => ?_)
  obtain ⟨rfl, o3, o4⟩ := hP
  subst o3
  refine zz_astore_n [some (.ref (zz_rf 3 t)), some (.ref (zz_rf 6 (12 * t + S0 (zz_rf 3 t) 1)))] zd_7_7_4 (by decide) rfl ?_
  refine zz_aload_n (x := zz_rf 3 t) rfl zd_7_7_5 ?_
  refine zz_aload_n (x := zz_rf 6 (12 * t + S0 (zz_rf 3 t) 1)) rfl zd_7_7_6 ?_
  have g5 := zz_G.r G_S0 (zz_rf 6 (12 * t + S0 (zz_rf 3 t) 1)) 1 (-2147483648) 2147483647 (zR_k6_1 (by omega)) (zB_k6 (by omega))
  refine zz_geti (z := S0 (zz_rf 6 (12 * t + S0 (zz_rf 3 t) 1)) 1) zd_7_7_7 zf_Network_38 (zT_k6 (by omega)) rfl (zN_k6 hn (by omega)) rfl ?_
  refine zz_callVI [zi (S0 (zz_rf 6 (12 * t + S0 (zz_rf 3 t) 1)) 1)] zd_7_7_10 zk_Network_41 (zT_k3 (by omega)) (zN_k3 hn (by omega)) rfl rfl ⟨Nat.le_of_ble_eq_true rfl, Nat.le_of_ble_eq_true rfl⟩ ⟨rfl, rfl⟩ (Nat.zero_le _) (Nat.zero_le _) (zc_has_7_5 t (S0 (zz_rf 6 (12 * t + S0 (zz_rf 3 t) 1)) 1) S0 n hn G_S0 (by omega) (by omega)) (fun v7 S6 hP => ?_)
  obtain ⟨rfl, o8, o9⟩ := hP
  rcases (by omega : v7 = 0 ∨ v7 = 1) with rfl | rfl
  · refine zz_if_eq (by omega) zd_7_7_13 (fun c10 => ?_) (fun c10 => ?_)
    · refine zz_iconst zd_7_7_27 ?_
      exact zz_iret zd_7_7_28 rfl (Nat.zero_le _) (Nat.zero_le _) ⟨_, _, rfl, G_S0, F_S0, by omega, H_S0⟩
    · exfalso; omega
  · refine zz_if_eq (by omega) zd_7_7_13 (fun c11 => ?_) (fun c11 => ?_)
    · exfalso; omega
    · refine zz_aload_n (x := zz_rf 3 t) rfl zd_7_7_16 ?_
      refine zz_aload_n (x := zz_rf 6 (12 * t + S0 (zz_rf 3 t) 1)) rfl zd_7_7_17 ?_
      have g12 := zz_G.r G_S0 (zz_rf 6 (12 * t + S0 (zz_rf 3 t) 1)) 2 (-2147483648) 2147483647 (zR_k6_2 (by omega)) (zB_k6 (by omega))
      refine zz_geti (z := S0 (zz_rf 6 (12 * t + S0 (zz_rf 3 t) 1)) 2) zd_7_7_18 zf_Network_45 (zT_k6 (by omega)) rfl (zN_k6 hn (by omega)) rfl ?_
      refine zz_callVI [zi (S0 (zz_rf 6 (12 * t + S0 (zz_rf 3 t) 1)) 2)] zd_7_7_21 zk_Network_41 (zT_k3 (by omega)) (zN_k3 hn (by omega)) rfl rfl ⟨Nat.le_of_ble_eq_true rfl, Nat.le_of_ble_eq_true rfl⟩ ⟨rfl, rfl⟩ (Nat.zero_le _) (Nat.zero_le _) (zc_has_7_5 t (S0 (zz_rf 6 (12 * t + S0 (zz_rf 3 t) 1)) 2) S0 n hn G_S0 (by omega) (by omega)) (fun v14 S13 hP => ?_)
      obtain ⟨rfl, o15, o16⟩ := hP
      rcases (by omega : v14 = 0 ∨ v14 = 1) with rfl | rfl
      · refine zz_if_ne (by omega) zd_7_7_24 (fun c17 => ?_) (fun c17 => ?_)
        · exfalso; omega
        · refine zz_iconst zd_7_7_27 ?_
          exact zz_iret zd_7_7_28 rfl (Nat.zero_le _) (Nat.zero_le _) ⟨_, _, rfl, G_S0, F_S0, by omega, H_S0⟩
      · refine zz_if_ne (by omega) zd_7_7_24 (fun c18 => ?_) (fun c18 => ?_)
        · refine zz_aload_n (x := zz_rf 6 (12 * t + S0 (zz_rf 3 t) 1)) rfl zd_7_7_29 ?_
          refine zz_callVI [] zd_7_7_30 zk_Network_48 (zT_k6 (by omega)) (zN_k6 hn (by omega)) rfl rfl ⟨Nat.le_of_ble_eq_true rfl, Nat.le_of_ble_eq_true rfl⟩ ⟨rfl, rfl⟩ (Nat.zero_le _) (Nat.zero_le _) (zc_numbersFit_4_10 (12 * t + S0 (zz_rf 3 t) 1) S0 n hn G_S0 (by omega)) (fun v20 S19 hP => ?_)
          obtain ⟨rfl, o21, o22⟩ := hP
          rcases (by omega : v20 = 0 ∨ v20 = 1) with rfl | rfl
          · refine zz_if_eq (by omega) zd_7_7_33 (fun c23 => ?_) (fun c23 => ?_)
            · refine zz_iconst zd_7_7_61 ?_
              exact zz_iret zd_7_7_62 rfl (Nat.zero_le _) (Nat.zero_le _) ⟨_, _, rfl, G_S0, F_S0, by omega, H_S0⟩
            · exfalso; omega
          · refine zz_if_eq (by omega) zd_7_7_33 (fun c24 => ?_) (fun c24 => ?_)
            · exfalso; omega
            · refine zz_aload_n (x := zz_rf 6 (12 * t + S0 (zz_rf 3 t) 1)) rfl zd_7_7_36 ?_
              refine zz_aload_n (x := zz_rf 3 t) rfl zd_7_7_37 ?_
              refine zz_getr (kd := 0) (z := ((zz_rf 3 t + 1 : Nat) : Int)) zd_7_7_38 zf_Network_11 (zT_k3 (by omega)) rfl (zN_k3 hn (by omega)) (zE_k3a G_S0 (by omega)) (Int.natCast_nonneg _) (zz_rf 3 t + 1) (Int.toNat_natCast _) ?_
              refine zz_aload_n (x := zz_rf 6 (12 * t + S0 (zz_rf 3 t) 1)) rfl zd_7_7_41 ?_
              refine zz_geti (z := S0 (zz_rf 6 (12 * t + S0 (zz_rf 3 t) 1)) 1) zd_7_7_42 zf_Network_38 (zT_k6 (by omega)) rfl (zN_k6 hn (by omega)) rfl ?_
              refine zz_aald (kd := 4) (z := 12 * t + (S0 (zz_rf 6 (12 * t + S0 (zz_rf 3 t) 1)) 1)) zd_7_7_45 (zT_k3a (by omega)) rfl (zN_k3a hn (by omega)) (by decide) (by omega) (zE_lay G_S0 (by omega) (by omega)) (by omega) (zz_rf 6 (12 * t + (S0 (zz_rf 6 (12 * t + S0 (zz_rf 3 t) 1)) 1))) rfl ?_
              refine zz_aload_n (x := zz_rf 3 t) rfl zd_7_7_46 ?_
              refine zz_getr (kd := 0) (z := ((zz_rf 3 t + 1 : Nat) : Int)) zd_7_7_47 zf_Network_11 (zT_k3 (by omega)) rfl (zN_k3 hn (by omega)) (zE_k3a G_S0 (by omega)) (Int.natCast_nonneg _) (zz_rf 3 t + 1) (Int.toNat_natCast _) ?_
              refine zz_aload_n (x := zz_rf 6 (12 * t + S0 (zz_rf 3 t) 1)) rfl zd_7_7_50 ?_
              refine zz_geti (z := S0 (zz_rf 6 (12 * t + S0 (zz_rf 3 t) 1)) 2) zd_7_7_51 zf_Network_45 (zT_k6 (by omega)) rfl (zN_k6 hn (by omega)) rfl ?_
              refine zz_aald (kd := 4) (z := 12 * t + (S0 (zz_rf 6 (12 * t + S0 (zz_rf 3 t) 1)) 2)) zd_7_7_54 (zT_k3a (by omega)) rfl (zN_k3a hn (by omega)) (by decide) (by omega) (zE_lay G_S0 (by omega) (by omega)) (by omega) (zz_rf 6 (12 * t + (S0 (zz_rf 6 (12 * t + S0 (zz_rf 3 t) 1)) 2))) rfl ?_
              refine zz_callVI [.ref (zz_rf 6 (12 * t + (S0 (zz_rf 6 (12 * t + S0 (zz_rf 3 t) 1)) 1))), .ref (zz_rf 6 (12 * t + (S0 (zz_rf 6 (12 * t + S0 (zz_rf 3 t) 1)) 2)))] zd_7_7_55 zk_Network_52 (zT_k6 (by omega)) (zN_k6 hn (by omega)) rfl rfl ⟨Nat.le_of_ble_eq_true rfl, Nat.le_of_ble_eq_true rfl⟩ ⟨rfl, rfl⟩ (Nat.zero_le _) (Nat.zero_le _) (zc_takeResult_4_11 (12 * t + S0 (zz_rf 3 t) 1) (12 * t + (S0 (zz_rf 6 (12 * t + S0 (zz_rf 3 t) 1)) 1)) (12 * t + (S0 (zz_rf 6 (12 * t + S0 (zz_rf 3 t) 1)) 2)) S0 n hn G_S0 (by omega) (by omega) (by omega)) (fun v26 S25 hP => ?_)
              obtain ⟨G_S25, fS25, o27, o28⟩ := hP
              have b29 := zz_G.r G_S0 (zz_rf 3 t) 1 1 11 (zR_k3_1 (by omega)) (zB_k3 (by omega))
              have F_S25 := zz_fr.trans F_S0 fS25 rfl (fun a i h => by rcases h with h | h | h; exact Or.inr (Or.inr (Or.inr (Or.inl h))); exact Or.inr (Or.inr (Or.inr (Or.inr (Or.inl h)))); exact Or.inr (Or.inr (Or.inr (Or.inr (Or.inr (Or.inl h))))))
              have b30 := zz_G.r G_S0 (zz_rf 3 t) 1 1 11 (zR_k3_1 (by omega)) (zB_k3 (by omega))
              have b31 := zz_rf6 (z := (12 * t + S0 (zz_rf 3 t) 1)) (by omega)
              have b32 := zz_rf3 (z := t) (by omega)
              have H_S25 : zz_Hc S25 := zz_Hc.fr (q := t) (z := 12 * t + S0 (zz_rf 3 t) 1) fS25 rfl rfl G_S0 (by omega) rfl (fun b j h => by omega) H_S0
              rcases (by omega : v26 = 0 ∨ v26 = 1) with rfl | rfl
              · refine zz_if_ne (by omega) zd_7_7_58 (fun c33 => ?_) (fun c33 => ?_)
                · exfalso; omega
                · refine zz_iconst zd_7_7_61 ?_
                  exact zz_iret zd_7_7_62 rfl (Nat.zero_le _) (Nat.zero_le _) ⟨_, _, rfl, G_S25, F_S25, by omega, H_S25⟩
              · refine zz_if_ne (by omega) zd_7_7_58 (fun c34 => ?_) (fun c34 => ?_)
                · refine zz_aload_n (x := zz_rf 3 t) rfl zd_7_7_63 ?_
                  refine zz_callVI [] zd_7_7_64 zk_Network_56 (zT_k3 (by omega)) (zN_k3 hn (by omega)) rfl rfl ⟨Nat.le_of_ble_eq_true rfl, Nat.le_of_ble_eq_true rfl⟩ ⟨rfl, rfl⟩ (Nat.zero_le _) (Nat.zero_le _) (zc_endOfAll_7_8 t S25 n hn G_S25 (by omega)) (fun v36 S35 hP => ?_)
                  obtain ⟨rfl, o37⟩ := hP
                  refine zz_istore_n [some (.ref (zz_rf 3 t)), some (.ref (zz_rf 6 (12 * t + S0 (zz_rf 3 t) 1))), some (zi v36)] zd_7_7_67 (by decide) rfl ?_
                  refine zz_aload_n (x := zz_rf 3 t) rfl zd_7_7_68 ?_
                  have g38 := zz_G.r G_S0 (zz_rf 3 t) 1 1 11 (zR_k3_1 (by omega)) (zB_k3 (by omega))
                  refine zz_geti (z := S0 (zz_rf 3 t) 1) zd_7_7_69 zf_Network_16 (zT_k3 (by omega)) rfl (zN_k3 hn (by omega)) (zz_rc fS25 (zP_k3 (by omega) rfl) (zQ_k3 (by omega) rfl) (by omega) rfl) ?_
                  refine zz_bipush (by decide) zd_7_7_72 ?_
                  refine zz_icmp_ge (by omega) (by omega) zd_7_7_74 (fun c39 => ?_) (fun c39 => ?_)
                  · refine zz_iconst zd_7_7_89 ?_
                    exact zz_iret zd_7_7_90 rfl (Nat.zero_le _) (Nat.zero_le _) ⟨_, _, rfl, G_S25, F_S25, by omega, H_S25⟩
                  · refine zz_iload_n (x := v36) rfl zd_7_7_77 ?_
                    refine zz_aload_n (x := zz_rf 6 (12 * t + S0 (zz_rf 3 t) 1)) rfl zd_7_7_78 ?_
                    refine zz_callVI [] zd_7_7_79 zk_Network_60 (zT_k6 (by omega)) (zN_k6 hn (by omega)) rfl rfl ⟨Nat.le_of_ble_eq_true rfl, Nat.le_of_ble_eq_true rfl⟩ ⟨rfl, rfl⟩ (Nat.zero_le _) (Nat.zero_le _) (zc_size_4_7 (12 * t + S0 (zz_rf 3 t) 1) S25 n hn G_S25 (by omega)) (fun v41 S40 hP => ?_)
                    obtain ⟨rfl, o42⟩ := hP
                    refine zz_iadd zd_7_7_82 ?_
                    refine zz_nrm (fun v43 hv43 ev43 => ?_)
                    refine zz_sipush (by decide) zd_7_7_83 ?_
                    refine zz_icmp_le (by omega) (by omega) zd_7_7_86 (fun c44 => ?_) (fun c44 => ?_)
                    · refine zz_aload_n (x := zz_rf 6 (12 * t + S0 (zz_rf 3 t) 1)) rfl zd_7_7_91 ?_
                      refine zz_iload_n (x := v36) rfl zd_7_7_92 ?_
                      refine zz_puti zd_7_7_93 zf_Network_63 (zT_k6 (by omega)) rfl (zN_k6 hn (by omega)) (fun S45 qS45 => ?_)
                      have G_S45 := zz_G.put G_S25 qS45 (-2147483648) 2147483647 (zR_k6_13 (by omega)) (by omega)
                      have F_S45 := zz_fr.putv F_S25 qS45 (Or.inr (Or.inr (Or.inr (Or.inr (⟨rfl, rfl⟩)))))
                      have H_S45 : zz_Hc S45 := zz_Hc.fr (q := t) (z := 12 * t + S0 (zz_rf 3 t) 1) (zz_fr.put1 qS45) rfl rfl G_S25 (by omega) (by rw [show S25 (zz_rf 3 t) 1 = S0 (zz_rf 3 t) 1 from (zz_rc fS25 (zP_k3 (by omega) rfl) (zQ_k3 (by omega) rfl) (by omega) rfl)]) (fun b j h => Or.inr (Or.inr h.1)) H_S25
                      refine zz_aload_n (x := zz_rf 3 t) rfl zd_7_7_96 ?_
                      refine zz_dup rfl zd_7_7_97 ?_
                      refine zz_geti (z := S0 (zz_rf 3 t) 1) zd_7_7_98 zf_Network_16 (zT_k3 (by omega)) rfl (zN_k3 hn (by omega)) (zz_ro qS45 (fun h => absurd h.2 (by decide)) (zz_rc fS25 (zP_k3 (by omega) rfl) (zQ_k3 (by omega) rfl) (by omega) rfl)) ?_
                      refine zz_iconst zd_7_7_101 ?_
                      refine zz_iadd zd_7_7_102 ?_
                      refine zz_puti zd_7_7_103 zf_Network_16 (zT_k3 (by omega)) rfl (zN_k3 hn (by omega)) (fun S46 qS46 => ?_)
                      have G_S46 := zz_G.put G_S45 qS46 1 11 (zR_k3_1 (by omega)) (by omega)
                      have F_S46 := zz_fr.putv F_S45 qS46 (Or.inl ⟨rfl, rfl⟩)
                      have e47 : S45 (zz_rf 3 t) 1 = S0 (zz_rf 3 t) 1 := (zz_ro qS45 (fun h => absurd h.2 (by decide)) (zz_rc fS25 (zP_k3 (by omega) rfl) (zQ_k3 (by omega) rfl) (by omega) rfl))
                      have e48 : S45 (zz_rf 6 (12 * t + S0 (zz_rf 3 t) 1)) 0 = S0 (zz_rf 6 (12 * t + S0 (zz_rf 3 t) 1)) 0 := (zz_ro qS45 (fun h => absurd h.2 (by decide)) (zz_rc fS25 (zP_k6 (by omega) rfl) (zQ_k6 (by omega) rfl) (by omega) rfl))
                      have e49 : S45 (zz_rf 6 (12 * t + S0 (zz_rf 3 t) 1)) 12 = S25 (zz_rf 6 (12 * t + S0 (zz_rf 3 t) 1)) 12 := (zz_ro qS45 (fun h => absurd h.2 (by decide)) rfl)
                      have e50 : S45 (zz_rf 6 (12 * t + S0 (zz_rf 3 t) 1)) 3 = S0 (zz_rf 6 (12 * t + S0 (zz_rf 3 t) 1)) 3 := (zz_ro qS45 (fun h => absurd h.2 (by decide)) (zz_rc fS25 (zP_k6 (by omega) rfl) (zQ_k6 (by omega) rfl) (by omega) rfl))
                      have e51 : S45 (zz_rf 6 (12 * t + S0 (zz_rf 3 t) 1)) 4 = S0 (zz_rf 6 (12 * t + S0 (zz_rf 3 t) 1)) 4 := (zz_ro qS45 (fun h => absurd h.2 (by decide)) (zz_rc fS25 (zP_k6 (by omega) rfl) (zQ_k6 (by omega) rfl) (by omega) rfl))
                      have hy9 := (H_S0 t (by omega) (S0 (zz_rf 6 (12 * t + S0 (zz_rf 3 t) 1)) 1) (by omega) (by omega)).2
                      have H_S46 : zz_Hc S46 := zz_Hc.up qS46 (by omega) (by omega) G_S45 (by omega) (by rw [show S45 (zz_rf 3 t) 1 = S0 (zz_rf 3 t) 1 by omega]; unfold zz_ly; omega) H_S45
                      refine zz_iconst zd_7_7_106 ?_
                      exact zz_iret zd_7_7_107 rfl (Nat.zero_le _) (Nat.zero_le _) ⟨_, _, rfl, G_S46, F_S46, by omega, H_S46⟩
                    · refine zz_iconst zd_7_7_89 ?_
                      exact zz_iret zd_7_7_90 rfl (Nat.zero_le _) (Nat.zero_le _) ⟨_, _, rfl, G_S25, F_S25, by omega, H_S25⟩
                · exfalso; omega
        · exfalso; omega
theorem zk_TF_326 : mm_Vl "TensorForge" 326 1 0 zy_offer_7_7 := ⟨zyw_offer_7_7, (R_Network, F_Network, 2), rfl, mm_tb_1 1371 (by decide +kernel) rfl, mm_tb_1 990 (by decide +kernel) rfl, mm_tb_1 991 (by decide +kernel) rfl⟩
theorem zd_1_31_7 : zz_D zy_added_1_31 7 (.istore_n 1) 1 8 := ⟨by decide +kernel, rfl⟩
theorem zd_1_31_8 : zz_D zy_added_1_31 8 (.iload_n 1) 1 9 := ⟨by decide +kernel, rfl⟩
theorem zd_1_31_9 : zz_D zy_added_1_31 9 (.iconst 1) 1 10 := ⟨by decide +kernel, rfl⟩
theorem zd_1_31_10 : zz_B zy_added_1_31 10 (Instr.if_icmp .ne) 23 13 := ⟨13, by decide +kernel, rfl, rfl⟩
theorem zd_1_31_23 : zz_D zy_added_1_31 23 (.iload_n 1) 1 24 := ⟨by decide +kernel, rfl⟩
theorem zd_1_31_24 : zz_D zy_added_1_31 24 (.iconst 2) 1 25 := ⟨by decide +kernel, rfl⟩
theorem zd_1_31_25 : zz_B zy_added_1_31 25 (Instr.if_icmp .ne) 39 28 := ⟨14, by decide +kernel, rfl, rfl⟩
theorem zd_1_31_39 : zz_D zy_added_1_31 39 (.iload_n 1) 1 40 := ⟨by decide +kernel, rfl⟩
theorem zd_1_31_40 : zz_D zy_added_1_31 40 (.iconst 3) 1 41 := ⟨by decide +kernel, rfl⟩
theorem zd_1_31_41 : zz_B zy_added_1_31 41 (Instr.if_icmp .ne) 55 44 := ⟨14, by decide +kernel, rfl, rfl⟩
theorem zd_1_31_55 : zz_D zy_added_1_31 55 (.aload_n 0) 1 56 := ⟨by decide +kernel, rfl⟩
theorem zd_1_31_56 : zz_D zy_added_1_31 56 (.getfield 10) 3 59 := ⟨by decide +kernel, rfl⟩
theorem zd_1_31_59 : zz_D zy_added_1_31 59 (.getfield 278) 3 62 := ⟨by decide +kernel, rfl⟩
theorem zf_TF_278 : mm_Fl "TensorForge" 278 1 1 .int false := ⟨R_Network, F_Network, 2, t_Network, rfl, i_Network, by decide, mm_tb_1 148 (by decide +kernel) rfl, rfl, t_Network_ok, n_Network, rfl, by decide +kernel⟩
theorem zd_1_31_62 : zz_D zy_added_1_31 62 (.iconst 1) 1 63 := ⟨by decide +kernel, rfl⟩
theorem zd_1_31_63 : zz_D zy_added_1_31 63 (.isub) 1 64 := ⟨by decide +kernel, rfl⟩
theorem zd_1_31_64 : zz_D zy_added_1_31 64 (.ireturn) 1 65 := ⟨by decide +kernel, rfl⟩
theorem zt_1_31_44 : zz_ThrW zy_added_1_31 44 126 331 130 := ⟨by decide +kernel, by decide +kernel, by decide +kernel, by decide +kernel, by decide +kernel⟩
theorem zxl_TF_126_331_130 : mm_Xl "TensorForge" 126 331 130 2 := ⟨mm_tb_1 1176 (by decide +kernel) rfl, mm_tb_1 1177 (by decide +kernel) rfl, mm_tb_1 19 (by decide +kernel) rfl, ⟨53, by decide +kernel⟩, zxa_TF_130⟩
theorem zt_1_31_28 : zz_ThrW zy_added_1_31 28 87 329 91 := ⟨by decide +kernel, by decide +kernel, by decide +kernel, by decide +kernel, by decide +kernel⟩
theorem zxl_TF_87_329_91 : mm_Xl "TensorForge" 87 329 91 0 := ⟨mm_tb_1 1048 (by decide +kernel) rfl, mm_tb_1 1049 (by decide +kernel) rfl, mm_tb_1 16 (by decide +kernel) rfl, ⟨52, by decide +kernel⟩, zxa_TF_91⟩
theorem zt_1_31_13 : zz_Thr zy_added_1_31 13 101 254 105 := ⟨by decide +kernel, by decide +kernel, by decide +kernel, by decide +kernel, by decide +kernel⟩
theorem zxl_TF_101_254_105 : mm_Xl "TensorForge" 101 254 105 1 := ⟨mm_tb_1 1133 (by decide +kernel) rfl, mm_tb_1 1134 (by decide +kernel) rfl, mm_tb_1 18 (by decide +kernel) rfl, ⟨51, by decide +kernel⟩, zxa_TF_105⟩
-- TensorForge added ()I
abbrev zr_added_1_31 : Room := { frames := 6, cells := 1, slots := 6, locals := 82 }
def zp_added_1_31  (S0 : zz_S) : Int → zz_S → Prop := fun r S => zz_G S ∧ zz_fr [] [] (fun a i => (a = zz_rf 3 (S0 1000 7) ∧ i = 1) ∨ (a = zz_rf 6 (12 * (S0 1000 7) + S0 (zz_rf 3 (S0 1000 7)) 1) ∧ i = 10) ∨ (a = zz_rf 6 (12 * (S0 1000 7) + S0 (zz_rf 3 (S0 1000 7)) 1) ∧ i = 11) ∨ (a = zz_rf 6 (12 * (S0 1000 7) + S0 (zz_rf 3 (S0 1000 7)) 1) ∧ i = 12) ∨ (a = zz_rf 6 (12 * (S0 1000 7) + S0 (zz_rf 3 (S0 1000 7)) 1) ∧ i = 13)) S0 S ∧ ((-2147483648) ≤ r ∧ r ≤ 2147483647) ∧ (zz_Hc S)
def zx_added_1_31  (S0 : zz_S) : Nat → zz_S → Prop := fun i S => zz_G S ∧ zz_fr [] [] (fun a i => (a = zz_rf 3 (S0 1000 7) ∧ i = 1) ∨ (a = zz_rf 6 (12 * (S0 1000 7) + S0 (zz_rf 3 (S0 1000 7)) 1) ∧ i = 10) ∨ (a = zz_rf 6 (12 * (S0 1000 7) + S0 (zz_rf 3 (S0 1000 7)) 1) ∧ i = 11) ∨ (a = zz_rf 6 (12 * (S0 1000 7) + S0 (zz_rf 3 (S0 1000 7)) 1) ∧ i = 12) ∨ (a = zz_rf 6 (12 * (S0 1000 7) + S0 (zz_rf 3 (S0 1000 7)) 1) ∧ i = 13)) S0 S ∧ (i < 4) ∧ (i = 0 ∨ i = 1 ∨ i = 2) ∧ (zz_Hc S)
theorem zc_added_1_31 {g : mm_G} {l : Launch}  (S0 : zz_S) (n : Nat) (hn : zz_end ≤ n) (hfl : l.flags = flags0) (G_S0 : zz_G S0) (H_S0 : zz_Hc S0) : mm_Met g l zy_added_1_31 zr_added_1_31 [.ref 1000] (zz_M S0 n) n (zz_XI n (zp_added_1_31  S0) (zx_added_1_31  S0)) := by
  refine zz_enter (by decide) (Nat.le_of_ble_eq_true rfl) (zz_less (ls1 := [some (.ref 1000)]) ⟨rfl, trivial⟩ ?_)
  have F_S0 : zz_fr [] [] (fun a i => (a = zz_rf 3 (S0 1000 7) ∧ i = 1) ∨ (a = zz_rf 6 (12 * (S0 1000 7) + S0 (zz_rf 3 (S0 1000 7)) 1) ∧ i = 10) ∨ (a = zz_rf 6 (12 * (S0 1000 7) + S0 (zz_rf 3 (S0 1000 7)) 1) ∧ i = 11) ∨ (a = zz_rf 6 (12 * (S0 1000 7) + S0 (zz_rf 3 (S0 1000 7)) 1) ∧ i = 12) ∨ (a = zz_rf 6 (12 * (S0 1000 7) + S0 (zz_rf 3 (S0 1000 7)) 1) ∧ i = 13)) S0 S0 := zz_fr.refl
  refine zz_aload_n (x := 1000) rfl zd_1_31_0 ?_
  have g1 := zz_G.r G_S0 1000 7 0 1 rfl rfl
  refine zz_getr (kd := 1) (z := S0 1000 7) zd_1_31_1 zf_TF_10 zT_1000 rfl (zz_ltn hn rfl) rfl (by omega) (zz_rf 3 (S0 1000 7)) rfl ?_
  refine zz_callVI [] zd_1_31_4 zk_TF_326 (zT_k3 (by omega)) (zN_k3 hn (by omega)) rfl rfl ⟨Nat.le_of_ble_eq_true rfl, Nat.le_of_ble_eq_true rfl⟩ ⟨rfl, rfl⟩ (Nat.zero_le _) (Nat.zero_le _) (zc_offer_7_7 (S0 1000 7) S0 n hn G_S0 (by omega) H_S0) (fun v3 S2 hP => ?_)
  obtain ⟨G_S2, fS2, o4, o5⟩ := hP
  have g6 := zz_G.r G_S0 1000 7 0 1 rfl rfl
  have b7 := zz_G.r G_S0 (zz_rf 3 (S0 1000 7)) 1 1 11 (zR_k3_1 (by omega)) (zB_k3 (by omega))
  have F_S2 := zz_fr.trans F_S0 fS2 rfl (fun a i h => by rcases h with h | h | h | h | h; exact Or.inr (Or.inr (Or.inl h)); exact Or.inr (Or.inr (Or.inr (Or.inl h))); exact Or.inr (Or.inr (Or.inr (Or.inr (Or.inl h)))); exact Or.inr (Or.inr (Or.inr (Or.inr (Or.inr (Or.inl h))))); exact Or.inr (Or.inr (Or.inr (Or.inr (Or.inr (Or.inr (h)))))))
  have b8 := zz_rf3 (z := (S0 1000 7)) (by omega)
  have b9 := zz_G.r G_S0 (zz_rf 3 (S0 1000 7)) 1 1 11 (zR_k3_1 (by omega)) (zB_k3 (by omega))
  have b10 := zz_rf6 (z := (12 * (S0 1000 7) + S0 (zz_rf 3 (S0 1000 7)) 1)) (by omega)
  have H_S2 : zz_Hc S2 := o5
  refine zz_istore_n [some (.ref 1000), some (zi v3)] zd_1_31_7 (by decide) rfl ?_
  refine zz_iload_n (x := v3) rfl zd_1_31_8 ?_
  refine zz_iconst zd_1_31_9 ?_
  refine zz_icmp_ne (by omega) (by omega) zd_1_31_10 (fun c11 => ?_) (fun c11 => ?_)
  · refine zz_iload_n (x := v3) rfl zd_1_31_23 ?_
    refine zz_iconst zd_1_31_24 ?_
    refine zz_icmp_ne (by omega) (by omega) zd_1_31_25 (fun c12 => ?_) (fun c12 => ?_)
    · refine zz_iload_n (x := v3) rfl zd_1_31_39 ?_
      refine zz_iconst zd_1_31_40 ?_
      refine zz_icmp_ne (by omega) (by omega) zd_1_31_41 (fun c13 => ?_) (fun c13 => ?_)
      · refine zz_aload_n (x := 1000) rfl zd_1_31_55 ?_
        refine zz_getr (kd := 1) (z := S0 1000 7) zd_1_31_56 zf_TF_10 zT_1000 rfl (zz_ltn hn rfl) (zz_rc fS2 rfl rfl (by omega) rfl) (by omega) (zz_rf 3 (S0 1000 7)) rfl ?_
        have g14 := zz_G.r G_S2 (zz_rf 3 (S0 1000 7)) 1 1 11 (zR_k3_1 (by omega)) (zB_k3 (by omega))
        refine zz_geti (z := S2 (zz_rf 3 (S0 1000 7)) 1) zd_1_31_59 zf_TF_278 (zT_k3 (by omega)) rfl (zN_k3 hn (by omega)) rfl ?_
        refine zz_iconst zd_1_31_62 ?_
        refine zz_isub zd_1_31_63 ?_
        exact zz_iret zd_1_31_64 rfl (Nat.le_of_ble_eq_true rfl) (Nat.le_of_ble_eq_true rfl) (Or.inl ⟨_, _, rfl, G_S2, F_S2, by omega, H_S2⟩)
      · exact zz_throwW (i := 2) hfl hn zt_1_31_44 zyw_added_1_31 zxl_TF_126_331_130 (Nat.le_of_ble_eq_true rfl) (Nat.le_of_ble_eq_true rfl) ⟨Nat.le_of_ble_eq_true rfl, Nat.le_of_ble_eq_true rfl⟩ (Or.inr ⟨_, _, rfl, G_S2, F_S2, by omega, by omega, H_S2⟩)
    · exact zz_throwW (i := 0) hfl hn zt_1_31_28 zyw_added_1_31 zxl_TF_87_329_91 (Nat.le_of_ble_eq_true rfl) (Nat.le_of_ble_eq_true rfl) ⟨Nat.le_of_ble_eq_true rfl, Nat.le_of_ble_eq_true rfl⟩ (Or.inr ⟨_, _, rfl, G_S2, F_S2, by omega, by omega, H_S2⟩)
  · exact zz_throw (i := 1) hfl hn zt_1_31_13 zyw_added_1_31 zxl_TF_101_254_105 (Nat.le_of_ble_eq_true rfl) (Nat.le_of_ble_eq_true rfl) ⟨Nat.le_of_ble_eq_true rfl, Nat.le_of_ble_eq_true rfl⟩ (Or.inr ⟨_, _, rfl, G_S2, F_S2, by omega, by omega, H_S2⟩)
theorem zk_TF_247 : mm_Vl "TensorForge" 247 0 0 zy_added_1_31 := ⟨zyw_added_1_31, (R_TF, F_TF, 12), rfl, mm_tb_1 1367 (by decide +kernel) rfl, mm_tb_1 1369 (by decide +kernel) rfl, mm_tb_s 62 (by decide +kernel) rfl⟩
theorem zd_1_19_74 : zz_D zy_convolution_1_19 74 (.ireturn) 1 75 := ⟨by decide +kernel, rfl⟩
-- TensorForge convolution (IIIIII)I
abbrev zr_convolution_1_19 : Room := { frames := 7, cells := 1, slots := 6, locals := 95 }
def zp_convolution_1_19 (p0 : Int) (p1 : Int) (p2 : Int) (p3 : Int) (p4 : Int) (p5 : Int) (S0 : zz_S) : Int → zz_S → Prop := fun r S => zz_G S ∧ zz_fr [] [1001, 1003, 1004, 1005, 1006, 1007, 1008, 1009, 1010, 1011, 1012, 1013, 1014, 1015, 1017, 1018, 1019, 1020, 1021, 1022, 1023, 1024, 1025, 1026, 1027, 1028] (fun a i => (a = zz_rf 6 (12 * (S0 1000 7) + S0 (zz_rf 3 (S0 1000 7)) 1) ∧ i = 0) ∨ (a = zz_rf 6 (12 * (S0 1000 7) + S0 (zz_rf 3 (S0 1000 7)) 1) ∧ i = 1) ∨ (a = zz_rf 6 (12 * (S0 1000 7) + S0 (zz_rf 3 (S0 1000 7)) 1) ∧ i = 10) ∨ (a = zz_rf 6 (12 * (S0 1000 7) + S0 (zz_rf 3 (S0 1000 7)) 1) ∧ i = 11) ∨ (a = zz_rf 6 (12 * (S0 1000 7) + S0 (zz_rf 3 (S0 1000 7)) 1) ∧ i = 12) ∨ (a = zz_rf 6 (12 * (S0 1000 7) + S0 (zz_rf 3 (S0 1000 7)) 1) ∧ i = 13) ∨ (a = zz_rf 6 (12 * (S0 1000 7) + S0 (zz_rf 3 (S0 1000 7)) 1) ∧ i = 14) ∨ (a = zz_rf 6 (12 * (S0 1000 7) + S0 (zz_rf 3 (S0 1000 7)) 1) ∧ i = 2) ∨ (a = zz_rf 6 (12 * (S0 1000 7) + S0 (zz_rf 3 (S0 1000 7)) 1) ∧ i = 3) ∨ (a = zz_rf 6 (12 * (S0 1000 7) + S0 (zz_rf 3 (S0 1000 7)) 1) ∧ i = 4) ∨ (a = zz_rf 6 (12 * (S0 1000 7) + S0 (zz_rf 3 (S0 1000 7)) 1) ∧ i = 5) ∨ (a = zz_rf 6 (12 * (S0 1000 7) + S0 (zz_rf 3 (S0 1000 7)) 1) ∧ i = 6) ∨ (a = zz_rf 6 (12 * (S0 1000 7) + S0 (zz_rf 3 (S0 1000 7)) 1) ∧ i = 7) ∨ (a = zz_rf 6 (12 * (S0 1000 7) + S0 (zz_rf 3 (S0 1000 7)) 1) ∧ i = 8) ∨ (a = zz_rf 6 (12 * (S0 1000 7) + S0 (zz_rf 3 (S0 1000 7)) 1) ∧ i = 9)) S0 S ∧ ((-2147483648) ≤ r ∧ r ≤ 2147483647) ∧ (zz_Hc S)
def zx_convolution_1_19 (p0 : Int) (p1 : Int) (p2 : Int) (p3 : Int) (p4 : Int) (p5 : Int) (S0 : zz_S) : Nat → zz_S → Prop := fun i S => zz_G S ∧ zz_fr [] [1001, 1003, 1004, 1005, 1006, 1007, 1008, 1009, 1010, 1011, 1012, 1013, 1014, 1015, 1017, 1018, 1019, 1020, 1021, 1022, 1023, 1024, 1025, 1026, 1027, 1028] (fun a i => (a = zz_rf 6 (12 * (S0 1000 7) + S0 (zz_rf 3 (S0 1000 7)) 1) ∧ i = 0) ∨ (a = zz_rf 6 (12 * (S0 1000 7) + S0 (zz_rf 3 (S0 1000 7)) 1) ∧ i = 1) ∨ (a = zz_rf 6 (12 * (S0 1000 7) + S0 (zz_rf 3 (S0 1000 7)) 1) ∧ i = 10) ∨ (a = zz_rf 6 (12 * (S0 1000 7) + S0 (zz_rf 3 (S0 1000 7)) 1) ∧ i = 11) ∨ (a = zz_rf 6 (12 * (S0 1000 7) + S0 (zz_rf 3 (S0 1000 7)) 1) ∧ i = 12) ∨ (a = zz_rf 6 (12 * (S0 1000 7) + S0 (zz_rf 3 (S0 1000 7)) 1) ∧ i = 13) ∨ (a = zz_rf 6 (12 * (S0 1000 7) + S0 (zz_rf 3 (S0 1000 7)) 1) ∧ i = 14) ∨ (a = zz_rf 6 (12 * (S0 1000 7) + S0 (zz_rf 3 (S0 1000 7)) 1) ∧ i = 2) ∨ (a = zz_rf 6 (12 * (S0 1000 7) + S0 (zz_rf 3 (S0 1000 7)) 1) ∧ i = 3) ∨ (a = zz_rf 6 (12 * (S0 1000 7) + S0 (zz_rf 3 (S0 1000 7)) 1) ∧ i = 4) ∨ (a = zz_rf 6 (12 * (S0 1000 7) + S0 (zz_rf 3 (S0 1000 7)) 1) ∧ i = 5) ∨ (a = zz_rf 6 (12 * (S0 1000 7) + S0 (zz_rf 3 (S0 1000 7)) 1) ∧ i = 6) ∨ (a = zz_rf 6 (12 * (S0 1000 7) + S0 (zz_rf 3 (S0 1000 7)) 1) ∧ i = 7) ∨ (a = zz_rf 6 (12 * (S0 1000 7) + S0 (zz_rf 3 (S0 1000 7)) 1) ∧ i = 8) ∨ (a = zz_rf 6 (12 * (S0 1000 7) + S0 (zz_rf 3 (S0 1000 7)) 1) ∧ i = 9)) S0 S ∧ (i < 4) ∧ (i = 0 ∨ i = 1 ∨ i = 2) ∧ (zz_Hc S)
theorem zc_convolution_1_19 {g : mm_G} {l : Launch} (p0 : Int) (p1 : Int) (p2 : Int) (p3 : Int) (p4 : Int) (p5 : Int) (S0 : zz_S) (n : Nat) (hn : zz_end ≤ n) (hfl : l.flags = flags0) (G_S0 : zz_G S0) (hp0 : (-2147483648) ≤ p0 ∧ p0 ≤ 2147483647) (hp1 : (-2147483648) ≤ p1 ∧ p1 ≤ 2147483647) (hp2 : (-2147483648) ≤ p2 ∧ p2 ≤ 2147483647) (hp3 : (-2147483648) ≤ p3 ∧ p3 ≤ 2147483647) (hp4 : (-2147483648) ≤ p4 ∧ p4 ≤ 2147483647) (hp5 : (-2147483648) ≤ p5 ∧ p5 ≤ 2147483647) (H_S0 : zz_Hc S0) : mm_Met g l zy_convolution_1_19 zr_convolution_1_19 [.ref 1000, zi p0, zi p1, zi p2, zi p3, zi p4, zi p5] (zz_M S0 n) n (zz_XI n (zp_convolution_1_19 p0 p1 p2 p3 p4 p5 S0) (zx_convolution_1_19 p0 p1 p2 p3 p4 p5 S0)) := by
  refine zz_enter (by decide) (Nat.le_of_ble_eq_true rfl) (zz_less (ls1 := [some (.ref 1000), some (zi p0), some (zi p1), some (zi p2), some (zi p3), some (zi p4), some (zi p5)]) ⟨rfl, ⟨rfl, ⟨rfl, ⟨rfl, ⟨rfl, ⟨rfl, ⟨rfl, trivial⟩⟩⟩⟩⟩⟩⟩ ?_)
  have F_S0 : zz_fr [] [1001, 1003, 1004, 1005, 1006, 1007, 1008, 1009, 1010, 1011, 1012, 1013, 1014, 1015, 1017, 1018, 1019, 1020, 1021, 1022, 1023, 1024, 1025, 1026, 1027, 1028] (fun a i => (a = zz_rf 6 (12 * (S0 1000 7) + S0 (zz_rf 3 (S0 1000 7)) 1) ∧ i = 0) ∨ (a = zz_rf 6 (12 * (S0 1000 7) + S0 (zz_rf 3 (S0 1000 7)) 1) ∧ i = 1) ∨ (a = zz_rf 6 (12 * (S0 1000 7) + S0 (zz_rf 3 (S0 1000 7)) 1) ∧ i = 10) ∨ (a = zz_rf 6 (12 * (S0 1000 7) + S0 (zz_rf 3 (S0 1000 7)) 1) ∧ i = 11) ∨ (a = zz_rf 6 (12 * (S0 1000 7) + S0 (zz_rf 3 (S0 1000 7)) 1) ∧ i = 12) ∨ (a = zz_rf 6 (12 * (S0 1000 7) + S0 (zz_rf 3 (S0 1000 7)) 1) ∧ i = 13) ∨ (a = zz_rf 6 (12 * (S0 1000 7) + S0 (zz_rf 3 (S0 1000 7)) 1) ∧ i = 14) ∨ (a = zz_rf 6 (12 * (S0 1000 7) + S0 (zz_rf 3 (S0 1000 7)) 1) ∧ i = 2) ∨ (a = zz_rf 6 (12 * (S0 1000 7) + S0 (zz_rf 3 (S0 1000 7)) 1) ∧ i = 3) ∨ (a = zz_rf 6 (12 * (S0 1000 7) + S0 (zz_rf 3 (S0 1000 7)) 1) ∧ i = 4) ∨ (a = zz_rf 6 (12 * (S0 1000 7) + S0 (zz_rf 3 (S0 1000 7)) 1) ∧ i = 5) ∨ (a = zz_rf 6 (12 * (S0 1000 7) + S0 (zz_rf 3 (S0 1000 7)) 1) ∧ i = 6) ∨ (a = zz_rf 6 (12 * (S0 1000 7) + S0 (zz_rf 3 (S0 1000 7)) 1) ∧ i = 7) ∨ (a = zz_rf 6 (12 * (S0 1000 7) + S0 (zz_rf 3 (S0 1000 7)) 1) ∧ i = 8) ∨ (a = zz_rf 6 (12 * (S0 1000 7) + S0 (zz_rf 3 (S0 1000 7)) 1) ∧ i = 9)) S0 S0 := zz_fr.refl
  refine zz_aload_n (x := 1000) rfl zd_1_19_0 ?_
  have g1 := zz_G.r G_S0 1000 7 0 1 rfl rfl
  refine zz_getr (kd := 1) (z := S0 1000 7) zd_1_19_1 zf_TF_10 zT_1000 rfl (zz_ltn hn rfl) rfl (by omega) (zz_rf 3 (S0 1000 7)) rfl ?_
  refine zz_callVA [] zd_1_19_4 zk_TF_220 (zT_k3 (by omega)) (zN_k3 hn (by omega)) rfl rfl ⟨Nat.le_of_ble_eq_true rfl, Nat.le_of_ble_eq_true rfl⟩ ⟨rfl, rfl⟩ (Nat.zero_le _) (Nat.zero_le _) (zc_draft_7_6 (S0 1000 7) S0 n hn G_S0 (by omega)) (fun v3 S2 hP => ?_)
  obtain ⟨rfl, o4, o5⟩ := hP
  subst o4
  refine zz_astore [some (.ref 1000), some (zi p0), some (zi p1), some (zi p2), some (zi p3), some (zi p4), some (zi p5), some (.ref (zz_rf 6 (12 * (S0 1000 7) + S0 (zz_rf 3 (S0 1000 7)) 1)))] zd_1_19_7 (by decide) rfl ?_
  refine zz_aload (x := zz_rf 6 (12 * (S0 1000 7) + S0 (zz_rf 3 (S0 1000 7)) 1)) rfl zd_1_19_9 ?_
  refine zz_iconst zd_1_19_11 ?_
  refine zz_iload_n (x := p0) rfl zd_1_19_12 ?_
  refine zz_iload_n (x := p0) rfl zd_1_19_13 ?_
  refine zz_callVV [zi 1, zi p0, zi p0] zd_1_19_14 zk_TF_226 (zT_k6 (by omega)) (zN_k6 hn (by omega)) rfl rfl ⟨Nat.le_of_ble_eq_true rfl, Nat.le_of_ble_eq_true rfl⟩ ⟨rfl, rfl⟩ (Nat.zero_le _) (Nat.zero_le _) (zc_reset_4_2 (12 * (S0 1000 7) + S0 (zz_rf 3 (S0 1000 7)) 1) 1 p0 p0 S0 n hn G_S0 (by omega) (by omega) (by omega) (by omega)) (fun S6 hP => ?_)
  obtain ⟨G_S6, fS6, o8⟩ := hP
  have g9 := zz_G.r G_S0 1000 7 0 1 rfl rfl
  have b10 := zz_G.r G_S0 (zz_rf 3 (S0 1000 7)) 1 1 11 (zR_k3_1 (by omega)) (zB_k3 (by omega))
  have F_S6 := zz_fr.trans F_S0 fS6 rfl (fun a i h => by rcases h with h | h | h | h | h | h | h | h | h | h | h | h | h | h | h; exact Or.inr (Or.inr (Or.inl h)); exact Or.inr (Or.inr (Or.inr (Or.inl h))); exact Or.inr (Or.inr (Or.inr (Or.inr (Or.inl h)))); exact Or.inr (Or.inr (Or.inr (Or.inr (Or.inr (Or.inl h))))); exact Or.inr (Or.inr (Or.inr (Or.inr (Or.inr (Or.inr (Or.inl h)))))); exact Or.inr (Or.inr (Or.inr (Or.inr (Or.inr (Or.inr (Or.inr (Or.inl h))))))); exact Or.inr (Or.inr (Or.inr (Or.inr (Or.inr (Or.inr (Or.inr (Or.inr (Or.inl h)))))))); exact Or.inr (Or.inr (Or.inr (Or.inr (Or.inr (Or.inr (Or.inr (Or.inr (Or.inr (Or.inl h))))))))); exact Or.inr (Or.inr (Or.inr (Or.inr (Or.inr (Or.inr (Or.inr (Or.inr (Or.inr (Or.inr (Or.inl h)))))))))); exact Or.inr (Or.inr (Or.inr (Or.inr (Or.inr (Or.inr (Or.inr (Or.inr (Or.inr (Or.inr (Or.inr (Or.inl h))))))))))); exact Or.inr (Or.inr (Or.inr (Or.inr (Or.inr (Or.inr (Or.inr (Or.inr (Or.inr (Or.inr (Or.inr (Or.inr (Or.inl h)))))))))))); exact Or.inr (Or.inr (Or.inr (Or.inr (Or.inr (Or.inr (Or.inr (Or.inr (Or.inr (Or.inr (Or.inr (Or.inr (Or.inr (Or.inl h))))))))))))); exact Or.inr (Or.inr (Or.inr (Or.inr (Or.inr (Or.inr (Or.inr (Or.inr (Or.inr (Or.inr (Or.inr (Or.inr (Or.inr (Or.inr (Or.inl h)))))))))))))); exact Or.inr (Or.inr (Or.inr (Or.inr (Or.inr (Or.inr (Or.inr (Or.inr (Or.inr (Or.inr (Or.inr (Or.inr (Or.inr (Or.inr (Or.inr (Or.inl h))))))))))))))); exact Or.inr (Or.inr (Or.inr (Or.inr (Or.inr (Or.inr (Or.inr (Or.inr (Or.inr (Or.inr (Or.inr (Or.inr (Or.inr (Or.inr (Or.inr (Or.inr (h)))))))))))))))))
  have b11 := zz_G.r G_S0 (zz_rf 3 (S0 1000 7)) 1 1 11 (zR_k3_1 (by omega)) (zB_k3 (by omega))
  have b12 := zz_rf6 (z := (12 * (S0 1000 7) + S0 (zz_rf 3 (S0 1000 7)) 1)) (by omega)
  have b13 := zz_rf3 (z := (S0 1000 7)) (by omega)
  have H_S6 : zz_Hc S6 := zz_Hc.fr (q := (S0 1000 7)) (z := 12 * (S0 1000 7) + S0 (zz_rf 3 (S0 1000 7)) 1) fS6 rfl rfl G_S0 (by omega) rfl (fun b j h => by omega) H_S0
  refine zz_aload (x := zz_rf 6 (12 * (S0 1000 7) + S0 (zz_rf 3 (S0 1000 7)) 1)) rfl zd_1_19_17 ?_
  refine zz_iload_n (x := p1) rfl zd_1_19_19 ?_
  refine zz_bipush (by decide) zd_1_19_20 ?_
  refine zz_idiv (by omega) (by omega) zd_1_19_22 (fun v14 hv14 av14 bv14 cv14 => ?_)
  refine zz_iload_n (x := p1) rfl zd_1_19_23 ?_
  refine zz_bipush (by decide) zd_1_19_24 ?_
  refine zz_irem (by omega) (by omega) zd_1_19_26 (fun v15 hv15 av15 bv15 cv15 => ?_)
  refine zz_callVV [zi v14, zi v15] zd_1_19_27 zk_TF_229 (zT_k6 (by omega)) (zN_k6 hn (by omega)) rfl rfl ⟨Nat.le_of_ble_eq_true rfl, Nat.le_of_ble_eq_true rfl⟩ ⟨rfl, rfl⟩ (Nat.zero_le _) (Nat.zero_le _) (zc_takeKernel_4_4 (12 * (S0 1000 7) + S0 (zz_rf 3 (S0 1000 7)) 1) v14 v15 S6 n hn G_S6 (by omega) (by omega) (by omega)) (fun S16 hP => ?_)
  obtain ⟨G_S16, fS16⟩ := hP
  have F_S16 := zz_fr.trans F_S6 fS16 rfl (fun a i h => by rcases h with h | h; exact Or.inr (Or.inr (Or.inr (Or.inr (Or.inr (Or.inr (Or.inr (Or.inr (Or.inr (Or.inr (Or.inl h)))))))))); exact Or.inr (Or.inr (Or.inr (Or.inr (Or.inr (Or.inr (Or.inr (Or.inr (Or.inr (Or.inr (Or.inr (Or.inl h))))))))))))
  have H_S16 : zz_Hc S16 := zz_Hc.fr (q := (S0 1000 7)) (z := 12 * (S0 1000 7) + S0 (zz_rf 3 (S0 1000 7)) 1) fS16 rfl rfl G_S6 (by omega) (by rw [show S6 (zz_rf 3 (S0 1000 7)) 1 = S0 (zz_rf 3 (S0 1000 7)) 1 from (zz_rc fS6 (zP_k3 (by omega) rfl) (zQ_k3 (by omega) rfl) (by omega) rfl)]) (fun b j h => by omega) H_S6
  refine zz_aload (x := zz_rf 6 (12 * (S0 1000 7) + S0 (zz_rf 3 (S0 1000 7)) 1)) rfl zd_1_19_30 ?_
  refine zz_iload (x := p3) rfl zd_1_19_32 ?_
  refine zz_bipush (by decide) zd_1_19_34 ?_
  refine zz_idiv (by omega) (by omega) zd_1_19_36 (fun v18 hv18 av18 bv18 cv18 => ?_)
  refine zz_puti zd_1_19_37 zf_TF_232 (zT_k6 (by omega)) rfl (zN_k6 hn (by omega)) (fun S19 qS19 => ?_)
  have G_S19 := zz_G.put G_S16 qS19 (-2147483648) 2147483647 (zR_k6_5 (by omega)) (by omega)
  have F_S19 := zz_fr.putc F_S16 qS19 (zM_k6 (by omega) rfl)
  have H_S19 : zz_Hc S19 := zz_Hc.fr (q := (S0 1000 7)) (z := 12 * (S0 1000 7) + S0 (zz_rf 3 (S0 1000 7)) 1) (zz_fr.put1 qS19) rfl rfl G_S16 (by omega) (by rw [show S16 (zz_rf 3 (S0 1000 7)) 1 = S0 (zz_rf 3 (S0 1000 7)) 1 from (zz_rc fS16 (zP_k3 (by omega) rfl) (zQ_k3 (by omega) rfl) (by omega) (zz_rc fS6 (zP_k3 (by omega) rfl) (zQ_k3 (by omega) rfl) (by omega) rfl))]) (fun b j h => Or.inr (Or.inr h.1)) H_S16
  refine zz_aload (x := zz_rf 6 (12 * (S0 1000 7) + S0 (zz_rf 3 (S0 1000 7)) 1)) rfl zd_1_19_40 ?_
  refine zz_iload (x := p3) rfl zd_1_19_42 ?_
  refine zz_bipush (by decide) zd_1_19_44 ?_
  refine zz_irem (by omega) (by omega) zd_1_19_46 (fun v20 hv20 av20 bv20 cv20 => ?_)
  refine zz_puti zd_1_19_47 zf_TF_235 (zT_k6 (by omega)) rfl (zN_k6 hn (by omega)) (fun S21 qS21 => ?_)
  have G_S21 := zz_G.put G_S19 qS21 (-2147483648) 2147483647 (zR_k6_6 (by omega)) (by omega)
  have F_S21 := zz_fr.putc F_S19 qS21 (zM_k6 (by omega) rfl)
  have H_S21 : zz_Hc S21 := zz_Hc.fr (q := (S0 1000 7)) (z := 12 * (S0 1000 7) + S0 (zz_rf 3 (S0 1000 7)) 1) (zz_fr.put1 qS21) rfl rfl G_S19 (by omega) (by rw [show S19 (zz_rf 3 (S0 1000 7)) 1 = S0 (zz_rf 3 (S0 1000 7)) 1 from (zz_ro qS19 (fun h => absurd h.2 (by decide)) (zz_rc fS16 (zP_k3 (by omega) rfl) (zQ_k3 (by omega) rfl) (by omega) (zz_rc fS6 (zP_k3 (by omega) rfl) (zQ_k3 (by omega) rfl) (by omega) rfl)))]) (fun b j h => Or.inr (Or.inr h.1)) H_S19
  refine zz_aload (x := zz_rf 6 (12 * (S0 1000 7) + S0 (zz_rf 3 (S0 1000 7)) 1)) rfl zd_1_19_50 ?_
  refine zz_iload (x := p4) rfl zd_1_19_52 ?_
  refine zz_callVV [zi p4] zd_1_19_54 zk_TF_238 (zT_k6 (by omega)) (zN_k6 hn (by omega)) rfl rfl ⟨Nat.le_of_ble_eq_true rfl, Nat.le_of_ble_eq_true rfl⟩ ⟨rfl, rfl⟩ (Nat.zero_le _) (Nat.zero_le _) (zc_takeNarrowing_4_5 (12 * (S0 1000 7) + S0 (zz_rf 3 (S0 1000 7)) 1) p4 S21 n hn G_S21 (by omega) (by omega)) (fun S22 hP => ?_)
  obtain ⟨G_S22, fS22⟩ := hP
  have F_S22 := zz_fr.trans F_S21 fS22 rfl (fun a i h => by rcases h with h | h; exact Or.inr (Or.inr (Or.inr (Or.inr (Or.inr (Or.inr (Or.inr (Or.inr (Or.inr (Or.inr (Or.inr (Or.inr (Or.inr (Or.inr (Or.inl h)))))))))))))); exact Or.inr (Or.inr (Or.inr (Or.inr (Or.inr (Or.inr (Or.inr (Or.inr (Or.inr (Or.inr (Or.inr (Or.inr (Or.inr (Or.inr (Or.inr (Or.inl h))))))))))))))))
  have H_S22 : zz_Hc S22 := zz_Hc.fr (q := (S0 1000 7)) (z := 12 * (S0 1000 7) + S0 (zz_rf 3 (S0 1000 7)) 1) fS22 rfl rfl G_S21 (by omega) (by rw [show S21 (zz_rf 3 (S0 1000 7)) 1 = S0 (zz_rf 3 (S0 1000 7)) 1 from (zz_ro qS21 (fun h => absurd h.2 (by decide)) (zz_ro qS19 (fun h => absurd h.2 (by decide)) (zz_rc fS16 (zP_k3 (by omega) rfl) (zQ_k3 (by omega) rfl) (by omega) (zz_rc fS6 (zP_k3 (by omega) rfl) (zQ_k3 (by omega) rfl) (by omega) rfl))))]) (fun b j h => by omega) H_S21
  refine zz_aload (x := zz_rf 6 (12 * (S0 1000 7) + S0 (zz_rf 3 (S0 1000 7)) 1)) rfl zd_1_19_57 ?_
  refine zz_iload_n (x := p2) rfl zd_1_19_59 ?_
  refine zz_puti zd_1_19_60 zf_TF_241 (zT_k6 (by omega)) rfl (zN_k6 hn (by omega)) (fun S24 qS24 => ?_)
  have G_S24 := zz_G.put G_S22 qS24 (-2147483648) 2147483647 (zR_k6_12 (by omega)) (by omega)
  have F_S24 := zz_fr.putc F_S22 qS24 (zM_k6 (by omega) rfl)
  have H_S24 : zz_Hc S24 := zz_Hc.fr (q := (S0 1000 7)) (z := 12 * (S0 1000 7) + S0 (zz_rf 3 (S0 1000 7)) 1) (zz_fr.put1 qS24) rfl rfl G_S22 (by omega) (by rw [show S22 (zz_rf 3 (S0 1000 7)) 1 = S0 (zz_rf 3 (S0 1000 7)) 1 from (zz_rc fS22 (zP_k3 (by omega) rfl) (zQ_k3 (by omega) rfl) (by omega) (zz_ro qS21 (fun h => absurd h.2 (by decide)) (zz_ro qS19 (fun h => absurd h.2 (by decide)) (zz_rc fS16 (zP_k3 (by omega) rfl) (zQ_k3 (by omega) rfl) (by omega) (zz_rc fS6 (zP_k3 (by omega) rfl) (zQ_k3 (by omega) rfl) (by omega) rfl)))))]) (fun b j h => Or.inr (Or.inr h.1)) H_S22
  refine zz_aload (x := zz_rf 6 (12 * (S0 1000 7) + S0 (zz_rf 3 (S0 1000 7)) 1)) rfl zd_1_19_63 ?_
  refine zz_iload (x := p5) rfl zd_1_19_65 ?_
  refine zz_puti zd_1_19_67 zf_TF_244 (zT_k6 (by omega)) rfl (zN_k6 hn (by omega)) (fun S25 qS25 => ?_)
  have G_S25 := zz_G.put G_S24 qS25 (-2147483648) 2147483647 (zR_k6_9 (by omega)) (by omega)
  have F_S25 := zz_fr.putc F_S24 qS25 (zM_k6 (by omega) rfl)
  have H_S25 : zz_Hc S25 := zz_Hc.fr (q := (S0 1000 7)) (z := 12 * (S0 1000 7) + S0 (zz_rf 3 (S0 1000 7)) 1) (zz_fr.put1 qS25) rfl rfl G_S24 (by omega) (by rw [show S24 (zz_rf 3 (S0 1000 7)) 1 = S0 (zz_rf 3 (S0 1000 7)) 1 from (zz_ro qS24 (fun h => absurd h.2 (by decide)) (zz_rc fS22 (zP_k3 (by omega) rfl) (zQ_k3 (by omega) rfl) (by omega) (zz_ro qS21 (fun h => absurd h.2 (by decide)) (zz_ro qS19 (fun h => absurd h.2 (by decide)) (zz_rc fS16 (zP_k3 (by omega) rfl) (zQ_k3 (by omega) rfl) (by omega) (zz_rc fS6 (zP_k3 (by omega) rfl) (zQ_k3 (by omega) rfl) (by omega) rfl))))))]) (fun b j h => Or.inr (Or.inr h.1)) H_S24
  refine zz_aload_n (x := 1000) rfl zd_1_19_70 ?_
  have g32 := zz_G.r G_S25 1000 7 0 1 rfl rfl
  have b33 := zz_G.r G_S25 (zz_rf 3 (S25 1000 7)) 1 1 11 (zR_k3_1 (by omega)) (zB_k3 (by omega))
  refine zz_callVXI [] zd_1_19_71 zk_TF_247 zT_1000 (zz_ltn hn rfl) rfl rfl ⟨Nat.le_of_ble_eq_true rfl, Nat.le_of_ble_eq_true rfl⟩ (Nat.le_of_ble_eq_true rfl) (Nat.le_of_ble_eq_true rfl) (zc_added_1_31  S25 n hn hfl G_S25 H_S25) zyw_convolution_1_19 (fun i SX hX => by obtain ⟨GX, fX, x0, x1, x2⟩ := hX; exact Or.inr ⟨_, _, rfl, GX, zz_fr.trans F_S25 fX rfl (fun a i h => by rcases h with h | h | h | h | h; exact Or.inr (Or.inl (h.1 ▸ zM_k3 (z := (S25 1000 7)) (by omega) rfl)); exact Or.inr (Or.inl (h.1 ▸ zM_k6 (z := (12 * (S25 1000 7) + S25 (zz_rf 3 (S25 1000 7)) 1)) (by omega) rfl)); exact Or.inr (Or.inl (h.1 ▸ zM_k6 (z := (12 * (S25 1000 7) + S25 (zz_rf 3 (S25 1000 7)) 1)) (by omega) rfl)); exact Or.inr (Or.inl (h.1 ▸ zM_k6 (z := (12 * (S25 1000 7) + S25 (zz_rf 3 (S25 1000 7)) 1)) (by omega) rfl)); exact Or.inr (Or.inl (h.1 ▸ zM_k6 (z := (12 * (S25 1000 7) + S25 (zz_rf 3 (S25 1000 7)) 1)) (by omega) rfl))), by omega, by omega, x2⟩) (fun v29 S28 hP => ?_)
  obtain ⟨G_S28, fS28, o30, o31⟩ := hP
  have F_S28 := zz_fr.trans F_S25 fS28 rfl (fun a i h => by rcases h with h | h | h | h | h; exact Or.inr (Or.inl (h.1 ▸ zM_k3 (z := (S25 1000 7)) (by omega) rfl)); exact Or.inr (Or.inl (h.1 ▸ zM_k6 (z := (12 * (S25 1000 7) + S25 (zz_rf 3 (S25 1000 7)) 1)) (by omega) rfl)); exact Or.inr (Or.inl (h.1 ▸ zM_k6 (z := (12 * (S25 1000 7) + S25 (zz_rf 3 (S25 1000 7)) 1)) (by omega) rfl)); exact Or.inr (Or.inl (h.1 ▸ zM_k6 (z := (12 * (S25 1000 7) + S25 (zz_rf 3 (S25 1000 7)) 1)) (by omega) rfl)); exact Or.inr (Or.inl (h.1 ▸ zM_k6 (z := (12 * (S25 1000 7) + S25 (zz_rf 3 (S25 1000 7)) 1)) (by omega) rfl)))
  have b34 := zz_rf3 (z := (S25 1000 7)) (by omega)
  have b35 := zz_G.r G_S25 (zz_rf 3 (S25 1000 7)) 1 1 11 (zR_k3_1 (by omega)) (zB_k3 (by omega))
  have b36 := zz_rf6 (z := (12 * (S25 1000 7) + S25 (zz_rf 3 (S25 1000 7)) 1)) (by omega)
  have H_S28 : zz_Hc S28 := o31
  exact zz_iret zd_1_19_74 rfl (Nat.le_of_ble_eq_true rfl) (Nat.le_of_ble_eq_true rfl) (Or.inl ⟨_, _, rfl, G_S28, F_S28, by omega, H_S28⟩)
abbrev zy_pool_1_20 : mm_Y := (⟨"TensorForge", "pool", "(III)I"⟩, prog_1_method_20_code, 5, (some .int))
theorem zyw_pool_1_20 : mm_Yw zy_pool_1_20 3 := ⟨mm_tb_1 1381 (by decide +kernel) rfl, mm_tb_1 1 (by decide +kernel) rfl, ⟨by decide, by decide⟩, by decide +kernel⟩
theorem zd_1_20_0 : zz_D zy_pool_1_20 0 (.aload_n 0) 1 1 := ⟨by decide +kernel, rfl⟩
theorem zd_1_20_1 : zz_D zy_pool_1_20 1 (.getfield 10) 3 4 := ⟨by decide +kernel, rfl⟩
theorem zd_1_20_4 : zz_D zy_pool_1_20 4 (.invokevirtual 220) 3 7 := ⟨by decide +kernel, rfl⟩
theorem zd_1_20_7 : zz_D zy_pool_1_20 7 (.astore 4) 2 9 := ⟨by decide +kernel, rfl⟩
theorem zd_1_20_9 : zz_D zy_pool_1_20 9 (.aload 4) 2 11 := ⟨by decide +kernel, rfl⟩
theorem zd_1_20_11 : zz_D zy_pool_1_20 11 (.iconst 2) 1 12 := ⟨by decide +kernel, rfl⟩
theorem zd_1_20_12 : zz_D zy_pool_1_20 12 (.iload_n 1) 1 13 := ⟨by decide +kernel, rfl⟩
theorem zd_1_20_13 : zz_D zy_pool_1_20 13 (.iload_n 1) 1 14 := ⟨by decide +kernel, rfl⟩
theorem zd_1_20_14 : zz_D zy_pool_1_20 14 (.invokevirtual 226) 3 17 := ⟨by decide +kernel, rfl⟩
theorem zd_1_20_17 : zz_D zy_pool_1_20 17 (.aload 4) 2 19 := ⟨by decide +kernel, rfl⟩
theorem zd_1_20_19 : zz_D zy_pool_1_20 19 (.iload_n 2) 1 20 := ⟨by decide +kernel, rfl⟩
theorem zd_1_20_20 : zz_D zy_pool_1_20 20 (.bipush 10) 2 22 := ⟨by decide +kernel, rfl⟩
theorem zd_1_20_22 : zz_D zy_pool_1_20 22 (.idiv) 1 23 := ⟨by decide +kernel, rfl⟩
theorem zd_1_20_23 : zz_D zy_pool_1_20 23 (.iload_n 2) 1 24 := ⟨by decide +kernel, rfl⟩
theorem zd_1_20_24 : zz_D zy_pool_1_20 24 (.bipush 10) 2 26 := ⟨by decide +kernel, rfl⟩
theorem zd_1_20_26 : zz_D zy_pool_1_20 26 (.irem) 1 27 := ⟨by decide +kernel, rfl⟩
theorem zd_1_20_27 : zz_D zy_pool_1_20 27 (.invokevirtual 229) 3 30 := ⟨by decide +kernel, rfl⟩
theorem zd_1_20_30 : zz_D zy_pool_1_20 30 (.aload 4) 2 32 := ⟨by decide +kernel, rfl⟩
theorem zd_1_20_32 : zz_D zy_pool_1_20 32 (.iload_n 3) 1 33 := ⟨by decide +kernel, rfl⟩
theorem zd_1_20_33 : zz_D zy_pool_1_20 33 (.putfield 232) 3 36 := ⟨by decide +kernel, rfl⟩
theorem zd_1_20_36 : zz_D zy_pool_1_20 36 (.aload_n 0) 1 37 := ⟨by decide +kernel, rfl⟩
theorem zd_1_20_37 : zz_D zy_pool_1_20 37 (.invokevirtual 247) 3 40 := ⟨by decide +kernel, rfl⟩
theorem zd_1_20_40 : zz_D zy_pool_1_20 40 (.ireturn) 1 41 := ⟨by decide +kernel, rfl⟩

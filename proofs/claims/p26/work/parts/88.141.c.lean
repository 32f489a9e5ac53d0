-- TensorForge network ()I
abbrev zr_network_1_25 : Room := { frames := 10, cells := 0, slots := 0, locals := 139 }
def zp_network_1_25  (S0 : zz_S) : Int → zz_S → Prop := fun r S => zz_G S ∧ zz_fr [(1000, 7), (1000, 8), (1070, 2), (1070, 3), (1070, 4), (1070, 5), (1070, 6), (1073, 1), (1073, 4), (1073, 5), (1073, 6), (1073, 7), (1073, 8), (1075, 0), (1075, 1), (1075, 2), (1075, 3), (1075, 4), (1075, 5), (1075, 6), (1075, 7), (1075, 8), (1075, 9), (1075, 10)] [1003, 1004, 1005, 1006, 1007, 1008, 1009, 1010, 1011, 1012, 1013, 1014, 1017, 1018, 1019, 1020, 1021, 1022, 1023, 1024, 1025, 1026, 1027, 1028, 1074, 1075] (fun a i => (a = zz_rf 3 ((S0 1000 8)) ∧ i = 1) ∨ (a = zz_rf 3 (S0 1000 8) ∧ i = 1)) S0 S ∧ ((-2147483648) ≤ r ∧ r ≤ 2147483647) ∧ (r = (zn_nt (S0 1071) (S0 1070 1) 1502 0 0 0 zn_v0).1) ∧ (r = -1 → zn_V (zn_nt (S0 1071) (S0 1070 1) 1502 0 0 0 zn_v0).2 ∧ zn_C S (S0 1000 8) (zn_nt (S0 1071) (S0 1070 1) 1502 0 0 0 zn_v0).2 ∧ S 1000 7 = S0 1000 8 ∧ S 1000 8 = S0 1000 7) ∧ (r ≠ -1 → S 1000 7 = S0 1000 7 ∧ S 1000 8 = S0 1000 8) ∧ (S0 1000 7 + S0 1000 8 = 1 → ∀ v : zn_T, zn_V v → zn_C S0 (S0 1000 7) v → zn_C S (S0 1000 7) v) ∧ (zz_Hc S)
theorem zc_network_1_25 {g : mm_G} {l : Launch}  (S0 : zz_S) (n : Nat) (hn : zz_end ≤ n) (G_S0 : zz_G S0) (H_S0 : zz_Hc S0) : mm_Met g l zy_network_1_25 zr_network_1_25 [.ref 1000] (zz_M S0 n) n (zz_QI n (zp_network_1_25  S0)) := by
  refine zz_enter (by decide) (Nat.le_of_ble_eq_true rfl) (zz_less (ls1 := [some (.ref 1000)]) ⟨rfl, trivial⟩ ?_)
  have F_S0 : zz_fr [(1000, 7), (1000, 8), (1070, 2), (1070, 3), (1070, 4), (1070, 5), (1070, 6), (1073, 1), (1073, 4), (1073, 5), (1073, 6), (1073, 7), (1073, 8), (1075, 0), (1075, 1), (1075, 2), (1075, 3), (1075, 4), (1075, 5), (1075, 6), (1075, 7), (1075, 8), (1075, 9), (1075, 10)] [1003, 1004, 1005, 1006, 1007, 1008, 1009, 1010, 1011, 1012, 1013, 1014, 1017, 1018, 1019, 1020, 1021, 1022, 1023, 1024, 1025, 1026, 1027, 1028, 1074, 1075] (fun a i => (a = zz_rf 3 ((S0 1000 8)) ∧ i = 1) ∨ (a = zz_rf 3 (S0 1000 8) ∧ i = 1)) S0 S0 := zz_fr.refl
  refine zz_aload_n (x := 1000) rfl zd_1_25_0 ?_
  refine zz_getr (kd := 0) (z := 1073) zd_1_25_1 zf_TF_67 zT_1000 rfl (zz_ltn hn rfl) (zz_G.eq G_S0 1000 4 1073 rfl rfl) (by decide) 1073 rfl ?_
  refine zz_aload_n (x := 1000) rfl zd_1_25_4 ?_
  have g1 := zz_G.r G_S0 1000 8 0 1 rfl rfl
  refine zz_getr (kd := 1) (z := S0 1000 8) zd_1_25_5 zf_TF_16 zT_1000 rfl (zz_ltn hn rfl) rfl (by omega) (zz_rf 3 (S0 1000 8)) rfl ?_
  have g2 := zz_G.r G_S0 1070 1 0 1500 rfl rfl
  refine zz_callVI [.ref (zz_rf 3 (S0 1000 8))] zd_1_25_8 zk_TF_296 zT_1073 (zz_ltn hn rfl) rfl rfl ⟨Nat.le_of_ble_eq_true rfl, Nat.le_of_ble_eq_true rfl⟩ ⟨rfl, rfl⟩ (Nat.zero_le _) (Nat.zero_le _) (zc_readInto_8_2 (S0 1000 8) S0 n hn G_S0 (by omega) H_S0) (fun v4 S3 hP => ?_)
  obtain ⟨G_S3, fS3, o5, o6, o7, o8, o9⟩ := hP
  have g10 := zz_G.r G_S0 1000 8 0 1 rfl rfl
  have F_S3 := zz_fr.trans F_S0 fS3 rfl (fun a i h => by rcases h with h | h; exact Or.inr (Or.inr (Or.inl h)); exact Or.inr (Or.inr (Or.inr (h))))
  have b11 := zz_rf3 (z := ((S0 1000 8))) (by omega)
  have b12 := zz_rf3 (z := (S0 1000 8)) (by omega)
  have H_S3 : zz_Hc S3 := o9
  refine zz_istore_n [some (.ref 1000), some (zi v4)] zd_1_25_11 (by decide) rfl ?_
  refine zz_iload_n (x := v4) rfl zd_1_25_12 ?_
  refine zz_iconst zd_1_25_13 ?_
  refine zz_icmp_ne (by omega) (by omega) zd_1_25_14 (fun c13 => ?_) (fun c13 => ?_)
  · refine zz_iload_n (x := v4) rfl zd_1_25_35 ?_
    have g14 := zz_G.r G_S0 1000 7 0 1 rfl rfl
    have e15 : S3 1000 7 = S0 1000 7 := (zz_rc fS3 rfl rfl (by first | decide | omega) rfl)
    have e16 : S3 1000 8 = S0 1000 8 := (zz_rc fS3 rfl rfl (by first | decide | omega) rfl)
    exact zz_iret zd_1_25_36 rfl (Nat.zero_le _) (Nat.zero_le _) ⟨_, _, rfl, G_S3, F_S3, by omega, o6, fun h => absurd h (by omega), fun h => ⟨by omega, by omega⟩, (fun hs v hV hC => by have v1 := hV.1; have h3_ := zz_rf3 (z := S0 1000 7) (by omega); exact hC.same (by exact o8 _ _ (by omega) (by omega) (by omega)) (fun k k1 k2 s _ => by have h6_ := zz_rf6 (z := 12 * (S0 1000 7) + k) (by omega); exact o8 _ _ (by omega) (by omega) (by omega))), H_S3⟩
  · refine zz_aload_n (x := 1000) rfl zd_1_25_17 ?_
    have g17 := zz_G.r G_S0 1000 7 0 1 rfl rfl
    refine zz_getr (kd := 1) (z := S0 1000 7) zd_1_25_18 zf_TF_10 zT_1000 rfl (zz_ltn hn rfl) (zz_rc fS3 rfl rfl (by first | decide | omega) rfl) (by omega) (zz_rf 3 (S0 1000 7)) rfl ?_
    refine zz_astore_n [some (.ref 1000), some (zi v4), some (.ref (zz_rf 3 (S0 1000 7)))] zd_1_25_21 (by decide) rfl ?_
    refine zz_aload_n (x := 1000) rfl zd_1_25_22 ?_
    refine zz_aload_n (x := 1000) rfl zd_1_25_23 ?_
    refine zz_getr (kd := 1) (z := S0 1000 8) zd_1_25_24 zf_TF_16 zT_1000 rfl (zz_ltn hn rfl) (zz_rc fS3 rfl rfl (by first | decide | omega) rfl) (by omega) (zz_rf 3 (S0 1000 8)) rfl ?_
    refine zz_putr (kd := 1) (S0 1000 8) zd_1_25_27 zf_TF_10 zT_1000 rfl (zz_ltn hn rfl) (by omega) rfl (fun _ => rfl) (fun _ => rfl) (fun S18 qS18 => ?_)
    have G_S18 := zz_G.put G_S3 qS18 0 1 rfl (by omega)
    have F_S18 := zz_fr.puts F_S3 qS18 rfl
    have H_S18 : zz_Hc S18 := zz_Hc.fr (q := 0) (zz_fr.put1 qS18) rfl rfl G_S3 (by decide) rfl (fun b j h => by omega) H_S3
    refine zz_aload_n (x := 1000) rfl zd_1_25_30 ?_
    refine zz_aload_n (x := zz_rf 3 (S0 1000 7)) rfl zd_1_25_31 ?_
    refine zz_putr (kd := 1) (S0 1000 7) zd_1_25_32 zf_TF_16 zT_1000 rfl (zz_ltn hn rfl) (by omega) rfl (fun _ => rfl) (fun _ => rfl) (fun S19 qS19 => ?_)
    have G_S19 := zz_G.put G_S18 qS19 0 1 rfl (by omega)
    have F_S19 := zz_fr.puts F_S18 qS19 rfl
    have H_S19 : zz_Hc S19 := zz_Hc.fr (q := 0) (zz_fr.put1 qS19) rfl rfl G_S18 (by decide) rfl (fun b j h => by omega) H_S18
    refine zz_iload_n (x := v4) rfl zd_1_25_35 ?_
    have e20 : S19 1000 7 = S0 1000 8 := (zz_ro qS19 (fun h => absurd h.2 (by decide)) (zz_rs qS18))
    have e21 : S19 1000 8 = S0 1000 7 := (zz_rs qS19)
    exact zz_iret zd_1_25_36 rfl (Nat.zero_le _) (Nat.zero_le _) ⟨_, _, rfl, G_S19, F_S19, by omega, o6, (fun h => by have h9 := o7 (by omega); exact ⟨h9.1, (h9.2.same (by have h3_ := zz_rf3 (z := S0 1000 8) (by omega); exact ((zz_ro qS19 (fun h => by omega) rfl).trans (zz_ro qS18 (fun h => by omega) rfl))) (fun k k1 k2 s _ => by have v1 := h9.1.1; have h6_ := zz_rf6 (z := 12 * (S0 1000 8) + k) (by omega); exact ((zz_ro qS19 (fun h => by omega) rfl).trans (zz_ro qS18 (fun h => by omega) rfl)))), by omega, by omega⟩), fun h => absurd (by omega) h, (fun hs v hV hC => by have v1 := hV.1; have h3_ := zz_rf3 (z := S0 1000 7) (by omega); exact hC.same (by exact ((zz_ro qS19 (fun h => by omega) rfl).trans (zz_ro qS18 (fun h => by omega) rfl)).trans (o8 _ _ (by omega) (by omega) (by omega))) (fun k k1 k2 s _ => by have h6_ := zz_rf6 (z := 12 * (S0 1000 7) + k) (by omega); exact ((zz_ro qS19 (fun h => by omega) rfl).trans (zz_ro qS18 (fun h => by omega) rfl)).trans (o8 _ _ (by omega) (by omega) (by omega)))), H_S19⟩
abbrev zy_networkSign_1_26 : mm_Y := (⟨"TensorForge", "networkSign", "(II)I"⟩, prog_1_method_26_code, 3, (some .int))
theorem zyw_networkSign_1_26 : mm_Yw zy_networkSign_1_26 2 := ⟨mm_tb_1 1487 (by decide +kernel) rfl, mm_tb_1 1 (by decide +kernel) rfl, ⟨by decide, by decide⟩, by decide +kernel⟩
theorem zt_1_26_15 : zz_ThrW zy_networkSign_1_26 15 101 299 105 := ⟨by decide +kernel, by decide +kernel, by decide +kernel, by decide +kernel, by decide +kernel⟩
theorem zxl_TF_101_299_105 : mm_Xl "TensorForge" 101 299 105 1 := ⟨mm_tb_1 1133 (by decide +kernel) rfl, mm_tb_1 1134 (by decide +kernel) rfl, mm_tb_1 18 (by decide +kernel) rfl, ⟨56, by decide +kernel⟩, zxa_TF_105⟩
abbrev zy_writeLayer_5_4 : mm_Y := (⟨"TensorForge$Line", "writeLayer", "(LTensorForge$Layer;)V"⟩, prog_5_method_4_code, 2, none)
theorem zyw_writeLayer_5_4 : mm_Yw zy_writeLayer_5_4 1 := ⟨mm_tb_1 1492 (by decide +kernel) rfl, mm_tb_1 11 (by decide +kernel) rfl, ⟨by decide, by decide⟩, by decide +kernel⟩
theorem zf_Line_73 : mm_Fl "TensorForge$Line" 73 2 0 .int false := ⟨R_Layer, F_Layer, 15, t_Layer, rfl, i_Layer, by decide, mm_tb_1 59 (by decide +kernel) rfl, rfl, t_Layer_ok, n_Layer, rfl, by decide +kernel⟩
theorem zd_5_4_9 : zz_W zy_writeLayer_5_4 9 122 1 3 #[27, 74, 101] := ⟨27, by decide +kernel⟩
theorem zf_Line_80 : mm_Fl "TensorForge$Line" 80 2 1 .int false := ⟨R_Layer, F_Layer, 15, t_Layer, rfl, i_Layer, by decide, mm_tb_1 62 (by decide +kernel) rfl, rfl, t_Layer_ok, n_Layer, rfl, by decide +kernel⟩
theorem zf_Line_87 : mm_Fl "TensorForge$Line" 87 2 3 .int false := ⟨R_Layer, F_Layer, 15, t_Layer, rfl, i_Layer, by decide, mm_tb_1 70 (by decide +kernel) rfl, rfl, t_Layer_ok, n_Layer, rfl, by decide +kernel⟩
theorem zf_Line_90 : mm_Fl "TensorForge$Line" 90 2 4 .int false := ⟨R_Layer, F_Layer, 15, t_Layer, rfl, i_Layer, by decide, mm_tb_1 72 (by decide +kernel) rfl, rfl, t_Layer_ok, n_Layer, rfl, by decide +kernel⟩
theorem zf_Line_95 : mm_Fl "TensorForge$Line" 95 2 12 .int false := ⟨R_Layer, F_Layer, 15, t_Layer, rfl, i_Layer, by decide, mm_tb_1 104 (by decide +kernel) rfl, rfl, t_Layer_ok, n_Layer, rfl, by decide +kernel⟩
theorem zf_Line_98 : mm_Fl "TensorForge$Line" 98 2 9 .int false := ⟨R_Layer, F_Layer, 15, t_Layer, rfl, i_Layer, by decide, mm_tb_1 91 (by decide +kernel) rfl, rfl, t_Layer_ok, n_Layer, rfl, by decide +kernel⟩
abbrev zy_addOptions_5_5 : mm_Y := (⟨"TensorForge$Line", "addOptions", "(LTensorForge$Layer;)V"⟩, prog_5_method_5_code, 2, none)
theorem zyw_addOptions_5_5 : mm_Yw zy_addOptions_5_5 1 := ⟨mm_tb_1 1501 (by decide +kernel) rfl, mm_tb_1 11 (by decide +kernel) rfl, ⟨by decide, by decide⟩, by decide +kernel⟩
theorem zf_Line_126 : mm_Fl "TensorForge$Line" 126 2 5 .int false := ⟨R_Layer, F_Layer, 15, t_Layer, rfl, i_Layer, by decide, mm_tb_1 75 (by decide +kernel) rfl, rfl, t_Layer_ok, n_Layer, rfl, by decide +kernel⟩
theorem zf_Line_128 : mm_Fl "TensorForge$Line" 128 2 6 .int false := ⟨R_Layer, F_Layer, 15, t_Layer, rfl, i_Layer, by decide, mm_tb_1 80 (by decide +kernel) rfl, rfl, t_Layer_ok, n_Layer, rfl, by decide +kernel⟩
theorem zf_Line_132 : mm_Fl "TensorForge$Line" 132 2 7 .int false := ⟨R_Layer, F_Layer, 15, t_Layer, rfl, i_Layer, by decide, mm_tb_1 85 (by decide +kernel) rfl, rfl, t_Layer_ok, n_Layer, rfl, by decide +kernel⟩
theorem zf_Line_136 : mm_Fl "TensorForge$Line" 136 2 8 .boolean false := ⟨R_Layer, F_Layer, 15, t_Layer, rfl, i_Layer, by decide, mm_tb_1 88 (by decide +kernel) rfl, rfl, t_Layer_ok, n_Layer, rfl, by decide +kernel⟩
theorem zg_1_26_0 : zq_at zy_networkSign_1_26.2.1 0 42 ∧ zq_at zy_networkSign_1_26.2.1 1 180 ∧ zq_at zy_networkSign_1_26.2.1 2 0 ∧ zq_at zy_networkSign_1_26.2.1 3 10 ∧ zq_at zy_networkSign_1_26.2.1 4 27 ∧ zq_at zy_networkSign_1_26.2.1 5 182 ∧ zq_at zy_networkSign_1_26.2.1 6 0 ∧ zq_at zy_networkSign_1_26.2.1 7 251 ∧ zq_at zy_networkSign_1_26.2.1 8 153 ∧ zq_at zy_networkSign_1_26.2.1 9 0 ∧ zq_at zy_networkSign_1_26.2.1 10 7 ∧ zq_at zy_networkSign_1_26.2.1 11 28 ∧ zq_at zy_networkSign_1_26.2.1 12 156 ∧ zq_at zy_networkSign_1_26.2.1 13 0 ∧ zq_at zy_networkSign_1_26.2.1 14 14 ∧ zq_at zy_networkSign_1_26.2.1 26 42 ∧ zq_at zy_networkSign_1_26.2.1 27 180 ∧ zq_at zy_networkSign_1_26.2.1 28 0 ∧ zq_at zy_networkSign_1_26.2.1 29 83 ∧ zq_at zy_networkSign_1_26.2.1 30 42 ∧ zq_at zy_networkSign_1_26.2.1 31 180 ∧ zq_at zy_networkSign_1_26.2.1 32 0 ∧ zq_at zy_networkSign_1_26.2.1 33 10 := by decide +kernel
theorem zd_1_26_0 : zz_D zy_networkSign_1_26 0 (.aload_n 0) 1 1 := ⟨zq_42 zg_1_26_0.1, rfl⟩
theorem zd_1_26_1 : zz_D zy_networkSign_1_26 1 (.getfield 10) 3 4 := ⟨zq_180 zg_1_26_0.2.1 zg_1_26_0.2.2.1 zg_1_26_0.2.2.2.1 rfl, rfl⟩
theorem zd_1_26_4 : zz_D zy_networkSign_1_26 4 (.iload_n 1) 1 5 := ⟨zq_27 zg_1_26_0.2.2.2.2.1, rfl⟩
theorem zd_1_26_5 : zz_D zy_networkSign_1_26 5 (.invokevirtual 251) 3 8 := ⟨zq_182 zg_1_26_0.2.2.2.2.2.1 zg_1_26_0.2.2.2.2.2.2.1 zg_1_26_0.2.2.2.2.2.2.2.1 rfl, rfl⟩
theorem zd_1_26_8 : zz_B zy_networkSign_1_26 8 (Instr.ifCond .eq) 15 11 := ⟨7, zq_153 zg_1_26_0.2.2.2.2.2.2.2.2.1 zg_1_26_0.2.2.2.2.2.2.2.2.2.1 zg_1_26_0.2.2.2.2.2.2.2.2.2.2.1 (by decide), rfl, rfl⟩
theorem zd_1_26_11 : zz_D zy_networkSign_1_26 11 (.iload_n 2) 1 12 := ⟨zq_28 zg_1_26_0.2.2.2.2.2.2.2.2.2.2.2.1, rfl⟩
theorem zd_1_26_12 : zz_B zy_networkSign_1_26 12 (Instr.ifCond .ge) 26 15 := ⟨14, zq_156 zg_1_26_0.2.2.2.2.2.2.2.2.2.2.2.2.1 zg_1_26_0.2.2.2.2.2.2.2.2.2.2.2.2.2.1 zg_1_26_0.2.2.2.2.2.2.2.2.2.2.2.2.2.2.1 (by decide), rfl, rfl⟩
theorem zd_1_26_26 : zz_D zy_networkSign_1_26 26 (.aload_n 0) 1 27 := ⟨zq_42 zg_1_26_0.2.2.2.2.2.2.2.2.2.2.2.2.2.2.2.1, rfl⟩
theorem zd_1_26_27 : zz_D zy_networkSign_1_26 27 (.getfield 83) 3 30 := ⟨zq_180 zg_1_26_0.2.2.2.2.2.2.2.2.2.2.2.2.2.2.2.2.1 zg_1_26_0.2.2.2.2.2.2.2.2.2.2.2.2.2.2.2.2.2.1 zg_1_26_0.2.2.2.2.2.2.2.2.2.2.2.2.2.2.2.2.2.2.1 rfl, rfl⟩
theorem zd_1_26_30 : zz_D zy_networkSign_1_26 30 (.aload_n 0) 1 31 := ⟨zq_42 zg_1_26_0.2.2.2.2.2.2.2.2.2.2.2.2.2.2.2.2.2.2.2.1, rfl⟩
theorem zd_1_26_31 : zz_D zy_networkSign_1_26 31 (.getfield 10) 3 34 := ⟨zq_180 zg_1_26_0.2.2.2.2.2.2.2.2.2.2.2.2.2.2.2.2.2.2.2.2.1 zg_1_26_0.2.2.2.2.2.2.2.2.2.2.2.2.2.2.2.2.2.2.2.2.2.1 zg_1_26_0.2.2.2.2.2.2.2.2.2.2.2.2.2.2.2.2.2.2.2.2.2.2 rfl, rfl⟩
theorem zg_1_26_34 : zq_at zy_networkSign_1_26.2.1 34 180 ∧ zq_at zy_networkSign_1_26.2.1 35 1 ∧ zq_at zy_networkSign_1_26.2.1 36 2 ∧ zq_at zy_networkSign_1_26.2.1 37 27 ∧ zq_at zy_networkSign_1_26.2.1 38 50 ∧ zq_at zy_networkSign_1_26.2.1 39 182 ∧ zq_at zy_networkSign_1_26.2.1 40 1 ∧ zq_at zy_networkSign_1_26.2.1 41 45 := by decide +kernel
theorem zd_1_26_34 : zz_D zy_networkSign_1_26 34 (.getfield 258) 3 37 := ⟨zq_180 zg_1_26_34.1 zg_1_26_34.2.1 zg_1_26_34.2.2.1 rfl, rfl⟩
theorem zd_1_26_37 : zz_D zy_networkSign_1_26 37 (.iload_n 1) 1 38 := ⟨zq_27 zg_1_26_34.2.2.2.1, rfl⟩
theorem zd_1_26_38 : zz_D zy_networkSign_1_26 38 (.aaload) 1 39 := ⟨zq_50 zg_1_26_34.2.2.2.2.1, rfl⟩
theorem zd_1_26_39 : zz_D zy_networkSign_1_26 39 (.invokevirtual 301) 3 42 := ⟨zq_182 zg_1_26_34.2.2.2.2.2.1 zg_1_26_34.2.2.2.2.2.2.1 zg_1_26_34.2.2.2.2.2.2.2 rfl, rfl⟩
theorem zg_5_4_0 : zq_at zy_writeLayer_5_4.2.1 0 42 ∧ zq_at zy_writeLayer_5_4.2.1 1 3 ∧ zq_at zy_writeLayer_5_4.2.1 2 181 ∧ zq_at zy_writeLayer_5_4.2.1 3 0 ∧ zq_at zy_writeLayer_5_4.2.1 4 15 ∧ zq_at zy_writeLayer_5_4.2.1 5 43 ∧ zq_at zy_writeLayer_5_4.2.1 6 180 ∧ zq_at zy_writeLayer_5_4.2.1 7 0 ∧ zq_at zy_writeLayer_5_4.2.1 8 73 ∧ zq_at zy_writeLayer_5_4.2.1 36 42 ∧ zq_at zy_writeLayer_5_4.2.1 37 18 ∧ zq_at zy_writeLayer_5_4.2.1 38 78 ∧ zq_at zy_writeLayer_5_4.2.1 39 43 ∧ zq_at zy_writeLayer_5_4.2.1 40 180 ∧ zq_at zy_writeLayer_5_4.2.1 41 0 ∧ zq_at zy_writeLayer_5_4.2.1 42 80 ∧ zq_at zy_writeLayer_5_4.2.1 43 182 ∧ zq_at zy_writeLayer_5_4.2.1 44 0 ∧ zq_at zy_writeLayer_5_4.2.1 45 83 ∧ zq_at zy_writeLayer_5_4.2.1 46 42 ∧ zq_at zy_writeLayer_5_4.2.1 47 18 ∧ zq_at zy_writeLayer_5_4.2.1 48 43 ∧ zq_at zy_writeLayer_5_4.2.1 49 43 := by decide +kernel
theorem zd_5_4_0 : zz_D zy_writeLayer_5_4 0 (.aload_n 0) 1 1 := ⟨zq_42 zg_5_4_0.1, rfl⟩
theorem zd_5_4_1 : zz_D zy_writeLayer_5_4 1 (.iconst 0) 1 2 := ⟨zq_3 zg_5_4_0.2.1, rfl⟩
theorem zd_5_4_2 : zz_D zy_writeLayer_5_4 2 (.putfield 15) 3 5 := ⟨zq_181 zg_5_4_0.2.2.1 zg_5_4_0.2.2.2.1 zg_5_4_0.2.2.2.2.1 rfl, rfl⟩
theorem zd_5_4_5 : zz_D zy_writeLayer_5_4 5 (.aload_n 1) 1 6 := ⟨zq_43 zg_5_4_0.2.2.2.2.2.1, rfl⟩
theorem zd_5_4_6 : zz_D zy_writeLayer_5_4 6 (.getfield 73) 3 9 := ⟨zq_180 zg_5_4_0.2.2.2.2.2.2.1 zg_5_4_0.2.2.2.2.2.2.2.1 zg_5_4_0.2.2.2.2.2.2.2.2.1 rfl, rfl⟩
theorem zd_5_4_36 : zz_D zy_writeLayer_5_4 36 (.aload_n 0) 1 37 := ⟨zq_42 zg_5_4_0.2.2.2.2.2.2.2.2.2.1, rfl⟩
theorem zd_5_4_37 : zz_D zy_writeLayer_5_4 37 (.ldc 78) 2 39 := ⟨zq_18 zg_5_4_0.2.2.2.2.2.2.2.2.2.2.1 zg_5_4_0.2.2.2.2.2.2.2.2.2.2.2.1, rfl⟩
theorem zd_5_4_39 : zz_D zy_writeLayer_5_4 39 (.aload_n 1) 1 40 := ⟨zq_43 zg_5_4_0.2.2.2.2.2.2.2.2.2.2.2.2.1, rfl⟩
theorem zd_5_4_40 : zz_D zy_writeLayer_5_4 40 (.getfield 80) 3 43 := ⟨zq_180 zg_5_4_0.2.2.2.2.2.2.2.2.2.2.2.2.2.1 zg_5_4_0.2.2.2.2.2.2.2.2.2.2.2.2.2.2.1 zg_5_4_0.2.2.2.2.2.2.2.2.2.2.2.2.2.2.2.1 rfl, rfl⟩
theorem zd_5_4_43 : zz_D zy_writeLayer_5_4 43 (.invokevirtual 83) 3 46 := ⟨zq_182 zg_5_4_0.2.2.2.2.2.2.2.2.2.2.2.2.2.2.2.2.1 zg_5_4_0.2.2.2.2.2.2.2.2.2.2.2.2.2.2.2.2.2.1 zg_5_4_0.2.2.2.2.2.2.2.2.2.2.2.2.2.2.2.2.2.2.1 rfl, rfl⟩
theorem zd_5_4_46 : zz_D zy_writeLayer_5_4 46 (.aload_n 0) 1 47 := ⟨zq_42 zg_5_4_0.2.2.2.2.2.2.2.2.2.2.2.2.2.2.2.2.2.2.2.1, rfl⟩
theorem zd_5_4_47 : zz_D zy_writeLayer_5_4 47 (.ldc 43) 2 49 := ⟨zq_18 zg_5_4_0.2.2.2.2.2.2.2.2.2.2.2.2.2.2.2.2.2.2.2.2.1 zg_5_4_0.2.2.2.2.2.2.2.2.2.2.2.2.2.2.2.2.2.2.2.2.2.1, rfl⟩
theorem zd_5_4_49 : zz_D zy_writeLayer_5_4 49 (.aload_n 1) 1 50 := ⟨zq_43 zg_5_4_0.2.2.2.2.2.2.2.2.2.2.2.2.2.2.2.2.2.2.2.2.2.2, rfl⟩
theorem zg_5_4_50 : zq_at zy_writeLayer_5_4.2.1 50 180 ∧ zq_at zy_writeLayer_5_4.2.1 51 0 ∧ zq_at zy_writeLayer_5_4.2.1 52 87 ∧ zq_at zy_writeLayer_5_4.2.1 53 43 ∧ zq_at zy_writeLayer_5_4.2.1 54 180 ∧ zq_at zy_writeLayer_5_4.2.1 55 0 ∧ zq_at zy_writeLayer_5_4.2.1 56 90 ∧ zq_at zy_writeLayer_5_4.2.1 57 182 ∧ zq_at zy_writeLayer_5_4.2.1 58 0 ∧ zq_at zy_writeLayer_5_4.2.1 59 45 ∧ zq_at zy_writeLayer_5_4.2.1 60 42 ∧ zq_at zy_writeLayer_5_4.2.1 61 18 ∧ zq_at zy_writeLayer_5_4.2.1 62 93 ∧ zq_at zy_writeLayer_5_4.2.1 63 43 ∧ zq_at zy_writeLayer_5_4.2.1 64 180 ∧ zq_at zy_writeLayer_5_4.2.1 65 0 ∧ zq_at zy_writeLayer_5_4.2.1 66 95 ∧ zq_at zy_writeLayer_5_4.2.1 67 182 ∧ zq_at zy_writeLayer_5_4.2.1 68 0 ∧ zq_at zy_writeLayer_5_4.2.1 69 83 ∧ zq_at zy_writeLayer_5_4.2.1 70 42 ∧ zq_at zy_writeLayer_5_4.2.1 71 18 ∧ zq_at zy_writeLayer_5_4.2.1 72 33 ∧ zq_at zy_writeLayer_5_4.2.1 73 43 := by decide +kernel
theorem zd_5_4_50 : zz_D zy_writeLayer_5_4 50 (.getfield 87) 3 53 := ⟨zq_180 zg_5_4_50.1 zg_5_4_50.2.1 zg_5_4_50.2.2.1 rfl, rfl⟩
theorem zd_5_4_53 : zz_D zy_writeLayer_5_4 53 (.aload_n 1) 1 54 := ⟨zq_43 zg_5_4_50.2.2.2.1, rfl⟩
theorem zd_5_4_54 : zz_D zy_writeLayer_5_4 54 (.getfield 90) 3 57 := ⟨zq_180 zg_5_4_50.2.2.2.2.1 zg_5_4_50.2.2.2.2.2.1 zg_5_4_50.2.2.2.2.2.2.1 rfl, rfl⟩
theorem zd_5_4_57 : zz_D zy_writeLayer_5_4 57 (.invokevirtual 45) 3 60 := ⟨zq_182 zg_5_4_50.2.2.2.2.2.2.2.1 zg_5_4_50.2.2.2.2.2.2.2.2.1 zg_5_4_50.2.2.2.2.2.2.2.2.2.1 rfl, rfl⟩
theorem zd_5_4_60 : zz_D zy_writeLayer_5_4 60 (.aload_n 0) 1 61 := ⟨zq_42 zg_5_4_50.2.2.2.2.2.2.2.2.2.2.1, rfl⟩
theorem zd_5_4_61 : zz_D zy_writeLayer_5_4 61 (.ldc 93) 2 63 := ⟨zq_18 zg_5_4_50.2.2.2.2.2.2.2.2.2.2.2.1 zg_5_4_50.2.2.2.2.2.2.2.2.2.2.2.2.1, rfl⟩
theorem zd_5_4_63 : zz_D zy_writeLayer_5_4 63 (.aload_n 1) 1 64 := ⟨zq_43 zg_5_4_50.2.2.2.2.2.2.2.2.2.2.2.2.2.1, rfl⟩
theorem zd_5_4_64 : zz_D zy_writeLayer_5_4 64 (.getfield 95) 3 67 := ⟨zq_180 zg_5_4_50.2.2.2.2.2.2.2.2.2.2.2.2.2.2.1 zg_5_4_50.2.2.2.2.2.2.2.2.2.2.2.2.2.2.2.1 zg_5_4_50.2.2.2.2.2.2.2.2.2.2.2.2.2.2.2.2.1 rfl, rfl⟩
theorem zd_5_4_67 : zz_D zy_writeLayer_5_4 67 (.invokevirtual 83) 3 70 := ⟨zq_182 zg_5_4_50.2.2.2.2.2.2.2.2.2.2.2.2.2.2.2.2.2.1 zg_5_4_50.2.2.2.2.2.2.2.2.2.2.2.2.2.2.2.2.2.2.1 zg_5_4_50.2.2.2.2.2.2.2.2.2.2.2.2.2.2.2.2.2.2.2.1 rfl, rfl⟩
theorem zd_5_4_70 : zz_D zy_writeLayer_5_4 70 (.aload_n 0) 1 71 := ⟨zq_42 zg_5_4_50.2.2.2.2.2.2.2.2.2.2.2.2.2.2.2.2.2.2.2.2.1, rfl⟩
theorem zd_5_4_71 : zz_D zy_writeLayer_5_4 71 (.ldc 33) 2 73 := ⟨zq_18 zg_5_4_50.2.2.2.2.2.2.2.2.2.2.2.2.2.2.2.2.2.2.2.2.2.1 zg_5_4_50.2.2.2.2.2.2.2.2.2.2.2.2.2.2.2.2.2.2.2.2.2.2.1, rfl⟩
theorem zd_5_4_73 : zz_D zy_writeLayer_5_4 73 (.aload_n 1) 1 74 := ⟨zq_43 zg_5_4_50.2.2.2.2.2.2.2.2.2.2.2.2.2.2.2.2.2.2.2.2.2.2.2, rfl⟩
theorem zg_5_4_74 : zq_at zy_writeLayer_5_4.2.1 74 180 ∧ zq_at zy_writeLayer_5_4.2.1 75 0 ∧ zq_at zy_writeLayer_5_4.2.1 76 98 ∧ zq_at zy_writeLayer_5_4.2.1 77 182 ∧ zq_at zy_writeLayer_5_4.2.1 78 0 ∧ zq_at zy_writeLayer_5_4.2.1 79 83 ∧ zq_at zy_writeLayer_5_4.2.1 80 167 ∧ zq_at zy_writeLayer_5_4.2.1 81 0 ∧ zq_at zy_writeLayer_5_4.2.1 82 75 ∧ zq_at zy_writeLayer_5_4.2.1 155 42 ∧ zq_at zy_writeLayer_5_4.2.1 156 43 ∧ zq_at zy_writeLayer_5_4.2.1 157 182 ∧ zq_at zy_writeLayer_5_4.2.1 158 0 ∧ zq_at zy_writeLayer_5_4.2.1 159 122 := by decide +kernel
theorem zd_5_4_74 : zz_D zy_writeLayer_5_4 74 (.getfield 98) 3 77 := ⟨zq_180 zg_5_4_74.1 zg_5_4_74.2.1 zg_5_4_74.2.2.1 rfl, rfl⟩
theorem zd_5_4_77 : zz_D zy_writeLayer_5_4 77 (.invokevirtual 83) 3 80 := ⟨zq_182 zg_5_4_74.2.2.2.1 zg_5_4_74.2.2.2.2.1 zg_5_4_74.2.2.2.2.2.1 rfl, rfl⟩
theorem zd_5_4_80 : zz_B zy_writeLayer_5_4 80 Instr.goto 155 83 := ⟨75, zq_167 zg_5_4_74.2.2.2.2.2.2.1 zg_5_4_74.2.2.2.2.2.2.2.1 zg_5_4_74.2.2.2.2.2.2.2.2.1 (by decide), rfl, rfl⟩
theorem zd_5_4_155 : zz_D zy_writeLayer_5_4 155 (.aload_n 0) 1 156 := ⟨zq_42 zg_5_4_74.2.2.2.2.2.2.2.2.2.1, rfl⟩
theorem zd_5_4_156 : zz_D zy_writeLayer_5_4 156 (.aload_n 1) 1 157 := ⟨zq_43 zg_5_4_74.2.2.2.2.2.2.2.2.2.2.1, rfl⟩
theorem zd_5_4_157 : zz_D zy_writeLayer_5_4 157 (.invokevirtual 122) 3 160 := ⟨zq_182 zg_5_4_74.2.2.2.2.2.2.2.2.2.2.2.1 zg_5_4_74.2.2.2.2.2.2.2.2.2.2.2.2.1 zg_5_4_74.2.2.2.2.2.2.2.2.2.2.2.2.2 rfl, rfl⟩
theorem zg_5_5_0 : zq_at zy_addOptions_5_5.2.1 0 43 ∧ zq_at zy_addOptions_5_5.2.1 1 180 ∧ zq_at zy_addOptions_5_5.2.1 2 0 ∧ zq_at zy_addOptions_5_5.2.1 3 126 ∧ zq_at zy_addOptions_5_5.2.1 4 4 ∧ zq_at zy_addOptions_5_5.2.1 5 159 ∧ zq_at zy_addOptions_5_5.2.1 6 0 ∧ zq_at zy_addOptions_5_5.2.1 7 13 ∧ zq_at zy_addOptions_5_5.2.1 18 43 ∧ zq_at zy_addOptions_5_5.2.1 19 180 ∧ zq_at zy_addOptions_5_5.2.1 20 0 ∧ zq_at zy_addOptions_5_5.2.1 21 128 ∧ zq_at zy_addOptions_5_5.2.1 22 153 ∧ zq_at zy_addOptions_5_5.2.1 23 0 ∧ zq_at zy_addOptions_5_5.2.1 24 13 ∧ zq_at zy_addOptions_5_5.2.1 35 43 ∧ zq_at zy_addOptions_5_5.2.1 36 180 ∧ zq_at zy_addOptions_5_5.2.1 37 0 ∧ zq_at zy_addOptions_5_5.2.1 38 132 ∧ zq_at zy_addOptions_5_5.2.1 39 153 ∧ zq_at zy_addOptions_5_5.2.1 40 0 ∧ zq_at zy_addOptions_5_5.2.1 41 13 ∧ zq_at zy_addOptions_5_5.2.1 52 42 ∧ zq_at zy_addOptions_5_5.2.1 53 43 := by decide +kernel
theorem zd_5_5_0 : zz_D zy_addOptions_5_5 0 (.aload_n 1) 1 1 := ⟨zq_43 zg_5_5_0.1, rfl⟩
theorem zd_5_5_1 : zz_D zy_addOptions_5_5 1 (.getfield 126) 3 4 := ⟨zq_180 zg_5_5_0.2.1 zg_5_5_0.2.2.1 zg_5_5_0.2.2.2.1 rfl, rfl⟩
theorem zd_5_5_4 : zz_D zy_addOptions_5_5 4 (.iconst 1) 1 5 := ⟨zq_4 zg_5_5_0.2.2.2.2.1, rfl⟩
theorem zd_5_5_5 : zz_B zy_addOptions_5_5 5 (Instr.if_icmp .eq) 18 8 := ⟨13, zq_159 zg_5_5_0.2.2.2.2.2.1 zg_5_5_0.2.2.2.2.2.2.1 zg_5_5_0.2.2.2.2.2.2.2.1 (by decide), rfl, rfl⟩
theorem zd_5_5_18 : zz_D zy_addOptions_5_5 18 (.aload_n 1) 1 19 := ⟨zq_43 zg_5_5_0.2.2.2.2.2.2.2.2.1, rfl⟩
theorem zd_5_5_19 : zz_D zy_addOptions_5_5 19 (.getfield 128) 3 22 := ⟨zq_180 zg_5_5_0.2.2.2.2.2.2.2.2.2.1 zg_5_5_0.2.2.2.2.2.2.2.2.2.2.1 zg_5_5_0.2.2.2.2.2.2.2.2.2.2.2.1 rfl, rfl⟩
theorem zd_5_5_22 : zz_B zy_addOptions_5_5 22 (Instr.ifCond .eq) 35 25 := ⟨13, zq_153 zg_5_5_0.2.2.2.2.2.2.2.2.2.2.2.2.1 zg_5_5_0.2.2.2.2.2.2.2.2.2.2.2.2.2.1 zg_5_5_0.2.2.2.2.2.2.2.2.2.2.2.2.2.2.1 (by decide), rfl, rfl⟩
theorem zd_5_5_35 : zz_D zy_addOptions_5_5 35 (.aload_n 1) 1 36 := ⟨zq_43 zg_5_5_0.2.2.2.2.2.2.2.2.2.2.2.2.2.2.2.1, rfl⟩
theorem zd_5_5_36 : zz_D zy_addOptions_5_5 36 (.getfield 132) 3 39 := ⟨zq_180 zg_5_5_0.2.2.2.2.2.2.2.2.2.2.2.2.2.2.2.2.1 zg_5_5_0.2.2.2.2.2.2.2.2.2.2.2.2.2.2.2.2.2.1 zg_5_5_0.2.2.2.2.2.2.2.2.2.2.2.2.2.2.2.2.2.2.1 rfl, rfl⟩
theorem zd_5_5_39 : zz_B zy_addOptions_5_5 39 (Instr.ifCond .eq) 52 42 := ⟨13, zq_153 zg_5_5_0.2.2.2.2.2.2.2.2.2.2.2.2.2.2.2.2.2.2.2.1 zg_5_5_0.2.2.2.2.2.2.2.2.2.2.2.2.2.2.2.2.2.2.2.2.1 zg_5_5_0.2.2.2.2.2.2.2.2.2.2.2.2.2.2.2.2.2.2.2.2.2.1 (by decide), rfl, rfl⟩
theorem zd_5_5_52 : zz_D zy_addOptions_5_5 52 (.aload_n 0) 1 53 := ⟨zq_42 zg_5_5_0.2.2.2.2.2.2.2.2.2.2.2.2.2.2.2.2.2.2.2.2.2.2.1, rfl⟩
theorem zd_5_5_53 : zz_D zy_addOptions_5_5 53 (.aload_n 1) 1 54 := ⟨zq_43 zg_5_5_0.2.2.2.2.2.2.2.2.2.2.2.2.2.2.2.2.2.2.2.2.2.2.2, rfl⟩
theorem zg_5_5_54 : zq_at zy_addOptions_5_5.2.1 54 180 ∧ zq_at zy_addOptions_5_5.2.1 55 0 ∧ zq_at zy_addOptions_5_5.2.1 56 136 ∧ zq_at zy_addOptions_5_5.2.1 57 18 ∧ zq_at zy_addOptions_5_5.2.1 58 140 ∧ zq_at zy_addOptions_5_5.2.1 59 182 ∧ zq_at zy_addOptions_5_5.2.1 60 0 ∧ zq_at zy_addOptions_5_5.2.1 61 59 ∧ zq_at zy_addOptions_5_5.2.1 62 177 ∧ zq_at zy_addOptions_5_5.2.1 42 42 ∧ zq_at zy_addOptions_5_5.2.1 43 18 ∧ zq_at zy_addOptions_5_5.2.1 44 135 ∧ zq_at zy_addOptions_5_5.2.1 45 43 ∧ zq_at zy_addOptions_5_5.2.1 46 180 ∧ zq_at zy_addOptions_5_5.2.1 47 0 ∧ zq_at zy_addOptions_5_5.2.1 48 132 ∧ zq_at zy_addOptions_5_5.2.1 49 182 ∧ zq_at zy_addOptions_5_5.2.1 50 0 ∧ zq_at zy_addOptions_5_5.2.1 51 83 ∧ zq_at zy_addOptions_5_5.2.1 25 42 ∧ zq_at zy_addOptions_5_5.2.1 26 18 ∧ zq_at zy_addOptions_5_5.2.1 27 131 ∧ zq_at zy_addOptions_5_5.2.1 28 43 := by decide +kernel
theorem zd_5_5_54 : zz_D zy_addOptions_5_5 54 (.getfield 136) 3 57 := ⟨zq_180 zg_5_5_54.1 zg_5_5_54.2.1 zg_5_5_54.2.2.1 rfl, rfl⟩
theorem zd_5_5_57 : zz_D zy_addOptions_5_5 57 (.ldc 140) 2 59 := ⟨zq_18 zg_5_5_54.2.2.2.1 zg_5_5_54.2.2.2.2.1, rfl⟩
theorem zd_5_5_59 : zz_D zy_addOptions_5_5 59 (.invokevirtual 59) 3 62 := ⟨zq_182 zg_5_5_54.2.2.2.2.2.1 zg_5_5_54.2.2.2.2.2.2.1 zg_5_5_54.2.2.2.2.2.2.2.1 rfl, rfl⟩
theorem zd_5_5_62 : zz_D zy_addOptions_5_5 62 (.return_) 1 63 := ⟨zq_177 zg_5_5_54.2.2.2.2.2.2.2.2.1, rfl⟩
theorem zd_5_5_42 : zz_D zy_addOptions_5_5 42 (.aload_n 0) 1 43 := ⟨zq_42 zg_5_5_54.2.2.2.2.2.2.2.2.2.1, rfl⟩
theorem zd_5_5_43 : zz_D zy_addOptions_5_5 43 (.ldc 135) 2 45 := ⟨zq_18 zg_5_5_54.2.2.2.2.2.2.2.2.2.2.1 zg_5_5_54.2.2.2.2.2.2.2.2.2.2.2.1, rfl⟩
theorem zd_5_5_45 : zz_D zy_addOptions_5_5 45 (.aload_n 1) 1 46 := ⟨zq_43 zg_5_5_54.2.2.2.2.2.2.2.2.2.2.2.2.1, rfl⟩
theorem zd_5_5_46 : zz_D zy_addOptions_5_5 46 (.getfield 132) 3 49 := ⟨zq_180 zg_5_5_54.2.2.2.2.2.2.2.2.2.2.2.2.2.1 zg_5_5_54.2.2.2.2.2.2.2.2.2.2.2.2.2.2.1 zg_5_5_54.2.2.2.2.2.2.2.2.2.2.2.2.2.2.2.1 rfl, rfl⟩
theorem zd_5_5_49 : zz_D zy_addOptions_5_5 49 (.invokevirtual 83) 3 52 := ⟨zq_182 zg_5_5_54.2.2.2.2.2.2.2.2.2.2.2.2.2.2.2.2.1 zg_5_5_54.2.2.2.2.2.2.2.2.2.2.2.2.2.2.2.2.2.1 zg_5_5_54.2.2.2.2.2.2.2.2.2.2.2.2.2.2.2.2.2.2.1 rfl, rfl⟩
theorem zd_5_5_25 : zz_D zy_addOptions_5_5 25 (.aload_n 0) 1 26 := ⟨zq_42 zg_5_5_54.2.2.2.2.2.2.2.2.2.2.2.2.2.2.2.2.2.2.2.1, rfl⟩
theorem zd_5_5_26 : zz_D zy_addOptions_5_5 26 (.ldc 131) 2 28 := ⟨zq_18 zg_5_5_54.2.2.2.2.2.2.2.2.2.2.2.2.2.2.2.2.2.2.2.2.1 zg_5_5_54.2.2.2.2.2.2.2.2.2.2.2.2.2.2.2.2.2.2.2.2.2.1, rfl⟩
theorem zd_5_5_28 : zz_D zy_addOptions_5_5 28 (.aload_n 1) 1 29 := ⟨zq_43 zg_5_5_54.2.2.2.2.2.2.2.2.2.2.2.2.2.2.2.2.2.2.2.2.2.2, rfl⟩
theorem zg_5_5_29 : zq_at zy_addOptions_5_5.2.1 29 180 ∧ zq_at zy_addOptions_5_5.2.1 30 0 ∧ zq_at zy_addOptions_5_5.2.1 31 128 ∧ zq_at zy_addOptions_5_5.2.1 32 182 ∧ zq_at zy_addOptions_5_5.2.1 33 0 ∧ zq_at zy_addOptions_5_5.2.1 34 83 ∧ zq_at zy_addOptions_5_5.2.1 8 42 ∧ zq_at zy_addOptions_5_5.2.1 9 18 ∧ zq_at zy_addOptions_5_5.2.1 10 53 ∧ zq_at zy_addOptions_5_5.2.1 11 43 ∧ zq_at zy_addOptions_5_5.2.1 12 180 ∧ zq_at zy_addOptions_5_5.2.1 13 0 ∧ zq_at zy_addOptions_5_5.2.1 14 126 ∧ zq_at zy_addOptions_5_5.2.1 15 182 ∧ zq_at zy_addOptions_5_5.2.1 16 0 ∧ zq_at zy_addOptions_5_5.2.1 17 83 := by decide +kernel
theorem zd_5_5_29 : zz_D zy_addOptions_5_5 29 (.getfield 128) 3 32 := ⟨zq_180 zg_5_5_29.1 zg_5_5_29.2.1 zg_5_5_29.2.2.1 rfl, rfl⟩
theorem zd_5_5_32 : zz_D zy_addOptions_5_5 32 (.invokevirtual 83) 3 35 := ⟨zq_182 zg_5_5_29.2.2.2.1 zg_5_5_29.2.2.2.2.1 zg_5_5_29.2.2.2.2.2.1 rfl, rfl⟩
theorem zd_5_5_8 : zz_D zy_addOptions_5_5 8 (.aload_n 0) 1 9 := ⟨zq_42 zg_5_5_29.2.2.2.2.2.2.1, rfl⟩
theorem zd_5_5_9 : zz_D zy_addOptions_5_5 9 (.ldc 53) 2 11 := ⟨zq_18 zg_5_5_29.2.2.2.2.2.2.2.1 zg_5_5_29.2.2.2.2.2.2.2.2.1, rfl⟩
theorem zd_5_5_11 : zz_D zy_addOptions_5_5 11 (.aload_n 1) 1 12 := ⟨zq_43 zg_5_5_29.2.2.2.2.2.2.2.2.2.1, rfl⟩
theorem zd_5_5_12 : zz_D zy_addOptions_5_5 12 (.getfield 126) 3 15 := ⟨zq_180 zg_5_5_29.2.2.2.2.2.2.2.2.2.2.1 zg_5_5_29.2.2.2.2.2.2.2.2.2.2.2.1 zg_5_5_29.2.2.2.2.2.2.2.2.2.2.2.2.1 rfl, rfl⟩
theorem zd_5_5_15 : zz_D zy_addOptions_5_5 15 (.invokevirtual 83) 3 18 := ⟨zq_182 zg_5_5_29.2.2.2.2.2.2.2.2.2.2.2.2.2.1 zg_5_5_29.2.2.2.2.2.2.2.2.2.2.2.2.2.2.1 zg_5_5_29.2.2.2.2.2.2.2.2.2.2.2.2.2.2.2 rfl, rfl⟩
-- TensorForge$Line addOptions (LTensorForge$Layer;)V
abbrev zr_addOptions_5_5 : Room := { frames := 6, cells := 0, slots := 0, locals := 82 }
def zp_addOptions_5_5 (p0 : Int) (S0 : zz_S) : zz_S → Prop := fun S => zz_G S ∧ zz_fr [(1077, 1)] [1078] (fun _ _ => False) S0 S ∧ (∀ (u : List Int) (m : Nat) (a b c d : Int), zs_L (S0 1077 1) (S0 1078) u m → m ≤ 46 → 1 ≤ a ∧ 0 ≤ b ∧ 0 ≤ c → (S0 (zz_rf 6 p0) 5) = a → (S0 (zz_rf 6 p0) 6) = b → (S0 (zz_rf 6 p0) 7) = c → (S0 (zz_rf 6 p0) 8) = d → zs_L (S 1077 1) (S 1078) (zs_op u a b c d) (m + 38))
theorem zc_addOptions_5_5 {g : mm_G} {l : Launch} (p0 : Int) (S0 : zz_S) (n : Nat) (hn : zz_end ≤ n) (G_S0 : zz_G S0) (hp0 : 0 ≤ p0 ∧ p0 ≤ 23) : mm_Met g l zy_addOptions_5_5 zr_addOptions_5_5 [.ref 1077, .ref (zz_rf 6 p0)] (zz_M S0 n) n (zz_QV n (zp_addOptions_5_5 p0 S0)) := by
  refine zz_enter (by decide) (Nat.le_of_ble_eq_true rfl) (zz_less (ls1 := [some (.ref 1077), some (.ref (zz_rf 6 p0))]) ⟨rfl, ⟨rfl, trivial⟩⟩ ?_)
  have F_S0 : zz_fr [(1077, 1)] [1078] (fun _ _ => False) S0 S0 := zz_fr.refl
  have b_p0 := zz_rf6 (z := p0) (by omega)
  refine zz_aload_n (x := zz_rf 6 p0) rfl zd_5_5_0 ?_
  have g1 := zz_G.r G_S0 (zz_rf 6 p0) 5 (-2147483648) 2147483647 (zR_k6_5 (by omega)) (zB_k6 (by omega))
  refine zz_geti (z := S0 (zz_rf 6 p0) 5) zd_5_5_1 zf_Line_126 (zT_k6 (by omega)) rfl (zN_k6 hn (by omega)) rfl ?_
  refine zz_iconst zd_5_5_4 ?_
  refine zz_icmp_eq (by omega) (by omega) zd_5_5_5 (fun c2 => ?_) (fun c2 => ?_)
  · refine zz_aload_n (x := zz_rf 6 p0) rfl zd_5_5_18 ?_
    have g3 := zz_G.r G_S0 (zz_rf 6 p0) 6 (-2147483648) 2147483647 (zR_k6_6 (by omega)) (zB_k6 (by omega))
    refine zz_geti (z := S0 (zz_rf 6 p0) 6) zd_5_5_19 zf_Line_128 (zT_k6 (by omega)) rfl (zN_k6 hn (by omega)) rfl ?_
    refine zz_if_eq (by omega) zd_5_5_22 (fun c4 => ?_) (fun c4 => ?_)
    · refine zz_aload_n (x := zz_rf 6 p0) rfl zd_5_5_35 ?_
      have g5 := zz_G.r G_S0 (zz_rf 6 p0) 7 (-2147483648) 2147483647 (zR_k6_7 (by omega)) (zB_k6 (by omega))
      refine zz_geti (z := S0 (zz_rf 6 p0) 7) zd_5_5_36 zf_Line_132 (zT_k6 (by omega)) rfl (zN_k6 hn (by omega)) rfl ?_
      refine zz_if_eq (by omega) zd_5_5_39 (fun c6 => ?_) (fun c6 => ?_)
      · refine zz_aload_n (x := 1077) rfl zd_5_5_52 ?_
        refine zz_aload_n (x := zz_rf 6 p0) rfl zd_5_5_53 ?_
        have g7 := zz_G.r G_S0 (zz_rf 6 p0) 8 0 1 (zR_k6_8 (by omega)) (zB_k6 (by omega))
        refine zz_geti (z := S0 (zz_rf 6 p0) 8) zd_5_5_54 zf_Line_136 (zT_k6 (by omega)) rfl (zN_k6 hn (by omega)) rfl ?_
        refine zz_ldcs (t := 27) (by decide +kernel) (by decide) zd_5_5_57 ?_
        have g8 := zz_G.r G_S0 1077 1 0 128 rfl rfl
        refine zz_callVV [zi (S0 (zz_rf 6 p0) 8), .ref (100 + 27)] zd_5_5_59 zk_Line_59 zT_1077 (zz_ltn hn rfl) rfl rfl ⟨Nat.le_of_ble_eq_true rfl, Nat.le_of_ble_eq_true rfl⟩ ⟨rfl, rfl⟩ (Nat.zero_le _) (Nat.zero_le _) (zc_addIf_5_7 (S0 (zz_rf 6 p0) 8) 27 S0 n hn G_S0 (by omega) (by omega)) (fun S9 hP => ?_)
        obtain ⟨G_S9, fS9, o11⟩ := hP
        have F_S9 := zz_fr.trans F_S0 fS9 rfl zz_nv
        have g12 := zz_G.r G_S9 1077 1 0 128 rfl rfl
        exact zz_vret zd_5_5_62 rfl (Nat.zero_le _) (Nat.zero_le _) ⟨_, rfl, G_S9, F_S9, (fun u m a b c d h hm hq e5 e6 e7 e8 => by subst e5 e6 e7 e8; have k8 := o11 _ _ h (by omega); rw [show zt_tw 27 = zs_wrelu by decide +kernel] at k8; have e9 := zs_opE (l := u) (st := (S0 (zz_rf 6 p0) 5)) (ed := (S0 (zz_rf 6 p0) 6)) (sh := (S0 (zz_rf 6 p0) 7)) (rl := (S0 (zz_rf 6 p0) 8)) (if_pos (by omega)) (if_pos (by omega)) (if_pos (by omega)) rfl; rw [e9]; exact zs_Lm k8 (by show _ + 1 + 4 ≤ _; omega))⟩
      · refine zz_aload_n (x := 1077) rfl zd_5_5_42 ?_
        refine zz_ldcs (t := 26) (by decide +kernel) (by decide) zd_5_5_43 ?_
        refine zz_aload_n (x := zz_rf 6 p0) rfl zd_5_5_45 ?_
        refine zz_geti (z := S0 (zz_rf 6 p0) 7) zd_5_5_46 zf_Line_132 (zT_k6 (by omega)) rfl (zN_k6 hn (by omega)) rfl ?_
        have g13 := zz_G.r G_S0 1077 1 0 128 rfl rfl
        refine zz_callVV [.ref (100 + 26), zi (S0 (zz_rf 6 p0) 7)] zd_5_5_49 zk_Line_83 zT_1077 (zz_ltn hn rfl) rfl rfl ⟨Nat.le_of_ble_eq_true rfl, Nat.le_of_ble_eq_true rfl⟩ ⟨rfl, rfl⟩ (Nat.zero_le _) (Nat.zero_le _) (zc_addNumbered_5_9 26 (S0 (zz_rf 6 p0) 7) S0 n hn G_S0 (by omega) (by omega)) (fun S14 hP => ?_)
        obtain ⟨G_S14, fS14, o16⟩ := hP
        have F_S14 := zz_fr.trans F_S0 fS14 rfl zz_nv
        refine zz_aload_n (x := 1077) rfl zd_5_5_52 ?_
        refine zz_aload_n (x := zz_rf 6 p0) rfl zd_5_5_53 ?_
        have g17 := zz_G.r G_S0 (zz_rf 6 p0) 8 0 1 (zR_k6_8 (by omega)) (zB_k6 (by omega))
        refine zz_geti (z := S0 (zz_rf 6 p0) 8) zd_5_5_54 zf_Line_136 (zT_k6 (by omega)) rfl (zN_k6 hn (by omega)) (zz_rc fS14 (zP_k6 (by omega) rfl) (zQ_k6 (by omega) rfl) (fun h => h) rfl) ?_
        refine zz_ldcs (t := 27) (by decide +kernel) (by decide) zd_5_5_57 ?_
        have g18 := zz_G.r G_S14 1077 1 0 128 rfl rfl
        refine zz_callVV [zi (S0 (zz_rf 6 p0) 8), .ref (100 + 27)] zd_5_5_59 zk_Line_59 zT_1077 (zz_ltn hn rfl) rfl rfl ⟨Nat.le_of_ble_eq_true rfl, Nat.le_of_ble_eq_true rfl⟩ ⟨rfl, rfl⟩ (Nat.zero_le _) (Nat.zero_le _) (zc_addIf_5_7 (S0 (zz_rf 6 p0) 8) 27 S14 n hn G_S14 (by omega) (by omega)) (fun S19 hP => ?_)
        obtain ⟨G_S19, fS19, o21⟩ := hP
        have F_S19 := zz_fr.trans F_S14 fS19 rfl zz_nv
        have g22 := zz_G.r G_S19 1077 1 0 128 rfl rfl
        exact zz_vret zd_5_5_62 rfl (Nat.zero_le _) (Nat.zero_le _) ⟨_, rfl, G_S19, F_S19, (fun u m a b c d h hm hq e5 e6 e7 e8 => by subst e5 e6 e7 e8; have k7 := o16 _ _ h (by omega) (by omega); rw [show zt_tw 26 = zs_wshift by decide +kernel] at k7; have k7 := zs_Lm (k := m + 11) k7 (by show _ + 5 + 6 ≤ _; omega); have k8 := o21 _ _ k7 (by omega); rw [show zt_tw 27 = zs_wrelu by decide +kernel] at k8; have e9 := zs_opE (l := u) (st := (S0 (zz_rf 6 p0) 5)) (ed := (S0 (zz_rf 6 p0) 6)) (sh := (S0 (zz_rf 6 p0) 7)) (rl := (S0 (zz_rf 6 p0) 8)) (if_pos (by omega)) (if_pos (by omega)) (if_neg (by omega)) rfl; rw [e9]; exact zs_Lm k8 (by show _ + 1 + 4 ≤ _; omega))⟩
    · refine zz_aload_n (x := 1077) rfl zd_5_5_25 ?_
      refine zz_ldcs (t := 25) (by decide +kernel) (by decide) zd_5_5_26 ?_
      refine zz_aload_n (x := zz_rf 6 p0) rfl zd_5_5_28 ?_
      refine zz_geti (z := S0 (zz_rf 6 p0) 6) zd_5_5_29 zf_Line_128 (zT_k6 (by omega)) rfl (zN_k6 hn (by omega)) rfl ?_
      have g23 := zz_G.r G_S0 1077 1 0 128 rfl rfl
      refine zz_callVV [.ref (100 + 25), zi (S0 (zz_rf 6 p0) 6)] zd_5_5_32 zk_Line_83 zT_1077 (zz_ltn hn rfl) rfl rfl ⟨Nat.le_of_ble_eq_true rfl, Nat.le_of_ble_eq_true rfl⟩ ⟨rfl, rfl⟩ (Nat.zero_le _) (Nat.zero_le _) (zc_addNumbered_5_9 25 (S0 (zz_rf 6 p0) 6) S0 n hn G_S0 (by omega) (by omega)) (fun S24 hP => ?_)
      obtain ⟨G_S24, fS24, o26⟩ := hP
      have F_S24 := zz_fr.trans F_S0 fS24 rfl zz_nv
      refine zz_aload_n (x := zz_rf 6 p0) rfl zd_5_5_35 ?_
      have g27 := zz_G.r G_S0 (zz_rf 6 p0) 7 (-2147483648) 2147483647 (zR_k6_7 (by omega)) (zB_k6 (by omega))
      refine zz_geti (z := S0 (zz_rf 6 p0) 7) zd_5_5_36 zf_Line_132 (zT_k6 (by omega)) rfl (zN_k6 hn (by omega)) (zz_rc fS24 (zP_k6 (by omega) rfl) (zQ_k6 (by omega) rfl) (fun h => h) rfl) ?_
      refine zz_if_eq (by omega) zd_5_5_39 (fun c28 => ?_) (fun c28 => ?_)
      · refine zz_aload_n (x := 1077) rfl zd_5_5_52 ?_
        refine zz_aload_n (x := zz_rf 6 p0) rfl zd_5_5_53 ?_
        have g29 := zz_G.r G_S0 (zz_rf 6 p0) 8 0 1 (zR_k6_8 (by omega)) (zB_k6 (by omega))
        refine zz_geti (z := S0 (zz_rf 6 p0) 8) zd_5_5_54 zf_Line_136 (zT_k6 (by omega)) rfl (zN_k6 hn (by omega)) (zz_rc fS24 (zP_k6 (by omega) rfl) (zQ_k6 (by omega) rfl) (fun h => h) rfl) ?_
        refine zz_ldcs (t := 27) (by decide +kernel) (by decide) zd_5_5_57 ?_
        have g30 := zz_G.r G_S24 1077 1 0 128 rfl rfl
        refine zz_callVV [zi (S0 (zz_rf 6 p0) 8), .ref (100 + 27)] zd_5_5_59 zk_Line_59 zT_1077 (zz_ltn hn rfl) rfl rfl ⟨Nat.le_of_ble_eq_true rfl, Nat.le_of_ble_eq_true rfl⟩ ⟨rfl, rfl⟩ (Nat.zero_le _) (Nat.zero_le _) (zc_addIf_5_7 (S0 (zz_rf 6 p0) 8) 27 S24 n hn G_S24 (by omega) (by omega)) (fun S31 hP => ?_)
        obtain ⟨G_S31, fS31, o33⟩ := hP
        have F_S31 := zz_fr.trans F_S24 fS31 rfl zz_nv
        have g34 := zz_G.r G_S31 1077 1 0 128 rfl rfl
        exact zz_vret zd_5_5_62 rfl (Nat.zero_le _) (Nat.zero_le _) ⟨_, rfl, G_S31, F_S31, (fun u m a b c d h hm hq e5 e6 e7 e8 => by subst e5 e6 e7 e8; have k6 := o26 _ _ h (by omega) (by omega); rw [show zt_tw 25 = zs_wedge by decide +kernel] at k6; have k6 := zs_Lm (k := m + 11) k6 (by show _ + 4 + 6 ≤ _; omega); have k8 := o33 _ _ k6 (by omega); rw [show zt_tw 27 = zs_wrelu by decide +kernel] at k8; have e9 := zs_opE (l := u) (st := (S0 (zz_rf 6 p0) 5)) (ed := (S0 (zz_rf 6 p0) 6)) (sh := (S0 (zz_rf 6 p0) 7)) (rl := (S0 (zz_rf 6 p0) 8)) (if_pos (by omega)) (if_neg (by omega)) (if_pos (by omega)) rfl; rw [e9]; exact zs_Lm k8 (by show _ + 1 + 4 ≤ _; omega))⟩
      · refine zz_aload_n (x := 1077) rfl zd_5_5_42 ?_
        refine zz_ldcs (t := 26) (by decide +kernel) (by decide) zd_5_5_43 ?_
        refine zz_aload_n (x := zz_rf 6 p0) rfl zd_5_5_45 ?_
        refine zz_geti (z := S0 (zz_rf 6 p0) 7) zd_5_5_46 zf_Line_132 (zT_k6 (by omega)) rfl (zN_k6 hn (by omega)) (zz_rc fS24 (zP_k6 (by omega) rfl) (zQ_k6 (by omega) rfl) (fun h => h) rfl) ?_
        have g35 := zz_G.r G_S24 1077 1 0 128 rfl rfl
        refine zz_callVV [.ref (100 + 26), zi (S0 (zz_rf 6 p0) 7)] zd_5_5_49 zk_Line_83 zT_1077 (zz_ltn hn rfl) rfl rfl ⟨Nat.le_of_ble_eq_true rfl, Nat.le_of_ble_eq_true rfl⟩ ⟨rfl, rfl⟩ (Nat.zero_le _) (Nat.zero_le _) (zc_addNumbered_5_9 26 (S0 (zz_rf 6 p0) 7) S24 n hn G_S24 (by omega) (by omega)) (fun S36 hP => ?_)
        obtain ⟨G_S36, fS36, o38⟩ := hP
        have F_S36 := zz_fr.trans F_S24 fS36 rfl zz_nv
        refine zz_aload_n (x := 1077) rfl zd_5_5_52 ?_
        refine zz_aload_n (x := zz_rf 6 p0) rfl zd_5_5_53 ?_
        have g39 := zz_G.r G_S0 (zz_rf 6 p0) 8 0 1 (zR_k6_8 (by omega)) (zB_k6 (by omega))
        refine zz_geti (z := S0 (zz_rf 6 p0) 8) zd_5_5_54 zf_Line_136 (zT_k6 (by omega)) rfl (zN_k6 hn (by omega)) (zz_rc fS36 (zP_k6 (by omega) rfl) (zQ_k6 (by omega) rfl) (fun h => h) (zz_rc fS24 (zP_k6 (by omega) rfl) (zQ_k6 (by omega) rfl) (fun h => h) rfl)) ?_
        refine zz_ldcs (t := 27) (by decide +kernel) (by decide) zd_5_5_57 ?_
        have g40 := zz_G.r G_S36 1077 1 0 128 rfl rfl
        refine zz_callVV [zi (S0 (zz_rf 6 p0) 8), .ref (100 + 27)] zd_5_5_59 zk_Line_59 zT_1077 (zz_ltn hn rfl) rfl rfl ⟨Nat.le_of_ble_eq_true rfl, Nat.le_of_ble_eq_true rfl⟩ ⟨rfl, rfl⟩ (Nat.zero_le _) (Nat.zero_le _) (zc_addIf_5_7 (S0 (zz_rf 6 p0) 8) 27 S36 n hn G_S36 (by omega) (by omega)) (fun S41 hP => ?_)
        obtain ⟨G_S41, fS41, o43⟩ := hP
        have F_S41 := zz_fr.trans F_S36 fS41 rfl zz_nv
        have g44 := zz_G.r G_S41 1077 1 0 128 rfl rfl
        exact zz_vret zd_5_5_62 rfl (Nat.zero_le _) (Nat.zero_le _) ⟨_, rfl, G_S41, F_S41, (fun u m a b c d h hm hq e5 e6 e7 e8 => by subst e5 e6 e7 e8; have k6 := o26 _ _ h (by omega) (by omega); rw [show zt_tw 25 = zs_wedge by decide +kernel] at k6; have k6 := zs_Lm (k := m + 11) k6 (by show _ + 4 + 6 ≤ _; omega); have k7 := o38 _ _ k6 (by omega) (by omega); rw [show zt_tw 26 = zs_wshift by decide +kernel] at k7; have k7 := zs_Lm (k := m + 11 + 11) k7 (by show _ + 5 + 6 ≤ _; omega); have k8 := o43 _ _ k7 (by omega); rw [show zt_tw 27 = zs_wrelu by decide +kernel] at k8; have e9 := zs_opE (l := u) (st := (S0 (zz_rf 6 p0) 5)) (ed := (S0 (zz_rf 6 p0) 6)) (sh := (S0 (zz_rf 6 p0) 7)) (rl := (S0 (zz_rf 6 p0) 8)) (if_pos (by omega)) (if_neg (by omega)) (if_neg (by omega)) rfl; rw [e9]; exact zs_Lm k8 (by show _ + 1 + 4 ≤ _; omega))⟩
  · refine zz_aload_n (x := 1077) rfl zd_5_5_8 ?_
    refine zz_ldcs (t := 15) (by decide +kernel) (by decide) zd_5_5_9 ?_
    refine zz_aload_n (x := zz_rf 6 p0) rfl zd_5_5_11 ?_
    refine zz_geti (z := S0 (zz_rf 6 p0) 5) zd_5_5_12 zf_Line_126 (zT_k6 (by omega)) rfl (zN_k6 hn (by omega)) rfl ?_
    have g45 := zz_G.r G_S0 1077 1 0 128 rfl rfl
    refine zz_callVV [.ref (100 + 15), zi (S0 (zz_rf 6 p0) 5)] zd_5_5_15 zk_Line_83 zT_1077 (zz_ltn hn rfl) rfl rfl ⟨Nat.le_of_ble_eq_true rfl, Nat.le_of_ble_eq_true rfl⟩ ⟨rfl, rfl⟩ (Nat.zero_le _) (Nat.zero_le _) (zc_addNumbered_5_9 15 (S0 (zz_rf 6 p0) 5) S0 n hn G_S0 (by omega) (by omega)) (fun S46 hP => ?_)
    obtain ⟨G_S46, fS46, o48⟩ := hP
    have F_S46 := zz_fr.trans F_S0 fS46 rfl zz_nv
    refine zz_aload_n (x := zz_rf 6 p0) rfl zd_5_5_18 ?_
    have g49 := zz_G.r G_S0 (zz_rf 6 p0) 6 (-2147483648) 2147483647 (zR_k6_6 (by omega)) (zB_k6 (by omega))
    refine zz_geti (z := S0 (zz_rf 6 p0) 6) zd_5_5_19 zf_Line_128 (zT_k6 (by omega)) rfl (zN_k6 hn (by omega)) (zz_rc fS46 (zP_k6 (by omega) rfl) (zQ_k6 (by omega) rfl) (fun h => h) rfl) ?_
    refine zz_if_eq (by omega) zd_5_5_22 (fun c50 => ?_) (fun c50 => ?_)
    · refine zz_aload_n (x := zz_rf 6 p0) rfl zd_5_5_35 ?_
      have g51 := zz_G.r G_S0 (zz_rf 6 p0) 7 (-2147483648) 2147483647 (zR_k6_7 (by omega)) (zB_k6 (by omega))
      refine zz_geti (z := S0 (zz_rf 6 p0) 7) zd_5_5_36 zf_Line_132 (zT_k6 (by omega)) rfl (zN_k6 hn (by omega)) (zz_rc fS46 (zP_k6 (by omega) rfl) (zQ_k6 (by omega) rfl) (fun h => h) rfl) ?_
      refine zz_if_eq (by omega) zd_5_5_39 (fun c52 => ?_) (fun c52 => ?_)
      · refine zz_aload_n (x := 1077) rfl zd_5_5_52 ?_
        refine zz_aload_n (x := zz_rf 6 p0) rfl zd_5_5_53 ?_
        have g53 := zz_G.r G_S0 (zz_rf 6 p0) 8 0 1 (zR_k6_8 (by omega)) (zB_k6 (by omega))
        refine zz_geti (z := S0 (zz_rf 6 p0) 8) zd_5_5_54 zf_Line_136 (zT_k6 (by omega)) rfl (zN_k6 hn (by omega)) (zz_rc fS46 (zP_k6 (by omega) rfl) (zQ_k6 (by omega) rfl) (fun h => h) rfl) ?_
        refine zz_ldcs (t := 27) (by decide +kernel) (by decide) zd_5_5_57 ?_
        have g54 := zz_G.r G_S46 1077 1 0 128 rfl rfl
        refine zz_callVV [zi (S0 (zz_rf 6 p0) 8), .ref (100 + 27)] zd_5_5_59 zk_Line_59 zT_1077 (zz_ltn hn rfl) rfl rfl ⟨Nat.le_of_ble_eq_true rfl, Nat.le_of_ble_eq_true rfl⟩ ⟨rfl, rfl⟩ (Nat.zero_le _) (Nat.zero_le _) (zc_addIf_5_7 (S0 (zz_rf 6 p0) 8) 27 S46 n hn G_S46 (by omega) (by omega)) (fun S55 hP => ?_)
        obtain ⟨G_S55, fS55, o57⟩ := hP
        have F_S55 := zz_fr.trans F_S46 fS55 rfl zz_nv
        have g58 := zz_G.r G_S55 1077 1 0 128 rfl rfl
        exact zz_vret zd_5_5_62 rfl (Nat.zero_le _) (Nat.zero_le _) ⟨_, rfl, G_S55, F_S55, (fun u m a b c d h hm hq e5 e6 e7 e8 => by subst e5 e6 e7 e8; have k5 := o48 _ _ h (by omega) (by omega); rw [show zt_tw 15 = zs_wstep by decide +kernel] at k5; have k5 := zs_Lm (k := m + 11) k5 (by show _ + 4 + 6 ≤ _; omega); have k8 := o57 _ _ k5 (by omega); rw [show zt_tw 27 = zs_wrelu by decide +kernel] at k8; have e9 := zs_opE (l := u) (st := (S0 (zz_rf 6 p0) 5)) (ed := (S0 (zz_rf 6 p0) 6)) (sh := (S0 (zz_rf 6 p0) 7)) (rl := (S0 (zz_rf 6 p0) 8)) (if_neg (by omega)) (if_pos (by omega)) (if_pos (by omega)) rfl; rw [e9]; exact zs_Lm k8 (by show _ + 1 + 4 ≤ _; omega))⟩
      · refine zz_aload_n (x := 1077) rfl zd_5_5_42 ?_
        refine zz_ldcs (t := 26) (by decide +kernel) (by decide) zd_5_5_43 ?_
        refine zz_aload_n (x := zz_rf 6 p0) rfl zd_5_5_45 ?_
        refine zz_geti (z := S0 (zz_rf 6 p0) 7) zd_5_5_46 zf_Line_132 (zT_k6 (by omega)) rfl (zN_k6 hn (by omega)) (zz_rc fS46 (zP_k6 (by omega) rfl) (zQ_k6 (by omega) rfl) (fun h => h) rfl) ?_
        have g59 := zz_G.r G_S46 1077 1 0 128 rfl rfl
        refine zz_callVV [.ref (100 + 26), zi (S0 (zz_rf 6 p0) 7)] zd_5_5_49 zk_Line_83 zT_1077 (zz_ltn hn rfl) rfl rfl ⟨Nat.le_of_ble_eq_true rfl, Nat.le_of_ble_eq_true rfl⟩ ⟨rfl, rfl⟩ (Nat.zero_le _) (Nat.zero_le _) (zc_addNumbered_5_9 26 (S0 (zz_rf 6 p0) 7) S46 n hn G_S46 (by omega) (by omega)) (fun S60 hP => ?_)
        obtain ⟨G_S60, fS60, o62⟩ := hP
        have F_S60 := zz_fr.trans F_S46 fS60 rfl zz_nv
        refine zz_aload_n (x := 1077) rfl zd_5_5_52 ?_
        refine zz_aload_n (x := zz_rf 6 p0) rfl zd_5_5_53 ?_
        have g63 := zz_G.r G_S0 (zz_rf 6 p0) 8 0 1 (zR_k6_8 (by omega)) (zB_k6 (by omega))
        refine zz_geti (z := S0 (zz_rf 6 p0) 8) zd_5_5_54 zf_Line_136 (zT_k6 (by omega)) rfl (zN_k6 hn (by omega)) (zz_rc fS60 (zP_k6 (by omega) rfl) (zQ_k6 (by omega) rfl) (fun h => h) (zz_rc fS46 (zP_k6 (by omega) rfl) (zQ_k6 (by omega) rfl) (fun h => h) rfl)) ?_
        refine zz_ldcs (t := 27) (by decide +kernel) (by decide) zd_5_5_57 ?_
        have g64 := zz_G.r G_S60 1077 1 0 128 rfl rfl
        refine zz_callVV [zi (S0 (zz_rf 6 p0) 8), .ref (100 + 27)] zd_5_5_59 zk_Line_59 zT_1077 (zz_ltn hn rfl) rfl rfl ⟨Nat.le_of_ble_eq_true rfl, Nat.le_of_ble_eq_true rfl⟩ ⟨rfl, rfl⟩ (Nat.zero_le _) (Nat.zero_le _) (zc_addIf_5_7 (S0 (zz_rf 6 p0) 8) 27 S60 n hn G_S60 (by omega) (by omega)) (fun S65 hP => ?_)
        obtain ⟨G_S65, fS65, o67⟩ := hP
        have F_S65 := zz_fr.trans F_S60 fS65 rfl zz_nv
        have g68 := zz_G.r G_S65 1077 1 0 128 rfl rfl
        exact zz_vret zd_5_5_62 rfl (Nat.zero_le _) (Nat.zero_le _) ⟨_, rfl, G_S65, F_S65, (fun u m a b c d h hm hq e5 e6 e7 e8 => by subst e5 e6 e7 e8; have k5 := o48 _ _ h (by omega) (by omega); rw [show zt_tw 15 = zs_wstep by decide +kernel] at k5; have k5 := zs_Lm (k := m + 11) k5 (by show _ + 4 + 6 ≤ _; omega); have k7 := o62 _ _ k5 (by omega) (by omega); rw [show zt_tw 26 = zs_wshift by decide +kernel] at k7; have k7 := zs_Lm (k := m + 11 + 11) k7 (by show _ + 5 + 6 ≤ _; omega); have k8 := o67 _ _ k7 (by omega); rw [show zt_tw 27 = zs_wrelu by decide +kernel] at k8; have e9 := zs_opE (l := u) (st := (S0 (zz_rf 6 p0) 5)) (ed := (S0 (zz_rf 6 p0) 6)) (sh := (S0 (zz_rf 6 p0) 7)) (rl := (S0 (zz_rf 6 p0) 8)) (if_neg (by omega)) (if_pos (by omega)) (if_neg (by omega)) rfl; rw [e9]; exact zs_Lm k8 (by show _ + 1 + 4 ≤ _; omega))⟩
    · refine zz_aload_n (x := 1077) rfl zd_5_5_25 ?_
      refine zz_ldcs (t := 25) (by decide +kernel) (by decide) zd_5_5_26 ?_
      refine zz_aload_n (x := zz_rf 6 p0) rfl zd_5_5_28 ?_
      refine zz_geti (z := S0 (zz_rf 6 p0) 6) zd_5_5_29 zf_Line_128 (zT_k6 (by omega)) rfl (zN_k6 hn (by omega)) (zz_rc fS46 (zP_k6 (by omega) rfl) (zQ_k6 (by omega) rfl) (fun h => h) rfl) ?_
      have g69 := zz_G.r G_S46 1077 1 0 128 rfl rfl
      refine zz_callVV [.ref (100 + 25), zi (S0 (zz_rf 6 p0) 6)] zd_5_5_32 zk_Line_83 zT_1077 (zz_ltn hn rfl) rfl rfl ⟨Nat.le_of_ble_eq_true rfl, Nat.le_of_ble_eq_true rfl⟩ ⟨rfl, rfl⟩ (Nat.zero_le _) (Nat.zero_le _) (zc_addNumbered_5_9 25 (S0 (zz_rf 6 p0) 6) S46 n hn G_S46 (by omega) (by omega)) (fun S70 hP => ?_)
      obtain ⟨G_S70, fS70, o72⟩ := hP
      have F_S70 := zz_fr.trans F_S46 fS70 rfl zz_nv
      refine zz_aload_n (x := zz_rf 6 p0) rfl zd_5_5_35 ?_
      have g73 := zz_G.r G_S0 (zz_rf 6 p0) 7 (-2147483648) 2147483647 (zR_k6_7 (by omega)) (zB_k6 (by omega))
      refine zz_geti (z := S0 (zz_rf 6 p0) 7) zd_5_5_36 zf_Line_132 (zT_k6 (by omega)) rfl (zN_k6 hn (by omega)) (zz_rc fS70 (zP_k6 (by omega) rfl) (zQ_k6 (by omega) rfl) (fun h => h) (zz_rc fS46 (zP_k6 (by omega) rfl) (zQ_k6 (by omega) rfl) (fun h => h) rfl)) ?_
      refine zz_if_eq (by omega) zd_5_5_39 (fun c74 => ?_) (fun c74 => ?_)
      · refine zz_aload_n (x := 1077) rfl zd_5_5_52 ?_
        refine zz_aload_n (x := zz_rf 6 p0) rfl zd_5_5_53 ?_
        have g75 := zz_G.r G_S0 (zz_rf 6 p0) 8 0 1 (zR_k6_8 (by omega)) (zB_k6 (by omega))
        refine zz_geti (z := S0 (zz_rf 6 p0) 8) zd_5_5_54 zf_Line_136 (zT_k6 (by omega)) rfl (zN_k6 hn (by omega)) (zz_rc fS70 (zP_k6 (by omega) rfl) (zQ_k6 (by omega) rfl) (fun h => h) (zz_rc fS46 (zP_k6 (by omega) rfl) (zQ_k6 (by omega) rfl) (fun h => h) rfl)) ?_
        refine zz_ldcs (t := 27) (by decide +kernel) (by decide) zd_5_5_57 ?_
        have g76 := zz_G.r G_S70 1077 1 0 128 rfl rfl
        refine zz_callVV [zi (S0 (zz_rf 6 p0) 8), .ref (100 + 27)] zd_5_5_59 zk_Line_59 zT_1077 (zz_ltn hn rfl) rfl rfl ⟨Nat.le_of_ble_eq_true rfl, Nat.le_of_ble_eq_true rfl⟩ ⟨rfl, rfl⟩ (Nat.zero_le _) (Nat.zero_le _) (zc_addIf_5_7 (S0 (zz_rf 6 p0) 8) 27 S70 n hn G_S70 (by omega) (by omega)) (fun S77 hP => ?_)
        obtain ⟨G_S77, fS77, o79⟩ := hP
        have F_S77 := zz_fr.trans F_S70 fS77 rfl zz_nv
        have g80 := zz_G.r G_S77 1077 1 0 128 rfl rfl
        exact zz_vret zd_5_5_62 rfl (Nat.zero_le _) (Nat.zero_le _) ⟨_, rfl, G_S77, F_S77, (fun u m a b c d h hm hq e5 e6 e7 e8 => by subst e5 e6 e7 e8; have k5 := o48 _ _ h (by omega) (by omega); rw [show zt_tw 15 = zs_wstep by decide +kernel] at k5; have k5 := zs_Lm (k := m + 11) k5 (by show _ + 4 + 6 ≤ _; omega); have k6 := o72 _ _ k5 (by omega) (by omega); rw [show zt_tw 25 = zs_wedge by decide +kernel] at k6; have k6 := zs_Lm (k := m + 11 + 11) k6 (by show _ + 4 + 6 ≤ _; omega); have k8 := o79 _ _ k6 (by omega); rw [show zt_tw 27 = zs_wrelu by decide +kernel] at k8; have e9 := zs_opE (l := u) (st := (S0 (zz_rf 6 p0) 5)) (ed := (S0 (zz_rf 6 p0) 6)) (sh := (S0 (zz_rf 6 p0) 7)) (rl := (S0 (zz_rf 6 p0) 8)) (if_neg (by omega)) (if_neg (by omega)) (if_pos (by omega)) rfl; rw [e9]; exact zs_Lm k8 (by show _ + 1 + 4 ≤ _; omega))⟩
      · refine zz_aload_n (x := 1077) rfl zd_5_5_42 ?_
        refine zz_ldcs (t := 26) (by decide +kernel) (by decide) zd_5_5_43 ?_
        refine zz_aload_n (x := zz_rf 6 p0) rfl zd_5_5_45 ?_
        refine zz_geti (z := S0 (zz_rf 6 p0) 7) zd_5_5_46 zf_Line_132 (zT_k6 (by omega)) rfl (zN_k6 hn (by omega)) (zz_rc fS70 (zP_k6 (by omega) rfl) (zQ_k6 (by omega) rfl) (fun h => h) (zz_rc fS46 (zP_k6 (by omega) rfl) (zQ_k6 (by omega) rfl) (fun h => h) rfl)) ?_
        have g81 := zz_G.r G_S70 1077 1 0 128 rfl rfl
        refine zz_callVV [.ref (100 + 26), zi (S0 (zz_rf 6 p0) 7)] zd_5_5_49 zk_Line_83 zT_1077 (zz_ltn hn rfl) rfl rfl ⟨Nat.le_of_ble_eq_true rfl, Nat.le_of_ble_eq_true rfl⟩ ⟨rfl, rfl⟩ (Nat.zero_le _) (Nat.zero_le _) (zc_addNumbered_5_9 26 (S0 (zz_rf 6 p0) 7) S70 n hn G_S70 (by omega) (by omega)) (fun S82 hP => ?_)
        obtain ⟨G_S82, fS82, o84⟩ := hP
        have F_S82 := zz_fr.trans F_S70 fS82 rfl zz_nv
        refine zz_aload_n (x := 1077) rfl zd_5_5_52 ?_
        refine zz_aload_n (x := zz_rf 6 p0) rfl zd_5_5_53 ?_
        have g85 := zz_G.r G_S0 (zz_rf 6 p0) 8 0 1 (zR_k6_8 (by omega)) (zB_k6 (by omega))
        refine zz_geti (z := S0 (zz_rf 6 p0) 8) zd_5_5_54 zf_Line_136 (zT_k6 (by omega)) rfl (zN_k6 hn (by omega)) (zz_rc fS82 (zP_k6 (by omega) rfl) (zQ_k6 (by omega) rfl) (fun h => h) (zz_rc fS70 (zP_k6 (by omega) rfl) (zQ_k6 (by omega) rfl) (fun h => h) (zz_rc fS46 (zP_k6 (by omega) rfl) (zQ_k6 (by omega) rfl) (fun h => h) rfl))) ?_
        refine zz_ldcs (t := 27) (by decide +kernel) (by decide) zd_5_5_57 ?_
        have g86 := zz_G.r G_S82 1077 1 0 128 rfl rfl
        refine zz_callVV [zi (S0 (zz_rf 6 p0) 8), .ref (100 + 27)] zd_5_5_59 zk_Line_59 zT_1077 (zz_ltn hn rfl) rfl rfl ⟨Nat.le_of_ble_eq_true rfl, Nat.le_of_ble_eq_true rfl⟩ ⟨rfl, rfl⟩ (Nat.zero_le _) (Nat.zero_le _) (zc_addIf_5_7 (S0 (zz_rf 6 p0) 8) 27 S82 n hn G_S82 (by omega) (by omega)) (fun S87 hP => ?_)
        obtain ⟨G_S87, fS87, o89⟩ := hP
        have F_S87 := zz_fr.trans F_S82 fS87 rfl zz_nv
        have g90 := zz_G.r G_S87 1077 1 0 128 rfl rfl
        exact zz_vret zd_5_5_62 rfl (Nat.zero_le _) (Nat.zero_le _) ⟨_, rfl, G_S87, F_S87, (fun u m a b c d h hm hq e5 e6 e7 e8 => by subst e5 e6 e7 e8; have k5 := o48 _ _ h (by omega) (by omega); rw [show zt_tw 15 = zs_wstep by decide +kernel] at k5; have k5 := zs_Lm (k := m + 11) k5 (by show _ + 4 + 6 ≤ _; omega); have k6 := o72 _ _ k5 (by omega) (by omega); rw [show zt_tw 25 = zs_wedge by decide +kernel] at k6; have k6 := zs_Lm (k := m + 11 + 11) k6 (by show _ + 4 + 6 ≤ _; omega); have k7 := o84 _ _ k6 (by omega) (by omega); rw [show zt_tw 26 = zs_wshift by decide +kernel] at k7; have k7 := zs_Lm (k := m + 11 + 11 + 11) k7 (by show _ + 5 + 6 ≤ _; omega); have k8 := o89 _ _ k7 (by omega); rw [show zt_tw 27 = zs_wrelu by decide +kernel] at k8; have e9 := zs_opE (l := u) (st := (S0 (zz_rf 6 p0) 5)) (ed := (S0 (zz_rf 6 p0) 6)) (sh := (S0 (zz_rf 6 p0) 7)) (rl := (S0 (zz_rf 6 p0) 8)) (if_neg (by omega)) (if_neg (by omega)) (if_neg (by omega)) rfl; rw [e9]; exact zs_Lm k8 (by show _ + 1 + 4 ≤ _; omega))⟩
theorem zk_Line_122 : mm_Vl "TensorForge$Line" 122 10 1 zy_addOptions_5_5 := ⟨zyw_addOptions_5_5, (R_Line, F_Line, 2), rfl, mm_tb_1 1498 (by decide +kernel) rfl, mm_tb_1 1500 (by decide +kernel) rfl, mm_tb_s 76 (by decide +kernel) rfl⟩
theorem zf_Line_105 : mm_Fl "TensorForge$Line" 105 2 2 .int false := ⟨R_Layer, F_Layer, 15, t_Layer, rfl, i_Layer, by decide, mm_tb_1 66 (by decide +kernel) rfl, rfl, t_Layer_ok, n_Layer, rfl, by decide +kernel⟩
theorem zf_Line_114 : mm_Fl "TensorForge$Line" 114 2 10 .int false := ⟨R_Layer, F_Layer, 15, t_Layer, rfl, i_Layer, by decide, mm_tb_1 96 (by decide +kernel) rfl, rfl, t_Layer_ok, n_Layer, rfl, by decide +kernel⟩
theorem zf_Line_117 : mm_Fl "TensorForge$Line" 117 2 11 .int false := ⟨R_Layer, F_Layer, 15, t_Layer, rfl, i_Layer, by decide, mm_tb_1 100 (by decide +kernel) rfl, rfl, t_Layer_ok, n_Layer, rfl, by decide +kernel⟩
theorem zg_5_4_160 : zq_at zy_writeLayer_5_4.2.1 160 42 ∧ zq_at zy_writeLayer_5_4.2.1 161 16 ∧ zq_at zy_writeLayer_5_4.2.1 162 10 ∧ zq_at zy_writeLayer_5_4.2.1 163 182 ∧ zq_at zy_writeLayer_5_4.2.1 164 0 ∧ zq_at zy_writeLayer_5_4.2.1 165 69 ∧ zq_at zy_writeLayer_5_4.2.1 166 177 ∧ zq_at zy_writeLayer_5_4.2.1 83 42 ∧ zq_at zy_writeLayer_5_4.2.1 84 18 ∧ zq_at zy_writeLayer_5_4.2.1 85 101 ∧ zq_at zy_writeLayer_5_4.2.1 86 43 ∧ zq_at zy_writeLayer_5_4.2.1 87 180 ∧ zq_at zy_writeLayer_5_4.2.1 88 0 ∧ zq_at zy_writeLayer_5_4.2.1 89 80 ∧ zq_at zy_writeLayer_5_4.2.1 90 182 ∧ zq_at zy_writeLayer_5_4.2.1 91 0 ∧ zq_at zy_writeLayer_5_4.2.1 92 83 ∧ zq_at zy_writeLayer_5_4.2.1 93 42 ∧ zq_at zy_writeLayer_5_4.2.1 94 18 ∧ zq_at zy_writeLayer_5_4.2.1 95 43 ∧ zq_at zy_writeLayer_5_4.2.1 96 43 ∧ zq_at zy_writeLayer_5_4.2.1 97 180 ∧ zq_at zy_writeLayer_5_4.2.1 98 0 ∧ zq_at zy_writeLayer_5_4.2.1 99 87 := by decide +kernel
theorem zd_5_4_160 : zz_D zy_writeLayer_5_4 160 (.aload_n 0) 1 161 := ⟨zq_42 zg_5_4_160.1, rfl⟩
theorem zd_5_4_161 : zz_D zy_writeLayer_5_4 161 (.bipush 10) 2 163 := ⟨zq_16 zg_5_4_160.2.1 zg_5_4_160.2.2.1 (by decide), rfl⟩
theorem zd_5_4_163 : zz_D zy_writeLayer_5_4 163 (.invokevirtual 69) 3 166 := ⟨zq_182 zg_5_4_160.2.2.2.1 zg_5_4_160.2.2.2.2.1 zg_5_4_160.2.2.2.2.2.1 rfl, rfl⟩
theorem zd_5_4_166 : zz_D zy_writeLayer_5_4 166 (.return_) 1 167 := ⟨zq_177 zg_5_4_160.2.2.2.2.2.2.1, rfl⟩
theorem zd_5_4_83 : zz_D zy_writeLayer_5_4 83 (.aload_n 0) 1 84 := ⟨zq_42 zg_5_4_160.2.2.2.2.2.2.2.1, rfl⟩
theorem zd_5_4_84 : zz_D zy_writeLayer_5_4 84 (.ldc 101) 2 86 := ⟨zq_18 zg_5_4_160.2.2.2.2.2.2.2.2.1 zg_5_4_160.2.2.2.2.2.2.2.2.2.1, rfl⟩
theorem zd_5_4_86 : zz_D zy_writeLayer_5_4 86 (.aload_n 1) 1 87 := ⟨zq_43 zg_5_4_160.2.2.2.2.2.2.2.2.2.2.1, rfl⟩
theorem zd_5_4_87 : zz_D zy_writeLayer_5_4 87 (.getfield 80) 3 90 := ⟨zq_180 zg_5_4_160.2.2.2.2.2.2.2.2.2.2.2.1 zg_5_4_160.2.2.2.2.2.2.2.2.2.2.2.2.1 zg_5_4_160.2.2.2.2.2.2.2.2.2.2.2.2.2.1 rfl, rfl⟩
theorem zd_5_4_90 : zz_D zy_writeLayer_5_4 90 (.invokevirtual 83) 3 93 := ⟨zq_182 zg_5_4_160.2.2.2.2.2.2.2.2.2.2.2.2.2.2.1 zg_5_4_160.2.2.2.2.2.2.2.2.2.2.2.2.2.2.2.1 zg_5_4_160.2.2.2.2.2.2.2.2.2.2.2.2.2.2.2.2.1 rfl, rfl⟩
theorem zd_5_4_93 : zz_D zy_writeLayer_5_4 93 (.aload_n 0) 1 94 := ⟨zq_42 zg_5_4_160.2.2.2.2.2.2.2.2.2.2.2.2.2.2.2.2.2.1, rfl⟩
theorem zd_5_4_94 : zz_D zy_writeLayer_5_4 94 (.ldc 43) 2 96 := ⟨zq_18 zg_5_4_160.2.2.2.2.2.2.2.2.2.2.2.2.2.2.2.2.2.2.1 zg_5_4_160.2.2.2.2.2.2.2.2.2.2.2.2.2.2.2.2.2.2.2.1, rfl⟩
theorem zd_5_4_96 : zz_D zy_writeLayer_5_4 96 (.aload_n 1) 1 97 := ⟨zq_43 zg_5_4_160.2.2.2.2.2.2.2.2.2.2.2.2.2.2.2.2.2.2.2.2.1, rfl⟩
theorem zd_5_4_97 : zz_D zy_writeLayer_5_4 97 (.getfield 87) 3 100 := ⟨zq_180 zg_5_4_160.2.2.2.2.2.2.2.2.2.2.2.2.2.2.2.2.2.2.2.2.2.1 zg_5_4_160.2.2.2.2.2.2.2.2.2.2.2.2.2.2.2.2.2.2.2.2.2.2.1 zg_5_4_160.2.2.2.2.2.2.2.2.2.2.2.2.2.2.2.2.2.2.2.2.2.2.2 rfl, rfl⟩
theorem zg_5_4_100 : zq_at zy_writeLayer_5_4.2.1 100 43 ∧ zq_at zy_writeLayer_5_4.2.1 101 180 ∧ zq_at zy_writeLayer_5_4.2.1 102 0 ∧ zq_at zy_writeLayer_5_4.2.1 103 90 ∧ zq_at zy_writeLayer_5_4.2.1 104 182 ∧ zq_at zy_writeLayer_5_4.2.1 105 0 ∧ zq_at zy_writeLayer_5_4.2.1 106 45 ∧ zq_at zy_writeLayer_5_4.2.1 107 167 ∧ zq_at zy_writeLayer_5_4.2.1 108 0 ∧ zq_at zy_writeLayer_5_4.2.1 109 48 ∧ zq_at zy_writeLayer_5_4.2.1 110 42 ∧ zq_at zy_writeLayer_5_4.2.1 111 18 ∧ zq_at zy_writeLayer_5_4.2.1 112 103 ∧ zq_at zy_writeLayer_5_4.2.1 113 43 ∧ zq_at zy_writeLayer_5_4.2.1 114 180 ∧ zq_at zy_writeLayer_5_4.2.1 115 0 ∧ zq_at zy_writeLayer_5_4.2.1 116 80 ∧ zq_at zy_writeLayer_5_4.2.1 117 182 ∧ zq_at zy_writeLayer_5_4.2.1 118 0 ∧ zq_at zy_writeLayer_5_4.2.1 119 83 ∧ zq_at zy_writeLayer_5_4.2.1 120 42 ∧ zq_at zy_writeLayer_5_4.2.1 121 43 := by decide +kernel
theorem zd_5_4_100 : zz_D zy_writeLayer_5_4 100 (.aload_n 1) 1 101 := ⟨zq_43 zg_5_4_100.1, rfl⟩
theorem zd_5_4_101 : zz_D zy_writeLayer_5_4 101 (.getfield 90) 3 104 := ⟨zq_180 zg_5_4_100.2.1 zg_5_4_100.2.2.1 zg_5_4_100.2.2.2.1 rfl, rfl⟩
theorem zd_5_4_104 : zz_D zy_writeLayer_5_4 104 (.invokevirtual 45) 3 107 := ⟨zq_182 zg_5_4_100.2.2.2.2.1 zg_5_4_100.2.2.2.2.2.1 zg_5_4_100.2.2.2.2.2.2.1 rfl, rfl⟩
theorem zd_5_4_107 : zz_B zy_writeLayer_5_4 107 Instr.goto 155 110 := ⟨48, zq_167 zg_5_4_100.2.2.2.2.2.2.2.1 zg_5_4_100.2.2.2.2.2.2.2.2.1 zg_5_4_100.2.2.2.2.2.2.2.2.2.1 (by decide), rfl, rfl⟩
theorem zd_5_4_110 : zz_D zy_writeLayer_5_4 110 (.aload_n 0) 1 111 := ⟨zq_42 zg_5_4_100.2.2.2.2.2.2.2.2.2.2.1, rfl⟩
theorem zd_5_4_111 : zz_D zy_writeLayer_5_4 111 (.ldc 103) 2 113 := ⟨zq_18 zg_5_4_100.2.2.2.2.2.2.2.2.2.2.2.1 zg_5_4_100.2.2.2.2.2.2.2.2.2.2.2.2.1, rfl⟩
theorem zd_5_4_113 : zz_D zy_writeLayer_5_4 113 (.aload_n 1) 1 114 := ⟨zq_43 zg_5_4_100.2.2.2.2.2.2.2.2.2.2.2.2.2.1, rfl⟩
theorem zd_5_4_114 : zz_D zy_writeLayer_5_4 114 (.getfield 80) 3 117 := ⟨zq_180 zg_5_4_100.2.2.2.2.2.2.2.2.2.2.2.2.2.2.1 zg_5_4_100.2.2.2.2.2.2.2.2.2.2.2.2.2.2.2.1 zg_5_4_100.2.2.2.2.2.2.2.2.2.2.2.2.2.2.2.2.1 rfl, rfl⟩
theorem zd_5_4_117 : zz_D zy_writeLayer_5_4 117 (.invokevirtual 83) 3 120 := ⟨zq_182 zg_5_4_100.2.2.2.2.2.2.2.2.2.2.2.2.2.2.2.2.2.1 zg_5_4_100.2.2.2.2.2.2.2.2.2.2.2.2.2.2.2.2.2.2.1 zg_5_4_100.2.2.2.2.2.2.2.2.2.2.2.2.2.2.2.2.2.2.2.1 rfl, rfl⟩
theorem zd_5_4_120 : zz_D zy_writeLayer_5_4 120 (.aload_n 0) 1 121 := ⟨zq_42 zg_5_4_100.2.2.2.2.2.2.2.2.2.2.2.2.2.2.2.2.2.2.2.2.1, rfl⟩
theorem zd_5_4_121 : zz_D zy_writeLayer_5_4 121 (.aload_n 1) 1 122 := ⟨zq_43 zg_5_4_100.2.2.2.2.2.2.2.2.2.2.2.2.2.2.2.2.2.2.2.2.2, rfl⟩
theorem zg_5_4_122 : zq_at zy_writeLayer_5_4.2.1 122 180 ∧ zq_at zy_writeLayer_5_4.2.1 123 0 ∧ zq_at zy_writeLayer_5_4.2.1 124 105 ∧ zq_at zy_writeLayer_5_4.2.1 125 182 ∧ zq_at zy_writeLayer_5_4.2.1 126 0 ∧ zq_at zy_writeLayer_5_4.2.1 127 108 ∧ zq_at zy_writeLayer_5_4.2.1 128 167 ∧ zq_at zy_writeLayer_5_4.2.1 129 0 ∧ zq_at zy_writeLayer_5_4.2.1 130 27 ∧ zq_at zy_writeLayer_5_4.2.1 131 42 ∧ zq_at zy_writeLayer_5_4.2.1 132 18 ∧ zq_at zy_writeLayer_5_4.2.1 133 112 ∧ zq_at zy_writeLayer_5_4.2.1 134 43 ∧ zq_at zy_writeLayer_5_4.2.1 135 180 ∧ zq_at zy_writeLayer_5_4.2.1 136 0 ∧ zq_at zy_writeLayer_5_4.2.1 137 114 ∧ zq_at zy_writeLayer_5_4.2.1 138 43 ∧ zq_at zy_writeLayer_5_4.2.1 139 180 ∧ zq_at zy_writeLayer_5_4.2.1 140 0 ∧ zq_at zy_writeLayer_5_4.2.1 141 117 ∧ zq_at zy_writeLayer_5_4.2.1 142 182 ∧ zq_at zy_writeLayer_5_4.2.1 143 0 ∧ zq_at zy_writeLayer_5_4.2.1 144 45 ∧ zq_at zy_writeLayer_5_4.2.1 145 42 := by decide +kernel
theorem zd_5_4_122 : zz_D zy_writeLayer_5_4 122 (.getfield 105) 3 125 := ⟨zq_180 zg_5_4_122.1 zg_5_4_122.2.1 zg_5_4_122.2.2.1 rfl, rfl⟩
theorem zd_5_4_125 : zz_D zy_writeLayer_5_4 125 (.invokevirtual 108) 3 128 := ⟨zq_182 zg_5_4_122.2.2.2.1 zg_5_4_122.2.2.2.2.1 zg_5_4_122.2.2.2.2.2.1 rfl, rfl⟩
theorem zd_5_4_128 : zz_B zy_writeLayer_5_4 128 Instr.goto 155 131 := ⟨27, zq_167 zg_5_4_122.2.2.2.2.2.2.1 zg_5_4_122.2.2.2.2.2.2.2.1 zg_5_4_122.2.2.2.2.2.2.2.2.1 (by decide), rfl, rfl⟩
theorem zd_5_4_131 : zz_D zy_writeLayer_5_4 131 (.aload_n 0) 1 132 := ⟨zq_42 zg_5_4_122.2.2.2.2.2.2.2.2.2.1, rfl⟩
theorem zd_5_4_132 : zz_D zy_writeLayer_5_4 132 (.ldc 112) 2 134 := ⟨zq_18 zg_5_4_122.2.2.2.2.2.2.2.2.2.2.1 zg_5_4_122.2.2.2.2.2.2.2.2.2.2.2.1, rfl⟩
theorem zd_5_4_134 : zz_D zy_writeLayer_5_4 134 (.aload_n 1) 1 135 := ⟨zq_43 zg_5_4_122.2.2.2.2.2.2.2.2.2.2.2.2.1, rfl⟩
theorem zd_5_4_135 : zz_D zy_writeLayer_5_4 135 (.getfield 114) 3 138 := ⟨zq_180 zg_5_4_122.2.2.2.2.2.2.2.2.2.2.2.2.2.1 zg_5_4_122.2.2.2.2.2.2.2.2.2.2.2.2.2.2.1 zg_5_4_122.2.2.2.2.2.2.2.2.2.2.2.2.2.2.2.1 rfl, rfl⟩
theorem zd_5_4_138 : zz_D zy_writeLayer_5_4 138 (.aload_n 1) 1 139 := ⟨zq_43 zg_5_4_122.2.2.2.2.2.2.2.2.2.2.2.2.2.2.2.2.1, rfl⟩
theorem zd_5_4_139 : zz_D zy_writeLayer_5_4 139 (.getfield 117) 3 142 := ⟨zq_180 zg_5_4_122.2.2.2.2.2.2.2.2.2.2.2.2.2.2.2.2.2.1 zg_5_4_122.2.2.2.2.2.2.2.2.2.2.2.2.2.2.2.2.2.2.1 zg_5_4_122.2.2.2.2.2.2.2.2.2.2.2.2.2.2.2.2.2.2.2.1 rfl, rfl⟩
theorem zd_5_4_142 : zz_D zy_writeLayer_5_4 142 (.invokevirtual 45) 3 145 := ⟨zq_182 zg_5_4_122.2.2.2.2.2.2.2.2.2.2.2.2.2.2.2.2.2.2.2.2.1 zg_5_4_122.2.2.2.2.2.2.2.2.2.2.2.2.2.2.2.2.2.2.2.2.2.1 zg_5_4_122.2.2.2.2.2.2.2.2.2.2.2.2.2.2.2.2.2.2.2.2.2.2.1 rfl, rfl⟩
theorem zd_5_4_145 : zz_D zy_writeLayer_5_4 145 (.aload_n 0) 1 146 := ⟨zq_42 zg_5_4_122.2.2.2.2.2.2.2.2.2.2.2.2.2.2.2.2.2.2.2.2.2.2.2, rfl⟩
theorem zg_5_4_146 : zq_at zy_writeLayer_5_4.2.1 146 18 ∧ zq_at zy_writeLayer_5_4.2.1 147 120 ∧ zq_at zy_writeLayer_5_4.2.1 148 43 ∧ zq_at zy_writeLayer_5_4.2.1 149 180 ∧ zq_at zy_writeLayer_5_4.2.1 150 0 ∧ zq_at zy_writeLayer_5_4.2.1 151 95 ∧ zq_at zy_writeLayer_5_4.2.1 152 182 ∧ zq_at zy_writeLayer_5_4.2.1 153 0 ∧ zq_at zy_writeLayer_5_4.2.1 154 83 := by decide +kernel
theorem zd_5_4_146 : zz_D zy_writeLayer_5_4 146 (.ldc 120) 2 148 := ⟨zq_18 zg_5_4_146.1 zg_5_4_146.2.1, rfl⟩
theorem zd_5_4_148 : zz_D zy_writeLayer_5_4 148 (.aload_n 1) 1 149 := ⟨zq_43 zg_5_4_146.2.2.1, rfl⟩
theorem zd_5_4_149 : zz_D zy_writeLayer_5_4 149 (.getfield 95) 3 152 := ⟨zq_180 zg_5_4_146.2.2.2.1 zg_5_4_146.2.2.2.2.1 zg_5_4_146.2.2.2.2.2.1 rfl, rfl⟩
theorem zd_5_4_152 : zz_D zy_writeLayer_5_4 152 (.invokevirtual 83) 3 155 := ⟨zq_182 zg_5_4_146.2.2.2.2.2.2.1 zg_5_4_146.2.2.2.2.2.2.2.1 zg_5_4_146.2.2.2.2.2.2.2.2 rfl, rfl⟩

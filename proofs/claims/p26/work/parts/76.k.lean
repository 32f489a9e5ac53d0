-- TensorForge$Layer takeForm (III)V at 1014, 1015
abbrev zr_takeForm_4_3_c1014_1015 : Room := { frames := 0, cells := 0, slots := 0, locals := 0 }
def zp_takeForm_4_3_c1014_1015 (S0 : zz_S) : zz_S → Prop := fun S => zz_Gm [1014] [] S ∧ zz_fr [(1014, 10), (1014, 11), (1014, 12)] [] (fun _ _ => False) S0 S ∧ (S 1014 12 = 1)
theorem zc_takeForm_4_3_c1014_1015 {g : mm_G} {l : Launch} (S0 : zz_S) (G_S0 : zz_Gm [1014] [] S0) : mm_Met g l zy_takeForm_4_3 zr_takeForm_4_3_c1014_1015 [.ref 1014, zi 1, zi 1, zi 1] (zz_M S0 1015) 1015 (zz_QV 1015 (zp_takeForm_4_3_c1014_1015 S0)) := by
  refine zz_enter (by decide) (Nat.le_of_ble_eq_true rfl) (zz_less (ls1 := [some (.ref 1014), some (zi 1), some (zi 1), some (zi 1)]) ⟨rfl, ⟨rfl, ⟨rfl, ⟨rfl, trivial⟩⟩⟩⟩ ?_)
  have F_S0 : zz_fr [(1014, 10), (1014, 11), (1014, 12)] [] (fun _ _ => False) S0 S0 := zz_fr.refl
  refine zz_aload_n (x := 1014) rfl zd_4_3_0 ?_
  refine zz_iload_n (x := 1) rfl zd_4_3_1 ?_
  refine zz_puti zd_4_3_2 zf_Layer_54 zT_1014 rfl (by decide) (fun S1 qS1 => ?_)
  have G_S1 := zz_Gm.put [] G_S0 qS1 (-2147483648) 2147483647 rfl (by decide) (by decide +kernel)
  have F_S1 := zz_fr.puts F_S0 qS1 (by decide +kernel)
  refine zz_aload_n (x := 1014) rfl zd_4_3_5 ?_
  refine zz_iload_n (x := 1) rfl zd_4_3_6 ?_
  refine zz_puti zd_4_3_7 zf_Layer_57 zT_1014 rfl (by decide) (fun S2 qS2 => ?_)
  have G_S2 := zz_Gm.put [] G_S1 qS2 (-2147483648) 2147483647 rfl (by decide) (by decide +kernel)
  have F_S2 := zz_fr.puts F_S1 qS2 (by decide +kernel)
  refine zz_aload_n (x := 1014) rfl zd_4_3_10 ?_
  refine zz_iload_n (x := 1) rfl zd_4_3_11 ?_
  refine zz_puti zd_4_3_12 zf_Layer_60 zT_1014 rfl (by decide) (fun S3 qS3 => ?_)
  have G_S3 := zz_Gm.put [] G_S2 qS3 (-2147483648) 2147483647 rfl (by decide) (by decide +kernel)
  have F_S3 := zz_fr.puts F_S2 qS3 (by decide +kernel)
  have e4 : S3 1014 12 = 1 := (zz_rs qS3)
  exact zz_vret zd_4_3_15 rfl (Nat.le_of_ble_eq_true rfl) (Nat.le_of_ble_eq_true rfl) ⟨_, rfl, G_S3, F_S3, by omega⟩
-- TensorForge$Layer reset (III)V at 1014, 1015
abbrev zr_reset_4_2_c1014_1015 : Room := { frames := 1, cells := 0, slots := 0, locals := 15 }
def zp_reset_4_2_c1014_1015 (S0 : zz_S) : zz_S → Prop := fun S => zz_Gm [1014, 1014] [] S ∧ zz_fr [(1014, 0), (1014, 1), (1014, 2), (1014, 3), (1014, 4), (1014, 5), (1014, 6), (1014, 7), (1014, 8), (1014, 9), (1014, 10), (1014, 11), (1014, 12), (1014, 13), (1014, 14)] [] (fun _ _ => False) S0 S ∧ (S 1014 0 = 0 ∧ S 1014 3 = 1 ∧ S 1014 4 = 1 ∧ S 1014 12 = 1)
theorem zc_reset_4_2_c1014_1015 {g : mm_G} {l : Launch} (S0 : zz_S) (G_S0 : zz_Gm [1014] [] S0) : mm_Met g l zy_reset_4_2 zr_reset_4_2_c1014_1015 [.ref 1014, zi 0, zi 0, zi 0] (zz_M S0 1015) 1015 (zz_QV 1015 (zp_reset_4_2_c1014_1015 S0)) := by
  refine zz_enter (by decide) (Nat.le_of_ble_eq_true rfl) (zz_less (ls1 := [some (.ref 1014), some (zi 0), some (zi 0), some (zi 0)]) ⟨rfl, ⟨rfl, ⟨rfl, ⟨rfl, trivial⟩⟩⟩⟩ ?_)
  have F_S0 : zz_fr [(1014, 0), (1014, 1), (1014, 2), (1014, 3), (1014, 4), (1014, 5), (1014, 6), (1014, 7), (1014, 8), (1014, 9), (1014, 10), (1014, 11), (1014, 12), (1014, 13), (1014, 14)] [] (fun _ _ => False) S0 S0 := zz_fr.refl
  refine zz_aload_n (x := 1014) rfl zd_4_2_0 ?_
  refine zz_iload_n (x := 0) rfl zd_4_2_1 ?_
  refine zz_puti zd_4_2_2 zf_Layer_13 zT_1014 rfl (by decide) (fun S1 qS1 => ?_)
  have G_S1 := zz_Gm.put [] G_S0 qS1 (-2147483648) 2147483647 rfl (by decide) (by decide +kernel)
  have F_S1 := zz_fr.puts F_S0 qS1 (by decide +kernel)
  refine zz_aload_n (x := 1014) rfl zd_4_2_5 ?_
  refine zz_iload_n (x := 0) rfl zd_4_2_6 ?_
  refine zz_puti zd_4_2_7 zf_Layer_17 zT_1014 rfl (by decide) (fun S2 qS2 => ?_)
  have G_S2 := zz_Gm.put [] G_S1 qS2 (-2147483648) 2147483647 rfl (by decide) (by decide +kernel)
  have F_S2 := zz_fr.puts F_S1 qS2 (by decide +kernel)
  refine zz_aload_n (x := 1014) rfl zd_4_2_10 ?_
  refine zz_iload_n (x := 0) rfl zd_4_2_11 ?_
  refine zz_puti zd_4_2_12 zf_Layer_20 zT_1014 rfl (by decide) (fun S3 qS3 => ?_)
  have G_S3 := zz_Gm.put [] G_S2 qS3 (-2147483648) 2147483647 rfl (by decide) (by decide +kernel)
  have F_S3 := zz_fr.puts F_S2 qS3 (by decide +kernel)
  refine zz_aload_n (x := 1014) rfl zd_4_2_15 ?_
  refine zz_iconst zd_4_2_16 ?_
  refine zz_puti zd_4_2_17 zf_Layer_23 zT_1014 rfl (by decide) (fun S4 qS4 => ?_)
  have G_S4 := zz_Gm.put [] G_S3 qS4 (-2147483648) 2147483647 rfl (by decide) (by decide +kernel)
  have F_S4 := zz_fr.puts F_S3 qS4 (by decide +kernel)
  refine zz_aload_n (x := 1014) rfl zd_4_2_20 ?_
  refine zz_iconst zd_4_2_21 ?_
  refine zz_puti zd_4_2_22 zf_Layer_26 zT_1014 rfl (by decide) (fun S5 qS5 => ?_)
  have G_S5 := zz_Gm.put [] G_S4 qS5 (-2147483648) 2147483647 rfl (by decide) (by decide +kernel)
  have F_S5 := zz_fr.puts F_S4 qS5 (by decide +kernel)
  refine zz_aload_n (x := 1014) rfl zd_4_2_25 ?_
  refine zz_iconst zd_4_2_26 ?_
  refine zz_puti zd_4_2_27 zf_Layer_29 zT_1014 rfl (by decide) (fun S6 qS6 => ?_)
  have G_S6 := zz_Gm.put [] G_S5 qS6 (-2147483648) 2147483647 rfl (by decide) (by decide +kernel)
  have F_S6 := zz_fr.puts F_S5 qS6 (by decide +kernel)
  refine zz_aload_n (x := 1014) rfl zd_4_2_30 ?_
  refine zz_iconst zd_4_2_31 ?_
  refine zz_puti zd_4_2_32 zf_Layer_32 zT_1014 rfl (by decide) (fun S7 qS7 => ?_)
  have G_S7 := zz_Gm.put [] G_S6 qS7 (-2147483648) 2147483647 rfl (by decide) (by decide +kernel)
  have F_S7 := zz_fr.puts F_S6 qS7 (by decide +kernel)
  refine zz_aload_n (x := 1014) rfl zd_4_2_35 ?_
  refine zz_iconst zd_4_2_36 ?_
  refine zz_puti zd_4_2_37 zf_Layer_35 zT_1014 rfl (by decide) (fun S8 qS8 => ?_)
  have G_S8 := zz_Gm.put [] G_S7 qS8 (-2147483648) 2147483647 rfl (by decide) (by decide +kernel)
  have F_S8 := zz_fr.puts F_S7 qS8 (by decide +kernel)
  refine zz_aload_n (x := 1014) rfl zd_4_2_40 ?_
  refine zz_iconst zd_4_2_41 ?_
  refine zz_putz zd_4_2_42 zf_Layer_38 zT_1014 rfl (by decide) (by decide) (fun S9 qS9 => ?_)
  have G_S9 := zz_Gm.put [] G_S8 qS9 0 1 rfl (by decide) (by decide +kernel)
  have F_S9 := zz_fr.puts F_S8 qS9 (by decide +kernel)
  refine zz_aload_n (x := 1014) rfl zd_4_2_45 ?_
  refine zz_iconst zd_4_2_46 ?_
  refine zz_puti zd_4_2_47 zf_Layer_42 zT_1014 rfl (by decide) (fun S10 qS10 => ?_)
  have G_S10 := zz_Gm.put [] G_S9 qS10 (-2147483648) 2147483647 rfl (by decide) (by decide +kernel)
  have F_S10 := zz_fr.puts F_S9 qS10 (by decide +kernel)
  refine zz_aload_n (x := 1014) rfl zd_4_2_50 ?_
  refine zz_iconst zd_4_2_51 ?_
  refine zz_iconst zd_4_2_52 ?_
  refine zz_iconst zd_4_2_53 ?_
  refine zz_callVV [zi 1, zi 1, zi 1] zd_4_2_54 zk_Layer_45 zT_1014 (by decide) rfl rfl ⟨Nat.le_of_ble_eq_true rfl, Nat.le_of_ble_eq_true rfl⟩ ⟨rfl, rfl⟩ (Nat.le_of_ble_eq_true rfl) (Nat.le_of_ble_eq_true rfl) (zc_takeForm_4_3_c1014_1015 S10 (zz_Gm.sub (C1 := [1014]) (X1 := []) G_S10 (by decide +kernel) (by decide +kernel))) (fun S11 hP => ?_)
  obtain ⟨gS11, fS11, o12⟩ := hP
  have F_S11 := zz_fr.trans F_S10 fS11 (by decide +kernel) zz_nv
  have G_S11 := zz_Gm.call [] G_S10 fS11 gS11 (by decide +kernel) (by decide +kernel) (by decide +kernel) (by decide +kernel)
  refine zz_aload_n (x := 1014) rfl zd_4_2_57 ?_
  refine zz_iconst zd_4_2_58 ?_
  refine zz_puti zd_4_2_59 zf_Layer_48 zT_1014 rfl (by decide) (fun S13 qS13 => ?_)
  have G_S13 := zz_Gm.put [] G_S11 qS13 (-2147483648) 2147483647 rfl (by decide) (by decide +kernel)
  have F_S13 := zz_fr.puts F_S11 qS13 (by decide +kernel)
  refine zz_aload_n (x := 1014) rfl zd_4_2_62 ?_
  refine zz_iconst zd_4_2_63 ?_
  refine zz_puti zd_4_2_64 zf_Layer_51 zT_1014 rfl (by decide) (fun S14 qS14 => ?_)
  have G_S14 := zz_Gm.put [] G_S13 qS14 (-2147483648) 2147483647 rfl (by decide) (by decide +kernel)
  have F_S14 := zz_fr.puts F_S13 qS14 (by decide +kernel)
  have e15 : S14 1014 0 = 0 := (zz_ro qS14 (fun h => absurd h.2 (by decide)) (zz_ro qS13 (fun h => absurd h.2 (by decide)) (zz_rc fS11 rfl rfl (fun h => h) (zz_ro qS10 (fun h => absurd h.2 (by decide)) (zz_ro qS9 (fun h => absurd h.2 (by decide)) (zz_ro qS8 (fun h => absurd h.2 (by decide)) (zz_ro qS7 (fun h => absurd h.2 (by decide)) (zz_ro qS6 (fun h => absurd h.2 (by decide)) (zz_ro qS5 (fun h => absurd h.2 (by decide)) (zz_ro qS4 (fun h => absurd h.2 (by decide)) (zz_ro qS3 (fun h => absurd h.2 (by decide)) (zz_ro qS2 (fun h => absurd h.2 (by decide)) (zz_rs qS1)))))))))))))
  have e16 : S14 1014 12 = 1 := (zz_ro qS14 (fun h => absurd h.2 (by decide)) (zz_ro qS13 (fun h => absurd h.2 (by decide)) o12))
  have e17 : S14 1014 3 = 1 := (zz_ro qS14 (fun h => absurd h.2 (by decide)) (zz_ro qS13 (fun h => absurd h.2 (by decide)) (zz_rc fS11 rfl rfl (fun h => h) (zz_ro qS10 (fun h => absurd h.2 (by decide)) (zz_ro qS9 (fun h => absurd h.2 (by decide)) (zz_ro qS8 (fun h => absurd h.2 (by decide)) (zz_ro qS7 (fun h => absurd h.2 (by decide)) (zz_ro qS6 (fun h => absurd h.2 (by decide)) (zz_ro qS5 (fun h => absurd h.2 (by decide)) (zz_rs qS4))))))))))
  have e18 : S14 1014 4 = 1 := (zz_ro qS14 (fun h => absurd h.2 (by decide)) (zz_ro qS13 (fun h => absurd h.2 (by decide)) (zz_rc fS11 rfl rfl (fun h => h) (zz_ro qS10 (fun h => absurd h.2 (by decide)) (zz_ro qS9 (fun h => absurd h.2 (by decide)) (zz_ro qS8 (fun h => absurd h.2 (by decide)) (zz_ro qS7 (fun h => absurd h.2 (by decide)) (zz_ro qS6 (fun h => absurd h.2 (by decide)) (zz_rs qS5)))))))))
  exact zz_vret zd_4_2_67 rfl (Nat.le_of_ble_eq_true rfl) (Nat.le_of_ble_eq_true rfl) ⟨_, rfl, G_S14, F_S14, by omega⟩
-- TensorForge$Layer <init> ()V at 1014, 1015
abbrev zr_init_4_1_c1014_1015 : Room := { frames := 2, cells := 0, slots := 0, locals := 30 }
def zp_init_4_1_c1014_1015 (S0 : zz_S) : zz_S → Prop := fun S => zz_Gm [1014, 1014, 1014] [] S ∧ zz_fr [(1014, 0), (1014, 1), (1014, 2), (1014, 3), (1014, 4), (1014, 5), (1014, 6), (1014, 7), (1014, 8), (1014, 9), (1014, 10), (1014, 11), (1014, 12), (1014, 13), (1014, 14)] [] (fun _ _ => False) S0 S ∧ (S 1014 0 = 0 ∧ S 1014 3 = 1 ∧ S 1014 4 = 1 ∧ S 1014 12 = 1)
theorem zc_init_4_1_c1014_1015 {g : mm_G} {l : Launch} (S0 : zz_S) (G_S0 : zz_Gm [1014] [] S0) : mm_Met g l zy_init_4_1 zr_init_4_1_c1014_1015 [.ref 1014] (zz_M S0 1015) 1015 (zz_QV 1015 (zp_init_4_1_c1014_1015 S0)) := by
  refine zz_enter (by decide) (Nat.le_of_ble_eq_true rfl) (zz_less (ls1 := [some (.ref 1014)]) ⟨rfl, trivial⟩ ?_)
  have F_S0 : zz_fr [(1014, 0), (1014, 1), (1014, 2), (1014, 3), (1014, 4), (1014, 5), (1014, 6), (1014, 7), (1014, 8), (1014, 9), (1014, 10), (1014, 11), (1014, 12), (1014, 13), (1014, 14)] [] (fun _ _ => False) S0 S0 := zz_fr.refl
  refine zz_aload_n (x := 1014) rfl zd_4_1_0 ?_
  refine zz_objI zd_4_1_1 zoi_Layer_1 zoi.1 zoi.2 (Nat.le_of_ble_eq_true rfl) (Nat.le_of_ble_eq_true rfl) ?_
  refine zz_aload_n (x := 1014) rfl zd_4_1_4 ?_
  refine zz_iconst zd_4_1_5 ?_
  refine zz_iconst zd_4_1_6 ?_
  refine zz_iconst zd_4_1_7 ?_
  refine zz_callVV [zi 0, zi 0, zi 0] zd_4_1_8 zk_Layer_9 zT_1014 (by decide) rfl rfl ⟨Nat.le_of_ble_eq_true rfl, Nat.le_of_ble_eq_true rfl⟩ ⟨rfl, rfl⟩ (Nat.le_of_ble_eq_true rfl) (Nat.le_of_ble_eq_true rfl) (zc_reset_4_2_c1014_1015 S0 (zz_Gm.sub (C1 := [1014]) (X1 := []) G_S0 (by decide +kernel) (by decide +kernel))) (fun S2 hP => ?_)
  obtain ⟨gS2, fS2, o3⟩ := hP
  have F_S2 := zz_fr.trans F_S0 fS2 (by decide +kernel) zz_nv
  have G_S2 := zz_Gm.call [] G_S0 fS2 gS2 (by decide +kernel) (by decide +kernel) (by decide +kernel) (by decide +kernel)
  have g4 := trivial
  have g5 := trivial
  have g6 := trivial
  have g7 := trivial
  exact zz_vret zd_4_1_11 rfl (Nat.le_of_ble_eq_true rfl) (Nat.le_of_ble_eq_true rfl) ⟨_, rfl, G_S2, F_S2, by omega⟩
theorem zf_Network_16 : mm_Fl "TensorForge$Network" 16 1 1 .int false := ⟨R_Network, F_Network, 2, t_Network, rfl, i_Network, by decide, mm_tb_1 146 (by decide +kernel) rfl, rfl, t_Network_ok, n_Network, rfl, by decide +kernel⟩
theorem zg_7_1_40 : zq_at zy_init_7_1.2.1 40 42 ∧ zq_at zy_init_7_1.2.1 41 4 ∧ zq_at zy_init_7_1.2.1 42 181 ∧ zq_at zy_init_7_1.2.1 43 0 ∧ zq_at zy_init_7_1.2.1 44 16 ∧ zq_at zy_init_7_1.2.1 45 177 := by decide +kernel
theorem zd_7_1_40 : zz_D zy_init_7_1 40 (.aload_n 0) 1 41 := ⟨zq_42 zg_7_1_40.1, rfl⟩
theorem zd_7_1_41 : zz_D zy_init_7_1 41 (.iconst 1) 1 42 := ⟨zq_4 zg_7_1_40.2.1, rfl⟩
theorem zd_7_1_42 : zz_D zy_init_7_1 42 (.putfield 16) 3 45 := ⟨zq_181 zg_7_1_40.2.2.1 zg_7_1_40.2.2.2.1 zg_7_1_40.2.2.2.2.1 rfl, rfl⟩
theorem zd_7_1_45 : zz_D zy_init_7_1 45 (.return_) 1 46 := ⟨zq_177 zg_7_1_40.2.2.2.2.2, rfl⟩
-- TensorForge$Network <init> ()V at 1001, 1002
abbrev zr_init_7_1_c1001_1002 : Room := { frames := 3, cells := 13, slots := 192, locals := 45 }
def zp_init_7_1_c1001_1002 (S0 : zz_S) : zz_S → Prop := fun S => zz_Gm [1014, 1014, 1014, 1013, 1013, 1013, 1012, 1012, 1012, 1011, 1011, 1011, 1010, 1010, 1010, 1009, 1009, 1009, 1008, 1008, 1008, 1007, 1007, 1007, 1006, 1006, 1006, 1005, 1005, 1005, 1004, 1004, 1004, 1003, 1003, 1003, 1002, 1001] [] S ∧ zz_fr [(1003, 0), (1003, 1), (1003, 2), (1003, 3), (1003, 4), (1003, 5), (1003, 6), (1003, 7), (1003, 8), (1003, 9), (1003, 10), (1003, 11), (1003, 12), (1003, 13), (1003, 14), (1004, 0), (1004, 1), (1004, 2), (1004, 3), (1004, 4), (1004, 5), (1004, 6), (1004, 7), (1004, 8), (1004, 9), (1004, 10), (1004, 11), (1004, 12), (1004, 13), (1004, 14), (1005, 0), (1005, 1), (1005, 2), (1005, 3), (1005, 4), (1005, 5), (1005, 6), (1005, 7), (1005, 8), (1005, 9), (1005, 10), (1005, 11), (1005, 12), (1005, 13), (1005, 14), (1006, 0), (1006, 1), (1006, 2), (1006, 3), (1006, 4), (1006, 5), (1006, 6), (1006, 7), (1006, 8), (1006, 9), (1006, 10), (1006, 11), (1006, 12), (1006, 13), (1006, 14), (1007, 0), (1007, 1), (1007, 2), (1007, 3), (1007, 4), (1007, 5), (1007, 6), (1007, 7), (1007, 8), (1007, 9), (1007, 10), (1007, 11), (1007, 12), (1007, 13), (1007, 14), (1008, 0), (1008, 1), (1008, 2), (1008, 3), (1008, 4), (1008, 5), (1008, 6), (1008, 7), (1008, 8), (1008, 9), (1008, 10), (1008, 11), (1008, 12), (1008, 13), (1008, 14), (1009, 0), (1009, 1), (1009, 2), (1009, 3), (1009, 4), (1009, 5), (1009, 6), (1009, 7), (1009, 8), (1009, 9), (1009, 10), (1009, 11), (1009, 12), (1009, 13), (1009, 14), (1010, 0), (1010, 1), (1010, 2), (1010, 3), (1010, 4), (1010, 5), (1010, 6), (1010, 7), (1010, 8), (1010, 9), (1010, 10), (1010, 11), (1010, 12), (1010, 13), (1010, 14), (1011, 0), (1011, 1), (1011, 2), (1011, 3), (1011, 4), (1011, 5), (1011, 6), (1011, 7), (1011, 8), (1011, 9), (1011, 10), (1011, 11), (1011, 12), (1011, 13), (1011, 14), (1012, 0), (1012, 1), (1012, 2), (1012, 3), (1012, 4), (1012, 5), (1012, 6), (1012, 7), (1012, 8), (1012, 9), (1012, 10), (1012, 11), (1012, 12), (1012, 13), (1012, 14), (1013, 0), (1013, 1), (1013, 2), (1013, 3), (1013, 4), (1013, 5), (1013, 6), (1013, 7), (1013, 8), (1013, 9), (1013, 10), (1013, 11), (1013, 12), (1013, 13), (1013, 14), (1014, 0), (1014, 1), (1014, 2), (1014, 3), (1014, 4), (1014, 5), (1014, 6), (1014, 7), (1014, 8), (1014, 9), (1014, 10), (1014, 11), (1014, 12), (1014, 13), (1014, 14)] [1001, 1002, 1003, 1004, 1005, 1006, 1007, 1008, 1009, 1010, 1011, 1012, 1013, 1014] (fun _ _ => False) S0 S ∧ (S 1001 1 = 1 ∧ S 1003 0 = 0 ∧ S 1003 3 = 1 ∧ S 1003 4 = 1 ∧ S 1003 12 = 1) ∧ (S 1003 0 = 0 ∧ S 1003 1 = 0 ∧ S 1003 2 = 0 ∧ S 1003 3 = 1 ∧ S 1003 4 = 1 ∧ S 1003 5 = 1 ∧ S 1003 6 = 0 ∧ S 1003 7 = 0 ∧ S 1003 8 = 0 ∧ S 1003 9 = 0 ∧ S 1003 10 = 1 ∧ S 1003 11 = 1 ∧ S 1003 12 = 1 ∧ S 1003 13 = 0)
theorem zc_init_7_1_c1001_1002 {g : mm_G} {l : Launch} (S0 : zz_S) (G_S0 : zz_Gm [1001] [(1001, 0), (1001, 1)] S0) : mm_Met g l zy_init_7_1 zr_init_7_1_c1001_1002 [.ref 1001] (zz_M S0 1002) 1002 (zz_QV 1015 (zp_init_7_1_c1001_1002 S0)) := by
  refine zz_enter (by decide) (Nat.le_of_ble_eq_true rfl) (zz_less (ls1 := [some (.ref 1001)]) ⟨rfl, trivial⟩ ?_)
  have F_S0 : zz_fr [(1003, 0), (1003, 1), (1003, 2), (1003, 3), (1003, 4), (1003, 5), (1003, 6), (1003, 7), (1003, 8), (1003, 9), (1003, 10), (1003, 11), (1003, 12), (1003, 13), (1003, 14), (1004, 0), (1004, 1), (1004, 2), (1004, 3), (1004, 4), (1004, 5), (1004, 6), (1004, 7), (1004, 8), (1004, 9), (1004, 10), (1004, 11), (1004, 12), (1004, 13), (1004, 14), (1005, 0), (1005, 1), (1005, 2), (1005, 3), (1005, 4), (1005, 5), (1005, 6), (1005, 7), (1005, 8), (1005, 9), (1005, 10), (1005, 11), (1005, 12), (1005, 13), (1005, 14), (1006, 0), (1006, 1), (1006, 2), (1006, 3), (1006, 4), (1006, 5), (1006, 6), (1006, 7), (1006, 8), (1006, 9), (1006, 10), (1006, 11), (1006, 12), (1006, 13), (1006, 14), (1007, 0), (1007, 1), (1007, 2), (1007, 3), (1007, 4), (1007, 5), (1007, 6), (1007, 7), (1007, 8), (1007, 9), (1007, 10), (1007, 11), (1007, 12), (1007, 13), (1007, 14), (1008, 0), (1008, 1), (1008, 2), (1008, 3), (1008, 4), (1008, 5), (1008, 6), (1008, 7), (1008, 8), (1008, 9), (1008, 10), (1008, 11), (1008, 12), (1008, 13), (1008, 14), (1009, 0), (1009, 1), (1009, 2), (1009, 3), (1009, 4), (1009, 5), (1009, 6), (1009, 7), (1009, 8), (1009, 9), (1009, 10), (1009, 11), (1009, 12), (1009, 13), (1009, 14), (1010, 0), (1010, 1), (1010, 2), (1010, 3), (1010, 4), (1010, 5), (1010, 6), (1010, 7), (1010, 8), (1010, 9), (1010, 10), (1010, 11), (1010, 12), (1010, 13), (1010, 14), (1011, 0), (1011, 1), (1011, 2), (1011, 3), (1011, 4), (1011, 5), (1011, 6), (1011, 7), (1011, 8), (1011, 9), (1011, 10), (1011, 11), (1011, 12), (1011, 13), (1011, 14), (1012, 0), (1012, 1), (1012, 2), (1012, 3), (1012, 4), (1012, 5), (1012, 6), (1012, 7), (1012, 8), (1012, 9), (1012, 10), (1012, 11), (1012, 12), (1012, 13), (1012, 14), (1013, 0), (1013, 1), (1013, 2), (1013, 3), (1013, 4), (1013, 5), (1013, 6), (1013, 7), (1013, 8), (1013, 9), (1013, 10), (1013, 11), (1013, 12), (1013, 13), (1013, 14), (1014, 0), (1014, 1), (1014, 2), (1014, 3), (1014, 4), (1014, 5), (1014, 6), (1014, 7), (1014, 8), (1014, 9), (1014, 10), (1014, 11), (1014, 12), (1014, 13), (1014, 14)] [1001, 1002, 1003, 1004, 1005, 1006, 1007, 1008, 1009, 1010, 1011, 1012, 1013, 1014] (fun _ _ => False) S0 S0 := zz_fr.refl
  refine zz_aload_n (x := 1001) rfl zd_7_1_0 ?_
  refine zz_objI zd_7_1_1 zoi_Network_1 zoi.1 zoi.2 (Nat.le_of_ble_eq_true rfl) (Nat.le_of_ble_eq_true rfl) ?_
  refine zz_aload_n (x := 1001) rfl zd_7_1_4 ?_
  refine zz_bipush (by decide) zd_7_1_5 ?_
  refine zz_anewb (z := 12) (fun i => if i < 12 then -1 else 0 + (i : Int)) zd_7_1_7 zT_1002 rfl (mm_tb_1 42 (by decide +kernel) rfl) (fun _ _ _ h => h.2.2.2.2.2.2.2.2.2.2.1) rfl (by decide) (fun i hi => by simp only [if_pos hi]; decide) (Nat.le_of_ble_eq_true rfl) (Nat.le_of_ble_eq_true rfl) (fun S2 qS2 => ?_)
  have G_S2 := zz_Gm.nwa zX_0 G_S0 qS2 (by decide +kernel) (fun i hi => by
    by_cases h : i < 12
    · exfalso
      have h9 := (by decide +kernel : ∀ q, q < 12 → (zX_0 : List (Nat × Nat)).contains (1002, q) = true) i h
      rw [h9] at hi
      cases hi
    · simp only [if_neg h]
      exact ⟨Int.le_refl _, Int.le_refl _⟩)
  have F_S2 := zz_fr.nw F_S0 qS2 (by decide +kernel)
  refine zz_setn (n1 := 1003) (k1 := 1) (j1 := 12) rfl rfl rfl ?_
  refine zz_putrF (kd := 0) 1002 zd_7_1_10 zf_Network_11 zT_1001 rfl (by decide) (by decide) rfl (fun _ => rfl) (fun _ => rfl) rfl (fun q h => by cases h; rfl) (fun S3 qS3 => ?_)
  have G_S3 := zz_Gm.put zX_1 G_S2 qS3 1002 1002 rfl (by decide) (by decide +kernel)
  have F_S3 := zz_fr.putc F_S2 qS3 (by decide +kernel)
  refine zz_iconst zd_7_1_13 ?_
  refine zz_istore_n [some (.ref 1001), some (zi 0)] zd_7_1_14 (by decide) rfl ?_
  refine zz_iload_n (x := 0) rfl zd_7_1_15 ?_
  refine zz_bipush (by decide) zd_7_1_16 ?_
  refine zz_icmp_gt (by omega) (by omega) zd_7_1_18 (fun c4 => ?_) (fun c4 => ?_)
  · exfalso; omega
  · refine zz_aload_n (x := 1001) rfl zd_7_1_21 ?_
    have g5 := G_S3 1001 0 (by decide +kernel) (by decide +kernel)
    refine zz_getr (kd := 0) (z := 1002) zd_7_1_22 zf_Network_11 zT_1001 rfl (by decide) (Int.le_antisymm g5.2 g5.1) (by decide) 1002 rfl ?_
    refine zz_iload_n (x := 0) rfl zd_7_1_25 ?_
    refine zz_new (zz_ov [0, 0, 0, 0, 0, 0, 0, 0, 0, 0, 0, 0, 0, 0, 0]) zd_7_1_26 zn_Network_9 zT_1003 rfl (Nat.le_of_ble_eq_true rfl) (Nat.le_of_ble_eq_true rfl) (fun S6 qS6 => ?_)
    have G_S6 := zz_Gm.nwo G_S3 qS6 (by decide +kernel)
    have F_S6 := zz_fr.nw F_S3 qS6 (by decide +kernel)
    refine zz_setn (n1 := 1004) (k1 := 2) (j1 := 27) rfl rfl rfl ?_
    refine zz_dup rfl zd_7_1_29 ?_
    refine zz_callN (n1 := 1004) [] zd_7_1_30 zk_Network_15 rfl rfl ⟨Nat.le_of_ble_eq_true rfl, Nat.le_of_ble_eq_true rfl⟩ (Nat.le_of_ble_eq_true rfl) (Nat.le_of_ble_eq_true rfl) (zc_init_4_1_c1003_1004 S6 (zz_Gm.own qS6 (zz_ovG (rs := [((-2147483648), 2147483647), ((-2147483648), 2147483647), ((-2147483648), 2147483647), ((-2147483648), 2147483647), ((-2147483648), 2147483647), ((-2147483648), 2147483647), ((-2147483648), 2147483647), ((-2147483648), 2147483647), (0, 1), ((-2147483648), 2147483647), ((-2147483648), 2147483647), ((-2147483648), 2147483647), ((-2147483648), 2147483647), ((-2147483648), 2147483647), ((-2147483648), 2147483647)]) (fun _ => rfl) rfl (by decide +kernel)))) (fun S7 hP => ?_)
    obtain ⟨gS7, fS7, o8⟩ := hP
    have F_S7 := zz_fr.trans F_S6 fS7 (by decide +kernel) zz_nv
    have G_S7 := zz_Gm.call zX_1 G_S6 fS7 gS7 (by decide +kernel) (by decide +kernel) (by decide +kernel) (by decide +kernel)
    refine zz_setn (n1 := 1004) (k1 := 2) (j1 := 27) rfl rfl rfl ?_
    refine zz_aast (kd := 4) 0 zd_7_1_33 zT_1002 rfl (ci := 2) rfl zT_1003 (by decide) (by decide) (by decide) (by decide) (by decide) rfl (fun S9 qS9 => ?_)
    have G_S9 := zz_Gm.put zX_2 G_S7 qS9 0 0 rfl (by decide) (by decide +kernel)
    have F_S9 := zz_fr.putc F_S7 qS9 (by decide +kernel)
    refine zz_iinc [some (.ref 1001), some (zi 1)] zd_7_1_34 rfl rfl ?_
    refine zz_goto zd_7_1_37 ?_
    refine zz_iload_n (x := 1) rfl zd_7_1_15 ?_
    refine zz_bipush (by decide) zd_7_1_16 ?_
    refine zz_icmp_gt (by omega) (by omega) zd_7_1_18 (fun c10 => ?_) (fun c10 => ?_)
    · exfalso; omega
    · refine zz_aload_n (x := 1001) rfl zd_7_1_21 ?_
      have g11 := G_S9 1001 0 (by decide +kernel) (by decide +kernel)
      refine zz_getr (kd := 0) (z := 1002) zd_7_1_22 zf_Network_11 zT_1001 rfl (by decide) (Int.le_antisymm g11.2 g11.1) (by decide) 1002 rfl ?_
      refine zz_iload_n (x := 1) rfl zd_7_1_25 ?_
      refine zz_new (zz_ov [0, 0, 0, 0, 0, 0, 0, 0, 0, 0, 0, 0, 0, 0, 0]) zd_7_1_26 zn_Network_9 zT_1004 rfl (Nat.le_of_ble_eq_true rfl) (Nat.le_of_ble_eq_true rfl) (fun S12 qS12 => ?_)
      have G_S12 := zz_Gm.nwo G_S9 qS12 (by decide +kernel)
      have F_S12 := zz_fr.nw F_S9 qS12 (by decide +kernel)
      refine zz_setn (n1 := 1005) (k1 := 3) (j1 := 42) rfl rfl rfl ?_
      refine zz_dup rfl zd_7_1_29 ?_
      refine zz_callN (n1 := 1005) [] zd_7_1_30 zk_Network_15 rfl rfl ⟨Nat.le_of_ble_eq_true rfl, Nat.le_of_ble_eq_true rfl⟩ (Nat.le_of_ble_eq_true rfl) (Nat.le_of_ble_eq_true rfl) (zc_init_4_1_c1004_1005 S12 (zz_Gm.own qS12 (zz_ovG (rs := [((-2147483648), 2147483647), ((-2147483648), 2147483647), ((-2147483648), 2147483647), ((-2147483648), 2147483647), ((-2147483648), 2147483647), ((-2147483648), 2147483647), ((-2147483648), 2147483647), ((-2147483648), 2147483647), (0, 1), ((-2147483648), 2147483647), ((-2147483648), 2147483647), ((-2147483648), 2147483647), ((-2147483648), 2147483647), ((-2147483648), 2147483647), ((-2147483648), 2147483647)]) (fun _ => rfl) rfl (by decide +kernel)))) (fun S13 hP => ?_)
      obtain ⟨gS13, fS13, o14⟩ := hP
      have F_S13 := zz_fr.trans F_S12 fS13 (by decide +kernel) zz_nv
      have G_S13 := zz_Gm.call zX_2 G_S12 fS13 gS13 (by decide +kernel) (by decide +kernel) (by decide +kernel) (by decide +kernel)
      refine zz_setn (n1 := 1005) (k1 := 3) (j1 := 42) rfl rfl rfl ?_
      refine zz_aast (kd := 4) 1 zd_7_1_33 zT_1002 rfl (ci := 2) rfl zT_1004 (by decide) (by decide) (by decide) (by decide) (by decide) rfl (fun S15 qS15 => ?_)
      have G_S15 := zz_Gm.put zX_3 G_S13 qS15 1 1 rfl (by decide) (by decide +kernel)
      have F_S15 := zz_fr.putc F_S13 qS15 (by decide +kernel)
      refine zz_iinc [some (.ref 1001), some (zi 2)] zd_7_1_34 rfl rfl ?_
      refine zz_goto zd_7_1_37 ?_
      refine zz_iload_n (x := 2) rfl zd_7_1_15 ?_
      refine zz_bipush (by decide) zd_7_1_16 ?_
      refine zz_icmp_gt (by omega) (by omega) zd_7_1_18 (fun c16 => ?_) (fun c16 => ?_)
      · exfalso; omega
      · refine zz_aload_n (x := 1001) rfl zd_7_1_21 ?_
        have g17 := G_S15 1001 0 (by decide +kernel) (by decide +kernel)
        refine zz_getr (kd := 0) (z := 1002) zd_7_1_22 zf_Network_11 zT_1001 rfl (by decide) (Int.le_antisymm g17.2 g17.1) (by decide) 1002 rfl ?_
        refine zz_iload_n (x := 2) rfl zd_7_1_25 ?_
        refine zz_new (zz_ov [0, 0, 0, 0, 0, 0, 0, 0, 0, 0, 0, 0, 0, 0, 0]) zd_7_1_26 zn_Network_9 zT_1005 rfl (Nat.le_of_ble_eq_true rfl) (Nat.le_of_ble_eq_true rfl) (fun S18 qS18 => ?_)
        have G_S18 := zz_Gm.nwo G_S15 qS18 (by decide +kernel)
        have F_S18 := zz_fr.nw F_S15 qS18 (by decide +kernel)
        refine zz_setn (n1 := 1006) (k1 := 4) (j1 := 57) rfl rfl rfl ?_
        refine zz_dup rfl zd_7_1_29 ?_
        refine zz_callN (n1 := 1006) [] zd_7_1_30 zk_Network_15 rfl rfl ⟨Nat.le_of_ble_eq_true rfl, Nat.le_of_ble_eq_true rfl⟩ (Nat.le_of_ble_eq_true rfl) (Nat.le_of_ble_eq_true rfl) (zc_init_4_1_c1005_1006 S18 (zz_Gm.own qS18 (zz_ovG (rs := [((-2147483648), 2147483647), ((-2147483648), 2147483647), ((-2147483648), 2147483647), ((-2147483648), 2147483647), ((-2147483648), 2147483647), ((-2147483648), 2147483647), ((-2147483648), 2147483647), ((-2147483648), 2147483647), (0, 1), ((-2147483648), 2147483647), ((-2147483648), 2147483647), ((-2147483648), 2147483647), ((-2147483648), 2147483647), ((-2147483648), 2147483647), ((-2147483648), 2147483647)]) (fun _ => rfl) rfl (by decide +kernel)))) (fun S19 hP => ?_)
        obtain ⟨gS19, fS19, o20⟩ := hP
        have F_S19 := zz_fr.trans F_S18 fS19 (by decide +kernel) zz_nv
        have G_S19 := zz_Gm.call zX_3 G_S18 fS19 gS19 (by decide +kernel) (by decide +kernel) (by decide +kernel) (by decide +kernel)
        refine zz_setn (n1 := 1006) (k1 := 4) (j1 := 57) rfl rfl rfl ?_
        refine zz_aast (kd := 4) 2 zd_7_1_33 zT_1002 rfl (ci := 2) rfl zT_1005 (by decide) (by decide) (by decide) (by decide) (by decide) rfl (fun S21 qS21 => ?_)
        have G_S21 := zz_Gm.put zX_4 G_S19 qS21 2 2 rfl (by decide) (by decide +kernel)
        have F_S21 := zz_fr.putc F_S19 qS21 (by decide +kernel)
        refine zz_iinc [some (.ref 1001), some (zi 3)] zd_7_1_34 rfl rfl ?_
        refine zz_goto zd_7_1_37 ?_
        refine zz_iload_n (x := 3) rfl zd_7_1_15 ?_
        refine zz_bipush (by decide) zd_7_1_16 ?_
        refine zz_icmp_gt (by omega) (by omega) zd_7_1_18 (fun c22 => ?_) (fun c22 => ?_)
        · exfalso; omega
        · refine zz_aload_n (x := 1001) rfl zd_7_1_21 ?_
          have g23 := G_S21 1001 0 (by decide +kernel) (by decide +kernel)
          refine zz_getr (kd := 0) (z := 1002) zd_7_1_22 zf_Network_11 zT_1001 rfl (by decide) (Int.le_antisymm g23.2 g23.1) (by decide) 1002 rfl ?_
          refine zz_iload_n (x := 3) rfl zd_7_1_25 ?_
          refine zz_new (zz_ov [0, 0, 0, 0, 0, 0, 0, 0, 0, 0, 0, 0, 0, 0, 0]) zd_7_1_26 zn_Network_9 zT_1006 rfl (Nat.le_of_ble_eq_true rfl) (Nat.le_of_ble_eq_true rfl) (fun S24 qS24 => ?_)
          have G_S24 := zz_Gm.nwo G_S21 qS24 (by decide +kernel)
          have F_S24 := zz_fr.nw F_S21 qS24 (by decide +kernel)
          refine zz_setn (n1 := 1007) (k1 := 5) (j1 := 72) rfl rfl rfl ?_
          refine zz_dup rfl zd_7_1_29 ?_
          refine zz_callN (n1 := 1007) [] zd_7_1_30 zk_Network_15 rfl rfl ⟨Nat.le_of_ble_eq_true rfl, Nat.le_of_ble_eq_true rfl⟩ (Nat.le_of_ble_eq_true rfl) (Nat.le_of_ble_eq_true rfl) (zc_init_4_1_c1006_1007 S24 (zz_Gm.own qS24 (zz_ovG (rs := [((-2147483648), 2147483647), ((-2147483648), 2147483647), ((-2147483648), 2147483647), ((-2147483648), 2147483647), ((-2147483648), 2147483647), ((-2147483648), 2147483647), ((-2147483648), 2147483647), ((-2147483648), 2147483647), (0, 1), ((-2147483648), 2147483647), ((-2147483648), 2147483647), ((-2147483648), 2147483647), ((-2147483648), 2147483647), ((-2147483648), 2147483647), ((-2147483648), 2147483647)]) (fun _ => rfl) rfl (by decide +kernel)))) (fun S25 hP => ?_)
          obtain ⟨gS25, fS25, o26⟩ := hP
          have F_S25 := zz_fr.trans F_S24 fS25 (by decide +kernel) zz_nv
          have G_S25 := zz_Gm.call zX_4 G_S24 fS25 gS25 (by decide +kernel) (by decide +kernel) (by decide +kernel) (by decide +kernel)
          refine zz_setn (n1 := 1007) (k1 := 5) (j1 := 72) rfl rfl rfl ?_
          refine zz_aast (kd := 4) 3 zd_7_1_33 zT_1002 rfl (ci := 2) rfl zT_1006 (by decide) (by decide) (by decide) (by decide) (by decide) rfl (fun S27 qS27 => ?_)
          have G_S27 := zz_Gm.put zX_5 G_S25 qS27 3 3 rfl (by decide) (by decide +kernel)
          have F_S27 := zz_fr.putc F_S25 qS27 (by decide +kernel)
          refine zz_iinc [some (.ref 1001), some (zi 4)] zd_7_1_34 rfl rfl ?_
          refine zz_goto zd_7_1_37 ?_
          refine zz_iload_n (x := 4) rfl zd_7_1_15 ?_
          refine zz_bipush (by decide) zd_7_1_16 ?_
          refine zz_icmp_gt (by omega) (by omega) zd_7_1_18 (fun c28 => ?_) (fun c28 => ?_)
          · exfalso; omega
          · refine zz_aload_n (x := 1001) rfl zd_7_1_21 ?_
            have g29 := G_S27 1001 0 (by decide +kernel) (by decide +kernel)
            refine zz_getr (kd := 0) (z := 1002) zd_7_1_22 zf_Network_11 zT_1001 rfl (by decide) (Int.le_antisymm g29.2 g29.1) (by decide) 1002 rfl ?_
            refine zz_iload_n (x := 4) rfl zd_7_1_25 ?_
            refine zz_new (zz_ov [0, 0, 0, 0, 0, 0, 0, 0, 0, 0, 0, 0, 0, 0, 0]) zd_7_1_26 zn_Network_9 zT_1007 rfl (Nat.le_of_ble_eq_true rfl) (Nat.le_of_ble_eq_true rfl) (fun S30 qS30 => ?_)
            have G_S30 := zz_Gm.nwo G_S27 qS30 (by decide +kernel)
            have F_S30 := zz_fr.nw F_S27 qS30 (by decide +kernel)
            refine zz_setn (n1 := 1008) (k1 := 6) (j1 := 87) rfl rfl rfl ?_
            refine zz_dup rfl zd_7_1_29 ?_
            refine zz_callN (n1 := 1008) [] zd_7_1_30 zk_Network_15 rfl rfl ⟨Nat.le_of_ble_eq_true rfl, Nat.le_of_ble_eq_true rfl⟩ (Nat.le_of_ble_eq_true rfl) (Nat.le_of_ble_eq_true rfl) (zc_init_4_1_c1007_1008 S30 (zz_Gm.own qS30 (zz_ovG (rs := [((-2147483648), 2147483647), ((-2147483648), 2147483647), ((-2147483648), 2147483647), ((-2147483648), 2147483647), ((-2147483648), 2147483647), ((-2147483648), 2147483647), ((-2147483648), 2147483647), ((-2147483648), 2147483647), (0, 1), ((-2147483648), 2147483647), ((-2147483648), 2147483647), ((-2147483648), 2147483647), ((-2147483648), 2147483647), ((-2147483648), 2147483647), ((-2147483648), 2147483647)]) (fun _ => rfl) rfl (by decide +kernel)))) (fun S31 hP => ?_)
            obtain ⟨gS31, fS31, o32⟩ := hP
            have F_S31 := zz_fr.trans F_S30 fS31 (by decide +kernel) zz_nv
            have G_S31 := zz_Gm.call zX_5 G_S30 fS31 gS31 (by decide +kernel) (by decide +kernel) (by decide +kernel) (by decide +kernel)
            refine zz_setn (n1 := 1008) (k1 := 6) (j1 := 87) rfl rfl rfl ?_
            refine zz_aast (kd := 4) 4 zd_7_1_33 zT_1002 rfl (ci := 2) rfl zT_1007 (by decide) (by decide) (by decide) (by decide) (by decide) rfl (fun S33 qS33 => ?_)
            have G_S33 := zz_Gm.put zX_6 G_S31 qS33 4 4 rfl (by decide) (by decide +kernel)
            have F_S33 := zz_fr.putc F_S31 qS33 (by decide +kernel)
            refine zz_iinc [some (.ref 1001), some (zi 5)] zd_7_1_34 rfl rfl ?_
            refine zz_goto zd_7_1_37 ?_
            refine zz_iload_n (x := 5) rfl zd_7_1_15 ?_
            refine zz_bipush (by decide) zd_7_1_16 ?_
            refine zz_icmp_gt (by omega) (by omega) zd_7_1_18 (fun c34 => ?_) (fun c34 => ?_)
            · exfalso; omega
            · refine zz_aload_n (x := 1001) rfl zd_7_1_21 ?_
              have g35 := G_S33 1001 0 (by decide +kernel) (by decide +kernel)
              refine zz_getr (kd := 0) (z := 1002) zd_7_1_22 zf_Network_11 zT_1001 rfl (by decide) (Int.le_antisymm g35.2 g35.1) (by decide) 1002 rfl ?_
              refine zz_iload_n (x := 5) rfl zd_7_1_25 ?_
              refine zz_new (zz_ov [0, 0, 0, 0, 0, 0, 0, 0, 0, 0, 0, 0, 0, 0, 0]) zd_7_1_26 zn_Network_9 zT_1008 rfl (Nat.le_of_ble_eq_true rfl) (Nat.le_of_ble_eq_true rfl) (fun S36 qS36 => ?_)
              have G_S36 := zz_Gm.nwo G_S33 qS36 (by decide +kernel)
              have F_S36 := zz_fr.nw F_S33 qS36 (by decide +kernel)
              refine zz_setn (n1 := 1009) (k1 := 7) (j1 := 102) rfl rfl rfl ?_
              refine zz_dup rfl zd_7_1_29 ?_
              refine zz_callN (n1 := 1009) [] zd_7_1_30 zk_Network_15 rfl rfl ⟨Nat.le_of_ble_eq_true rfl, Nat.le_of_ble_eq_true rfl⟩ (Nat.le_of_ble_eq_true rfl) (Nat.le_of_ble_eq_true rfl) (zc_init_4_1_c1008_1009 S36 (zz_Gm.own qS36 (zz_ovG (rs := [((-2147483648), 2147483647), ((-2147483648), 2147483647), ((-2147483648), 2147483647), ((-2147483648), 2147483647), ((-2147483648), 2147483647), ((-2147483648), 2147483647), ((-2147483648), 2147483647), ((-2147483648), 2147483647), (0, 1), ((-2147483648), 2147483647), ((-2147483648), 2147483647), ((-2147483648), 2147483647), ((-2147483648), 2147483647), ((-2147483648), 2147483647), ((-2147483648), 2147483647)]) (fun _ => rfl) rfl (by decide +kernel)))) (fun S37 hP => ?_)
              obtain ⟨gS37, fS37, o38⟩ := hP
              have F_S37 := zz_fr.trans F_S36 fS37 (by decide +kernel) zz_nv
              have G_S37 := zz_Gm.call zX_6 G_S36 fS37 gS37 (by decide +kernel) (by decide +kernel) (by decide +kernel) (by decide +kernel)
              refine zz_setn (n1 := 1009) (k1 := 7) (j1 := 102) rfl rfl rfl ?_
              refine zz_aast (kd := 4) 5 zd_7_1_33 zT_1002 rfl (ci := 2) rfl zT_1008 (by decide) (by decide) (by decide) (by decide) (by decide) rfl (fun S39 qS39 => ?_)
              have G_S39 := zz_Gm.put zX_7 G_S37 qS39 5 5 rfl (by decide) (by decide +kernel)
              have F_S39 := zz_fr.putc F_S37 qS39 (by decide +kernel)
              refine zz_iinc [some (.ref 1001), some (zi 6)] zd_7_1_34 rfl rfl ?_
              refine zz_goto zd_7_1_37 ?_
              refine zz_iload_n (x := 6) rfl zd_7_1_15 ?_
              refine zz_bipush (by decide) zd_7_1_16 ?_
              refine zz_icmp_gt (by omega) (by omega) zd_7_1_18 (fun c40 => ?_) (fun c40 => ?_)
              · exfalso; omega
              · refine zz_aload_n (x := 1001) rfl zd_7_1_21 ?_
                have g41 := G_S39 1001 0 (by decide +kernel) (by decide +kernel)
                refine zz_getr (kd := 0) (z := 1002) zd_7_1_22 zf_Network_11 zT_1001 rfl (by decide) (Int.le_antisymm g41.2 g41.1) (by decide) 1002 rfl ?_
                refine zz_iload_n (x := 6) rfl zd_7_1_25 ?_
                refine zz_new (zz_ov [0, 0, 0, 0, 0, 0, 0, 0, 0, 0, 0, 0, 0, 0, 0]) zd_7_1_26 zn_Network_9 zT_1009 rfl (Nat.le_of_ble_eq_true rfl) (Nat.le_of_ble_eq_true rfl) (fun S42 qS42 => ?_)
                have G_S42 := zz_Gm.nwo G_S39 qS42 (by decide +kernel)
                have F_S42 := zz_fr.nw F_S39 qS42 (by decide +kernel)
                refine zz_setn (n1 := 1010) (k1 := 8) (j1 := 117) rfl rfl rfl ?_
                refine zz_dup rfl zd_7_1_29 ?_
                refine zz_callN (n1 := 1010) [] zd_7_1_30 zk_Network_15 rfl rfl ⟨Nat.le_of_ble_eq_true rfl, Nat.le_of_ble_eq_true rfl⟩ (Nat.le_of_ble_eq_true rfl) (Nat.le_of_ble_eq_true rfl) (zc_init_4_1_c1009_1010 S42 (zz_Gm.own qS42 (zz_ovG (rs := [((-2147483648), 2147483647), ((-2147483648), 2147483647), ((-2147483648), 2147483647), ((-2147483648), 2147483647), ((-2147483648), 2147483647), ((-2147483648), 2147483647), ((-2147483648), 2147483647), ((-2147483648), 2147483647), (0, 1), ((-2147483648), 2147483647), ((-2147483648), 2147483647), ((-2147483648), 2147483647), ((-2147483648), 2147483647), ((-2147483648), 2147483647), ((-2147483648), 2147483647)]) (fun _ => rfl) rfl (by decide +kernel)))) (fun S43 hP => ?_)
                obtain ⟨gS43, fS43, o44⟩ := hP
                have F_S43 := zz_fr.trans F_S42 fS43 (by decide +kernel) zz_nv
                have G_S43 := zz_Gm.call zX_7 G_S42 fS43 gS43 (by decide +kernel) (by decide +kernel) (by decide +kernel) (by decide +kernel)
                refine zz_setn (n1 := 1010) (k1 := 8) (j1 := 117) rfl rfl rfl ?_
                refine zz_aast (kd := 4) 6 zd_7_1_33 zT_1002 rfl (ci := 2) rfl zT_1009 (by decide) (by decide) (by decide) (by decide) (by decide) rfl (fun S45 qS45 => ?_)
                have G_S45 := zz_Gm.put zX_8 G_S43 qS45 6 6 rfl (by decide) (by decide +kernel)
                have F_S45 := zz_fr.putc F_S43 qS45 (by decide +kernel)
                refine zz_iinc [some (.ref 1001), some (zi 7)] zd_7_1_34 rfl rfl ?_
                refine zz_goto zd_7_1_37 ?_
                refine zz_iload_n (x := 7) rfl zd_7_1_15 ?_
                refine zz_bipush (by decide) zd_7_1_16 ?_
                refine zz_icmp_gt (by omega) (by omega) zd_7_1_18 (fun c46 => ?_) (fun c46 => ?_)
                · exfalso; omega
                · refine zz_aload_n (x := 1001) rfl zd_7_1_21 ?_
                  have g47 := G_S45 1001 0 (by decide +kernel) (by decide +kernel)
                  refine zz_getr (kd := 0) (z := 1002) zd_7_1_22 zf_Network_11 zT_1001 rfl (by decide) (Int.le_antisymm g47.2 g47.1) (by decide) 1002 rfl ?_
                  refine zz_iload_n (x := 7) rfl zd_7_1_25 ?_
                  refine zz_new (zz_ov [0, 0, 0, 0, 0, 0, 0, 0, 0, 0, 0, 0, 0, 0, 0]) zd_7_1_26 zn_Network_9 zT_1010 rfl (Nat.le_of_ble_eq_true rfl) (Nat.le_of_ble_eq_true rfl) (fun S48 qS48 => ?_)
                  have G_S48 := zz_Gm.nwo G_S45 qS48 (by decide +kernel)
                  have F_S48 := zz_fr.nw F_S45 qS48 (by decide +kernel)
                  refine zz_setn (n1 := 1011) (k1 := 9) (j1 := 132) rfl rfl rfl ?_
                  refine zz_dup rfl zd_7_1_29 ?_
                  refine zz_callN (n1 := 1011) [] zd_7_1_30 zk_Network_15 rfl rfl ⟨Nat.le_of_ble_eq_true rfl, Nat.le_of_ble_eq_true rfl⟩ (Nat.le_of_ble_eq_true rfl) (Nat.le_of_ble_eq_true rfl) (zc_init_4_1_c1010_1011 S48 (zz_Gm.own qS48 (zz_ovG (rs := [((-2147483648), 2147483647), ((-2147483648), 2147483647), ((-2147483648), 2147483647), ((-2147483648), 2147483647), ((-2147483648), 2147483647), ((-2147483648), 2147483647), ((-2147483648), 2147483647), ((-2147483648), 2147483647), (0, 1), ((-2147483648), 2147483647), ((-2147483648), 2147483647), ((-2147483648), 2147483647), ((-2147483648), 2147483647), ((-2147483648), 2147483647), ((-2147483648), 2147483647)]) (fun _ => rfl) rfl (by decide +kernel)))) (fun S49 hP => ?_)
                  obtain ⟨gS49, fS49, o50⟩ := hP
                  have F_S49 := zz_fr.trans F_S48 fS49 (by decide +kernel) zz_nv
                  have G_S49 := zz_Gm.call zX_8 G_S48 fS49 gS49 (by decide +kernel) (by decide +kernel) (by decide +kernel) (by decide +kernel)
                  refine zz_setn (n1 := 1011) (k1 := 9) (j1 := 132) rfl rfl rfl ?_
                  refine zz_aast (kd := 4) 7 zd_7_1_33 zT_1002 rfl (ci := 2) rfl zT_1010 (by decide) (by decide) (by decide) (by decide) (by decide) rfl (fun S51 qS51 => ?_)
                  have G_S51 := zz_Gm.put zX_9 G_S49 qS51 7 7 rfl (by decide) (by decide +kernel)
                  have F_S51 := zz_fr.putc F_S49 qS51 (by decide +kernel)
                  refine zz_iinc [some (.ref 1001), some (zi 8)] zd_7_1_34 rfl rfl ?_
                  refine zz_goto zd_7_1_37 ?_
                  refine zz_iload_n (x := 8) rfl zd_7_1_15 ?_
                  refine zz_bipush (by decide) zd_7_1_16 ?_
                  refine zz_icmp_gt (by omega) (by omega) zd_7_1_18 (fun c52 => ?_) (fun c52 => ?_)
                  · exfalso; omega
                  · refine zz_aload_n (x := 1001) rfl zd_7_1_21 ?_
                    have g53 := G_S51 1001 0 (by decide +kernel) (by decide +kernel)
                    refine zz_getr (kd := 0) (z := 1002) zd_7_1_22 zf_Network_11 zT_1001 rfl (by decide) (Int.le_antisymm g53.2 g53.1) (by decide) 1002 rfl ?_
                    refine zz_iload_n (x := 8) rfl zd_7_1_25 ?_
                    refine zz_new (zz_ov [0, 0, 0, 0, 0, 0, 0, 0, 0, 0, 0, 0, 0, 0, 0]) zd_7_1_26 zn_Network_9 zT_1011 rfl (Nat.le_of_ble_eq_true rfl) (Nat.le_of_ble_eq_true rfl) (fun S54 qS54 => ?_)
                    have G_S54 := zz_Gm.nwo G_S51 qS54 (by decide +kernel)
                    have F_S54 := zz_fr.nw F_S51 qS54 (by decide +kernel)
                    refine zz_setn (n1 := 1012) (k1 := 10) (j1 := 147) rfl rfl rfl ?_
                    refine zz_dup rfl zd_7_1_29 ?_
                    refine zz_callN (n1 := 1012) [] zd_7_1_30 zk_Network_15 rfl rfl ⟨Nat.le_of_ble_eq_true rfl, Nat.le_of_ble_eq_true rfl⟩ (Nat.le_of_ble_eq_true rfl) (Nat.le_of_ble_eq_true rfl) (zc_init_4_1_c1011_1012 S54 (zz_Gm.own qS54 (zz_ovG (rs := [((-2147483648), 2147483647), ((-2147483648), 2147483647), ((-2147483648), 2147483647), ((-2147483648), 2147483647), ((-2147483648), 2147483647), ((-2147483648), 2147483647), ((-2147483648), 2147483647), ((-2147483648), 2147483647), (0, 1), ((-2147483648), 2147483647), ((-2147483648), 2147483647), ((-2147483648), 2147483647), ((-2147483648), 2147483647), ((-2147483648), 2147483647), ((-2147483648), 2147483647)]) (fun _ => rfl) rfl (by decide +kernel)))) (fun S55 hP => ?_)
                    obtain ⟨gS55, fS55, o56⟩ := hP
                    have F_S55 := zz_fr.trans F_S54 fS55 (by decide +kernel) zz_nv
                    have G_S55 := zz_Gm.call zX_9 G_S54 fS55 gS55 (by decide +kernel) (by decide +kernel) (by decide +kernel) (by decide +kernel)
                    refine zz_setn (n1 := 1012) (k1 := 10) (j1 := 147) rfl rfl rfl ?_
                    refine zz_aast (kd := 4) 8 zd_7_1_33 zT_1002 rfl (ci := 2) rfl zT_1011 (by decide) (by decide) (by decide) (by decide) (by decide) rfl (fun S57 qS57 => ?_)
                    have G_S57 := zz_Gm.put zX_10 G_S55 qS57 8 8 rfl (by decide) (by decide +kernel)
                    have F_S57 := zz_fr.putc F_S55 qS57 (by decide +kernel)
                    refine zz_iinc [some (.ref 1001), some (zi 9)] zd_7_1_34 rfl rfl ?_
                    refine zz_goto zd_7_1_37 ?_
                    refine zz_iload_n (x := 9) rfl zd_7_1_15 ?_
                    refine zz_bipush (by decide) zd_7_1_16 ?_
                    refine zz_icmp_gt (by omega) (by omega) zd_7_1_18 (fun c58 => ?_) (fun c58 => ?_)
                    · exfalso; omega
                    · refine zz_aload_n (x := 1001) rfl zd_7_1_21 ?_
                      have g59 := G_S57 1001 0 (by decide +kernel) (by decide +kernel)
                      refine zz_getr (kd := 0) (z := 1002) zd_7_1_22 zf_Network_11 zT_1001 rfl (by decide) (Int.le_antisymm g59.2 g59.1) (by decide) 1002 rfl ?_
                      refine zz_iload_n (x := 9) rfl zd_7_1_25 ?_
                      refine zz_new (zz_ov [0, 0, 0, 0, 0, 0, 0, 0, 0, 0, 0, 0, 0, 0, 0]) zd_7_1_26 zn_Network_9 zT_1012 rfl (Nat.le_of_ble_eq_true rfl) (Nat.le_of_ble_eq_true rfl) (fun S60 qS60 => ?_)
                      have G_S60 := zz_Gm.nwo G_S57 qS60 (by decide +kernel)
                      have F_S60 := zz_fr.nw F_S57 qS60 (by decide +kernel)
                      refine zz_setn (n1 := 1013) (k1 := 11) (j1 := 162) rfl rfl rfl ?_
                      refine zz_dup rfl zd_7_1_29 ?_
                      refine zz_callN (n1 := 1013) [] zd_7_1_30 zk_Network_15 rfl rfl ⟨Nat.le_of_ble_eq_true rfl, Nat.le_of_ble_eq_true rfl⟩ (Nat.le_of_ble_eq_true rfl) (Nat.le_of_ble_eq_true rfl) (zc_init_4_1_c1012_1013 S60 (zz_Gm.own qS60 (zz_ovG (rs := [((-2147483648), 2147483647), ((-2147483648), 2147483647), ((-2147483648), 2147483647), ((-2147483648), 2147483647), ((-2147483648), 2147483647), ((-2147483648), 2147483647), ((-2147483648), 2147483647), ((-2147483648), 2147483647), (0, 1), ((-2147483648), 2147483647), ((-2147483648), 2147483647), ((-2147483648), 2147483647), ((-2147483648), 2147483647), ((-2147483648), 2147483647), ((-2147483648), 2147483647)]) (fun _ => rfl) rfl (by decide +kernel)))) (fun S61 hP => ?_)
                      obtain ⟨gS61, fS61, o62⟩ := hP
                      have F_S61 := zz_fr.trans F_S60 fS61 (by decide +kernel) zz_nv
                      have G_S61 := zz_Gm.call zX_10 G_S60 fS61 gS61 (by decide +kernel) (by decide +kernel) (by decide +kernel) (by decide +kernel)
                      refine zz_setn (n1 := 1013) (k1 := 11) (j1 := 162) rfl rfl rfl ?_
                      refine zz_aast (kd := 4) 9 zd_7_1_33 zT_1002 rfl (ci := 2) rfl zT_1012 (by decide) (by decide) (by decide) (by decide) (by decide) rfl (fun S63 qS63 => ?_)
                      have G_S63 := zz_Gm.put zX_11 G_S61 qS63 9 9 rfl (by decide) (by decide +kernel)
                      have F_S63 := zz_fr.putc F_S61 qS63 (by decide +kernel)
                      refine zz_iinc [some (.ref 1001), some (zi 10)] zd_7_1_34 rfl rfl ?_
                      refine zz_goto zd_7_1_37 ?_
                      refine zz_iload_n (x := 10) rfl zd_7_1_15 ?_
                      refine zz_bipush (by decide) zd_7_1_16 ?_
                      refine zz_icmp_gt (by omega) (by omega) zd_7_1_18 (fun c64 => ?_) (fun c64 => ?_)
                      · exfalso; omega
                      · refine zz_aload_n (x := 1001) rfl zd_7_1_21 ?_
                        have g65 := G_S63 1001 0 (by decide +kernel) (by decide +kernel)
                        refine zz_getr (kd := 0) (z := 1002) zd_7_1_22 zf_Network_11 zT_1001 rfl (by decide) (Int.le_antisymm g65.2 g65.1) (by decide) 1002 rfl ?_
                        refine zz_iload_n (x := 10) rfl zd_7_1_25 ?_
                        refine zz_new (zz_ov [0, 0, 0, 0, 0, 0, 0, 0, 0, 0, 0, 0, 0, 0, 0]) zd_7_1_26 zn_Network_9 zT_1013 rfl (Nat.le_of_ble_eq_true rfl) (Nat.le_of_ble_eq_true rfl) (fun S66 qS66 => ?_)
                        have G_S66 := zz_Gm.nwo G_S63 qS66 (by decide +kernel)
                        have F_S66 := zz_fr.nw F_S63 qS66 (by decide +kernel)
                        refine zz_setn (n1 := 1014) (k1 := 12) (j1 := 177) rfl rfl rfl ?_
                        refine zz_dup rfl zd_7_1_29 ?_
                        refine zz_callN (n1 := 1014) [] zd_7_1_30 zk_Network_15 rfl rfl ⟨Nat.le_of_ble_eq_true rfl, Nat.le_of_ble_eq_true rfl⟩ (Nat.le_of_ble_eq_true rfl) (Nat.le_of_ble_eq_true rfl) (zc_init_4_1_c1013_1014 S66 (zz_Gm.own qS66 (zz_ovG (rs := [((-2147483648), 2147483647), ((-2147483648), 2147483647), ((-2147483648), 2147483647), ((-2147483648), 2147483647), ((-2147483648), 2147483647), ((-2147483648), 2147483647), ((-2147483648), 2147483647), ((-2147483648), 2147483647), (0, 1), ((-2147483648), 2147483647), ((-2147483648), 2147483647), ((-2147483648), 2147483647), ((-2147483648), 2147483647), ((-2147483648), 2147483647), ((-2147483648), 2147483647)]) (fun _ => rfl) rfl (by decide +kernel)))) (fun S67 hP => ?_)
                        obtain ⟨gS67, fS67, o68⟩ := hP
                        have F_S67 := zz_fr.trans F_S66 fS67 (by decide +kernel) zz_nv
                        have G_S67 := zz_Gm.call zX_11 G_S66 fS67 gS67 (by decide +kernel) (by decide +kernel) (by decide +kernel) (by decide +kernel)
                        refine zz_setn (n1 := 1014) (k1 := 12) (j1 := 177) rfl rfl rfl ?_
                        refine zz_aast (kd := 4) 10 zd_7_1_33 zT_1002 rfl (ci := 2) rfl zT_1013 (by decide) (by decide) (by decide) (by decide) (by decide) rfl (fun S69 qS69 => ?_)
                        have G_S69 := zz_Gm.put [(1002, 11), (1001, 1)] G_S67 qS69 10 10 rfl (by decide) (by decide +kernel)
                        have F_S69 := zz_fr.putc F_S67 qS69 (by decide +kernel)
                        refine zz_iinc [some (.ref 1001), some (zi 11)] zd_7_1_34 rfl rfl ?_
                        refine zz_goto zd_7_1_37 ?_
                        refine zz_iload_n (x := 11) rfl zd_7_1_15 ?_
                        refine zz_bipush (by decide) zd_7_1_16 ?_
                        refine zz_icmp_gt (by omega) (by omega) zd_7_1_18 (fun c70 => ?_) (fun c70 => ?_)
                        · exfalso; omega
                        · refine zz_aload_n (x := 1001) rfl zd_7_1_21 ?_
                          have g71 := G_S69 1001 0 (by decide +kernel) (by decide +kernel)
                          refine zz_getr (kd := 0) (z := 1002) zd_7_1_22 zf_Network_11 zT_1001 rfl (by decide) (Int.le_antisymm g71.2 g71.1) (by decide) 1002 rfl ?_
                          refine zz_iload_n (x := 11) rfl zd_7_1_25 ?_
                          refine zz_new (zz_ov [0, 0, 0, 0, 0, 0, 0, 0, 0, 0, 0, 0, 0, 0, 0]) zd_7_1_26 zn_Network_9 zT_1014 rfl (Nat.le_of_ble_eq_true rfl) (Nat.le_of_ble_eq_true rfl) (fun S72 qS72 => ?_)
                          have G_S72 := zz_Gm.nwo G_S69 qS72 (by decide +kernel)
                          have F_S72 := zz_fr.nw F_S69 qS72 (by decide +kernel)
                          refine zz_setn (n1 := 1015) (k1 := 13) (j1 := 192) rfl rfl rfl ?_
                          refine zz_dup rfl zd_7_1_29 ?_
                          refine zz_callN (n1 := 1015) [] zd_7_1_30 zk_Network_15 rfl rfl ⟨Nat.le_of_ble_eq_true rfl, Nat.le_of_ble_eq_true rfl⟩ (Nat.le_of_ble_eq_true rfl) (Nat.le_of_ble_eq_true rfl) (zc_init_4_1_c1014_1015 S72 (zz_Gm.own qS72 (zz_ovG (rs := [((-2147483648), 2147483647), ((-2147483648), 2147483647), ((-2147483648), 2147483647), ((-2147483648), 2147483647), ((-2147483648), 2147483647), ((-2147483648), 2147483647), ((-2147483648), 2147483647), ((-2147483648), 2147483647), (0, 1), ((-2147483648), 2147483647), ((-2147483648), 2147483647), ((-2147483648), 2147483647), ((-2147483648), 2147483647), ((-2147483648), 2147483647), ((-2147483648), 2147483647)]) (fun _ => rfl) rfl (by decide +kernel)))) (fun S73 hP => ?_)
                          obtain ⟨gS73, fS73, o74⟩ := hP
                          have F_S73 := zz_fr.trans F_S72 fS73 (by decide +kernel) zz_nv
                          have G_S73 := zz_Gm.call [(1002, 11), (1001, 1)] G_S72 fS73 gS73 (by decide +kernel) (by decide +kernel) (by decide +kernel) (by decide +kernel)
                          refine zz_setn (n1 := 1015) (k1 := 13) (j1 := 192) rfl rfl rfl ?_
                          refine zz_aast (kd := 4) 11 zd_7_1_33 zT_1002 rfl (ci := 2) rfl zT_1014 (by decide) (by decide) (by decide) (by decide) (by decide) rfl (fun S75 qS75 => ?_)
                          have G_S75 := zz_Gm.put [(1001, 1)] G_S73 qS75 11 11 rfl (by decide) (by decide +kernel)
                          have F_S75 := zz_fr.putc F_S73 qS75 (by decide +kernel)
                          refine zz_iinc [some (.ref 1001), some (zi 12)] zd_7_1_34 rfl rfl ?_
                          refine zz_goto zd_7_1_37 ?_
                          refine zz_iload_n (x := 12) rfl zd_7_1_15 ?_
                          refine zz_bipush (by decide) zd_7_1_16 ?_
                          refine zz_icmp_gt (by omega) (by omega) zd_7_1_18 (fun c76 => ?_) (fun c76 => ?_)
                          · refine zz_aload_n (x := 1001) rfl zd_7_1_40 ?_
                            refine zz_iconst zd_7_1_41 ?_
                            refine zz_puti zd_7_1_42 zf_Network_16 zT_1001 rfl (by decide) (fun S77 qS77 => ?_)
                            have G_S77 := zz_Gm.put [] G_S75 qS77 1 11 rfl (by decide) (by decide +kernel)
                            have F_S77 := zz_fr.putc F_S75 qS77 (by decide +kernel)
                            have e78 : S77 1001 1 = 1 := (zz_rs qS77)
                            have g79 := trivial
                            have e80 : S77 1003 0 = S7 1003 0 := (zz_ro qS77 (fun h => absurd h.1 (by decide)) (zz_ro qS75 (fun h => absurd h.1 (by decide)) (zz_rc fS73 rfl rfl (fun h => h) (zz_nwo qS72 (by decide) (zz_ro qS69 (fun h => absurd h.1 (by decide)) (zz_rc fS67 rfl rfl (fun h => h) (zz_nwo qS66 (by decide) (zz_ro qS63 (fun h => absurd h.1 (by decide)) (zz_rc fS61 rfl rfl (fun h => h) (zz_nwo qS60 (by decide) (zz_ro qS57 (fun h => absurd h.1 (by decide)) (zz_rc fS55 rfl rfl (fun h => h) (zz_nwo qS54 (by decide) (zz_ro qS51 (fun h => absurd h.1 (by decide)) (zz_rc fS49 rfl rfl (fun h => h) (zz_nwo qS48 (by decide) (zz_ro qS45 (fun h => absurd h.1 (by decide)) (zz_rc fS43 rfl rfl (fun h => h) (zz_nwo qS42 (by decide) (zz_ro qS39 (fun h => absurd h.1 (by decide)) (zz_rc fS37 rfl rfl (fun h => h) (zz_nwo qS36 (by decide) (zz_ro qS33 (fun h => absurd h.1 (by decide)) (zz_rc fS31 rfl rfl (fun h => h) (zz_nwo qS30 (by decide) (zz_ro qS27 (fun h => absurd h.1 (by decide)) (zz_rc fS25 rfl rfl (fun h => h) (zz_nwo qS24 (by decide) (zz_ro qS21 (fun h => absurd h.1 (by decide)) (zz_rc fS19 rfl rfl (fun h => h) (zz_nwo qS18 (by decide) (zz_ro qS15 (fun h => absurd h.1 (by decide)) (zz_rc fS13 rfl rfl (fun h => h) (zz_nwo qS12 (by decide) (zz_ro qS9 (fun h => absurd h.1 (by decide)) rfl)))))))))))))))))))))))))))))))))))
                            have g81 := trivial
                            have e82 : S77 1003 12 = S7 1003 12 := (zz_ro qS77 (fun h => absurd h.1 (by decide)) (zz_ro qS75 (fun h => absurd h.1 (by decide)) (zz_rc fS73 rfl rfl (fun h => h) (zz_nwo qS72 (by decide) (zz_ro qS69 (fun h => absurd h.1 (by decide)) (zz_rc fS67 rfl rfl (fun h => h) (zz_nwo qS66 (by decide) (zz_ro qS63 (fun h => absurd h.1 (by decide)) (zz_rc fS61 rfl rfl (fun h => h) (zz_nwo qS60 (by decide) (zz_ro qS57 (fun h => absurd h.1 (by decide)) (zz_rc fS55 rfl rfl (fun h => h) (zz_nwo qS54 (by decide) (zz_ro qS51 (fun h => absurd h.1 (by decide)) (zz_rc fS49 rfl rfl (fun h => h) (zz_nwo qS48 (by decide) (zz_ro qS45 (fun h => absurd h.1 (by decide)) (zz_rc fS43 rfl rfl (fun h => h) (zz_nwo qS42 (by decide) (zz_ro qS39 (fun h => absurd h.1 (by decide)) (zz_rc fS37 rfl rfl (fun h => h) (zz_nwo qS36 (by decide) (zz_ro qS33 (fun h => absurd h.1 (by decide)) (zz_rc fS31 rfl rfl (fun h => h) (zz_nwo qS30 (by decide) (zz_ro qS27 (fun h => absurd h.1 (by decide)) (zz_rc fS25 rfl rfl (fun h => h) (zz_nwo qS24 (by decide) (zz_ro qS21 (fun h => absurd h.1 (by decide)) (zz_rc fS19 rfl rfl (fun h => h) (zz_nwo qS18 (by decide) (zz_ro qS15 (fun h => absurd h.1 (by decide)) (zz_rc fS13 rfl rfl (fun h => h) (zz_nwo qS12 (by decide) (zz_ro qS9 (fun h => absurd h.1 (by decide)) rfl)))))))))))))))))))))))))))))))))))
                            have g83 := trivial
                            have e84 : S77 1003 3 = S7 1003 3 := (zz_ro qS77 (fun h => absurd h.1 (by decide)) (zz_ro qS75 (fun h => absurd h.1 (by decide)) (zz_rc fS73 rfl rfl (fun h => h) (zz_nwo qS72 (by decide) (zz_ro qS69 (fun h => absurd h.1 (by decide)) (zz_rc fS67 rfl rfl (fun h => h) (zz_nwo qS66 (by decide) (zz_ro qS63 (fun h => absurd h.1 (by decide)) (zz_rc fS61 rfl rfl (fun h => h) (zz_nwo qS60 (by decide) (zz_ro qS57 (fun h => absurd h.1 (by decide)) (zz_rc fS55 rfl rfl (fun h => h) (zz_nwo qS54 (by decide) (zz_ro qS51 (fun h => absurd h.1 (by decide)) (zz_rc fS49 rfl rfl (fun h => h) (zz_nwo qS48 (by decide) (zz_ro qS45 (fun h => absurd h.1 (by decide)) (zz_rc fS43 rfl rfl (fun h => h) (zz_nwo qS42 (by decide) (zz_ro qS39 (fun h => absurd h.1 (by decide)) (zz_rc fS37 rfl rfl (fun h => h) (zz_nwo qS36 (by decide) (zz_ro qS33 (fun h => absurd h.1 (by decide)) (zz_rc fS31 rfl rfl (fun h => h) (zz_nwo qS30 (by decide) (zz_ro qS27 (fun h => absurd h.1 (by decide)) (zz_rc fS25 rfl rfl (fun h => h) (zz_nwo qS24 (by decide) (zz_ro qS21 (fun h => absurd h.1 (by decide)) (zz_rc fS19 rfl rfl (fun h => h) (zz_nwo qS18 (by decide) (zz_ro qS15 (fun h => absurd h.1 (by decide)) (zz_rc fS13 rfl rfl (fun h => h) (zz_nwo qS12 (by decide) (zz_ro qS9 (fun h => absurd h.1 (by decide)) rfl)))))))))))))))))))))))))))))))))))
                            have g85 := trivial
                            have e86 : S77 1003 4 = S7 1003 4 := (zz_ro qS77 (fun h => absurd h.1 (by decide)) (zz_ro qS75 (fun h => absurd h.1 (by decide)) (zz_rc fS73 rfl rfl (fun h => h) (zz_nwo qS72 (by decide) (zz_ro qS69 (fun h => absurd h.1 (by decide)) (zz_rc fS67 rfl rfl (fun h => h) (zz_nwo qS66 (by decide) (zz_ro qS63 (fun h => absurd h.1 (by decide)) (zz_rc fS61 rfl rfl (fun h => h) (zz_nwo qS60 (by decide) (zz_ro qS57 (fun h => absurd h.1 (by decide)) (zz_rc fS55 rfl rfl (fun h => h) (zz_nwo qS54 (by decide) (zz_ro qS51 (fun h => absurd h.1 (by decide)) (zz_rc fS49 rfl rfl (fun h => h) (zz_nwo qS48 (by decide) (zz_ro qS45 (fun h => absurd h.1 (by decide)) (zz_rc fS43 rfl rfl (fun h => h) (zz_nwo qS42 (by decide) (zz_ro qS39 (fun h => absurd h.1 (by decide)) (zz_rc fS37 rfl rfl (fun h => h) (zz_nwo qS36 (by decide) (zz_ro qS33 (fun h => absurd h.1 (by decide)) (zz_rc fS31 rfl rfl (fun h => h) (zz_nwo qS30 (by decide) (zz_ro qS27 (fun h => absurd h.1 (by decide)) (zz_rc fS25 rfl rfl (fun h => h) (zz_nwo qS24 (by decide) (zz_ro qS21 (fun h => absurd h.1 (by decide)) (zz_rc fS19 rfl rfl (fun h => h) (zz_nwo qS18 (by decide) (zz_ro qS15 (fun h => absurd h.1 (by decide)) (zz_rc fS13 rfl rfl (fun h => h) (zz_nwo qS12 (by decide) (zz_ro qS9 (fun h => absurd h.1 (by decide)) rfl)))))))))))))))))))))))))))))))))))
                            have g87 := trivial
                            have e88 : S77 1003 1 = S7 1003 1 := (zz_ro qS77 (fun h => absurd h.1 (by decide)) (zz_ro qS75 (fun h => absurd h.1 (by decide)) (zz_rc fS73 rfl rfl (fun h => h) (zz_nwo qS72 (by decide) (zz_ro qS69 (fun h => absurd h.1 (by decide)) (zz_rc fS67 rfl rfl (fun h => h) (zz_nwo qS66 (by decide) (zz_ro qS63 (fun h => absurd h.1 (by decide)) (zz_rc fS61 rfl rfl (fun h => h) (zz_nwo qS60 (by decide) (zz_ro qS57 (fun h => absurd h.1 (by decide)) (zz_rc fS55 rfl rfl (fun h => h) (zz_nwo qS54 (by decide) (zz_ro qS51 (fun h => absurd h.1 (by decide)) (zz_rc fS49 rfl rfl (fun h => h) (zz_nwo qS48 (by decide) (zz_ro qS45 (fun h => absurd h.1 (by decide)) (zz_rc fS43 rfl rfl (fun h => h) (zz_nwo qS42 (by decide) (zz_ro qS39 (fun h => absurd h.1 (by decide)) (zz_rc fS37 rfl rfl (fun h => h) (zz_nwo qS36 (by decide) (zz_ro qS33 (fun h => absurd h.1 (by decide)) (zz_rc fS31 rfl rfl (fun h => h) (zz_nwo qS30 (by decide) (zz_ro qS27 (fun h => absurd h.1 (by decide)) (zz_rc fS25 rfl rfl (fun h => h) (zz_nwo qS24 (by decide) (zz_ro qS21 (fun h => absurd h.1 (by decide)) (zz_rc fS19 rfl rfl (fun h => h) (zz_nwo qS18 (by decide) (zz_ro qS15 (fun h => absurd h.1 (by decide)) (zz_rc fS13 rfl rfl (fun h => h) (zz_nwo qS12 (by decide) (zz_ro qS9 (fun h => absurd h.1 (by decide)) rfl)))))))))))))))))))))))))))))))))))
                            have g89 := trivial
                            have e90 : S77 1003 10 = S7 1003 10 := (zz_ro qS77 (fun h => absurd h.1 (by decide)) (zz_ro qS75 (fun h => absurd h.1 (by decide)) (zz_rc fS73 rfl rfl (fun h => h) (zz_nwo qS72 (by decide) (zz_ro qS69 (fun h => absurd h.1 (by decide)) (zz_rc fS67 rfl rfl (fun h => h) (zz_nwo qS66 (by decide) (zz_ro qS63 (fun h => absurd h.1 (by decide)) (zz_rc fS61 rfl rfl (fun h => h) (zz_nwo qS60 (by decide) (zz_ro qS57 (fun h => absurd h.1 (by decide)) (zz_rc fS55 rfl rfl (fun h => h) (zz_nwo qS54 (by decide) (zz_ro qS51 (fun h => absurd h.1 (by decide)) (zz_rc fS49 rfl rfl (fun h => h) (zz_nwo qS48 (by decide) (zz_ro qS45 (fun h => absurd h.1 (by decide)) (zz_rc fS43 rfl rfl (fun h => h) (zz_nwo qS42 (by decide) (zz_ro qS39 (fun h => absurd h.1 (by decide)) (zz_rc fS37 rfl rfl (fun h => h) (zz_nwo qS36 (by decide) (zz_ro qS33 (fun h => absurd h.1 (by decide)) (zz_rc fS31 rfl rfl (fun h => h) (zz_nwo qS30 (by decide) (zz_ro qS27 (fun h => absurd h.1 (by decide)) (zz_rc fS25 rfl rfl (fun h => h) (zz_nwo qS24 (by decide) (zz_ro qS21 (fun h => absurd h.1 (by decide)) (zz_rc fS19 rfl rfl (fun h => h) (zz_nwo qS18 (by decide) (zz_ro qS15 (fun h => absurd h.1 (by decide)) (zz_rc fS13 rfl rfl (fun h => h) (zz_nwo qS12 (by decide) (zz_ro qS9 (fun h => absurd h.1 (by decide)) rfl)))))))))))))))))))))))))))))))))))
                            have g91 := trivial
                            have e92 : S77 1003 11 = S7 1003 11 := (zz_ro qS77 (fun h => absurd h.1 (by decide)) (zz_ro qS75 (fun h => absurd h.1 (by decide)) (zz_rc fS73 rfl rfl (fun h => h) (zz_nwo qS72 (by decide) (zz_ro qS69 (fun h => absurd h.1 (by decide)) (zz_rc fS67 rfl rfl (fun h => h) (zz_nwo qS66 (by decide) (zz_ro qS63 (fun h => absurd h.1 (by decide)) (zz_rc fS61 rfl rfl (fun h => h) (zz_nwo qS60 (by decide) (zz_ro qS57 (fun h => absurd h.1 (by decide)) (zz_rc fS55 rfl rfl (fun h => h) (zz_nwo qS54 (by decide) (zz_ro qS51 (fun h => absurd h.1 (by decide)) (zz_rc fS49 rfl rfl (fun h => h) (zz_nwo qS48 (by decide) (zz_ro qS45 (fun h => absurd h.1 (by decide)) (zz_rc fS43 rfl rfl (fun h => h) (zz_nwo qS42 (by decide) (zz_ro qS39 (fun h => absurd h.1 (by decide)) (zz_rc fS37 rfl rfl (fun h => h) (zz_nwo qS36 (by decide) (zz_ro qS33 (fun h => absurd h.1 (by decide)) (zz_rc fS31 rfl rfl (fun h => h) (zz_nwo qS30 (by decide) (zz_ro qS27 (fun h => absurd h.1 (by decide)) (zz_rc fS25 rfl rfl (fun h => h) (zz_nwo qS24 (by decide) (zz_ro qS21 (fun h => absurd h.1 (by decide)) (zz_rc fS19 rfl rfl (fun h => h) (zz_nwo qS18 (by decide) (zz_ro qS15 (fun h => absurd h.1 (by decide)) (zz_rc fS13 rfl rfl (fun h => h) (zz_nwo qS12 (by decide) (zz_ro qS9 (fun h => absurd h.1 (by decide)) rfl)))))))))))))))))))))))))))))))))))
                            have g93 := trivial
                            have e94 : S77 1003 13 = S7 1003 13 := (zz_ro qS77 (fun h => absurd h.1 (by decide)) (zz_ro qS75 (fun h => absurd h.1 (by decide)) (zz_rc fS73 rfl rfl (fun h => h) (zz_nwo qS72 (by decide) (zz_ro qS69 (fun h => absurd h.1 (by decide)) (zz_rc fS67 rfl rfl (fun h => h) (zz_nwo qS66 (by decide) (zz_ro qS63 (fun h => absurd h.1 (by decide)) (zz_rc fS61 rfl rfl (fun h => h) (zz_nwo qS60 (by decide) (zz_ro qS57 (fun h => absurd h.1 (by decide)) (zz_rc fS55 rfl rfl (fun h => h) (zz_nwo qS54 (by decide) (zz_ro qS51 (fun h => absurd h.1 (by decide)) (zz_rc fS49 rfl rfl (fun h => h) (zz_nwo qS48 (by decide) (zz_ro qS45 (fun h => absurd h.1 (by decide)) (zz_rc fS43 rfl rfl (fun h => h) (zz_nwo qS42 (by decide) (zz_ro qS39 (fun h => absurd h.1 (by decide)) (zz_rc fS37 rfl rfl (fun h => h) (zz_nwo qS36 (by decide) (zz_ro qS33 (fun h => absurd h.1 (by decide)) (zz_rc fS31 rfl rfl (fun h => h) (zz_nwo qS30 (by decide) (zz_ro qS27 (fun h => absurd h.1 (by decide)) (zz_rc fS25 rfl rfl (fun h => h) (zz_nwo qS24 (by decide) (zz_ro qS21 (fun h => absurd h.1 (by decide)) (zz_rc fS19 rfl rfl (fun h => h) (zz_nwo qS18 (by decide) (zz_ro qS15 (fun h => absurd h.1 (by decide)) (zz_rc fS13 rfl rfl (fun h => h) (zz_nwo qS12 (by decide) (zz_ro qS9 (fun h => absurd h.1 (by decide)) rfl)))))))))))))))))))))))))))))))))))
                            have g95 := trivial
                            have e96 : S77 1003 2 = S7 1003 2 := (zz_ro qS77 (fun h => absurd h.1 (by decide)) (zz_ro qS75 (fun h => absurd h.1 (by decide)) (zz_rc fS73 rfl rfl (fun h => h) (zz_nwo qS72 (by decide) (zz_ro qS69 (fun h => absurd h.1 (by decide)) (zz_rc fS67 rfl rfl (fun h => h) (zz_nwo qS66 (by decide) (zz_ro qS63 (fun h => absurd h.1 (by decide)) (zz_rc fS61 rfl rfl (fun h => h) (zz_nwo qS60 (by decide) (zz_ro qS57 (fun h => absurd h.1 (by decide)) (zz_rc fS55 rfl rfl (fun h => h) (zz_nwo qS54 (by decide) (zz_ro qS51 (fun h => absurd h.1 (by decide)) (zz_rc fS49 rfl rfl (fun h => h) (zz_nwo qS48 (by decide) (zz_ro qS45 (fun h => absurd h.1 (by decide)) (zz_rc fS43 rfl rfl (fun h => h) (zz_nwo qS42 (by decide) (zz_ro qS39 (fun h => absurd h.1 (by decide)) (zz_rc fS37 rfl rfl (fun h => h) (zz_nwo qS36 (by decide) (zz_ro qS33 (fun h => absurd h.1 (by decide)) (zz_rc fS31 rfl rfl (fun h => h) (zz_nwo qS30 (by decide) (zz_ro qS27 (fun h => absurd h.1 (by decide)) (zz_rc fS25 rfl rfl (fun h => h) (zz_nwo qS24 (by decide) (zz_ro qS21 (fun h => absurd h.1 (by decide)) (zz_rc fS19 rfl rfl (fun h => h) (zz_nwo qS18 (by decide) (zz_ro qS15 (fun h => absurd h.1 (by decide)) (zz_rc fS13 rfl rfl (fun h => h) (zz_nwo qS12 (by decide) (zz_ro qS9 (fun h => absurd h.1 (by decide)) rfl)))))))))))))))))))))))))))))))))))
                            have g97 := trivial
                            have e98 : S77 1003 5 = S7 1003 5 := (zz_ro qS77 (fun h => absurd h.1 (by decide)) (zz_ro qS75 (fun h => absurd h.1 (by decide)) (zz_rc fS73 rfl rfl (fun h => h) (zz_nwo qS72 (by decide) (zz_ro qS69 (fun h => absurd h.1 (by decide)) (zz_rc fS67 rfl rfl (fun h => h) (zz_nwo qS66 (by decide) (zz_ro qS63 (fun h => absurd h.1 (by decide)) (zz_rc fS61 rfl rfl (fun h => h) (zz_nwo qS60 (by decide) (zz_ro qS57 (fun h => absurd h.1 (by decide)) (zz_rc fS55 rfl rfl (fun h => h) (zz_nwo qS54 (by decide) (zz_ro qS51 (fun h => absurd h.1 (by decide)) (zz_rc fS49 rfl rfl (fun h => h) (zz_nwo qS48 (by decide) (zz_ro qS45 (fun h => absurd h.1 (by decide)) (zz_rc fS43 rfl rfl (fun h => h) (zz_nwo qS42 (by decide) (zz_ro qS39 (fun h => absurd h.1 (by decide)) (zz_rc fS37 rfl rfl (fun h => h) (zz_nwo qS36 (by decide) (zz_ro qS33 (fun h => absurd h.1 (by decide)) (zz_rc fS31 rfl rfl (fun h => h) (zz_nwo qS30 (by decide) (zz_ro qS27 (fun h => absurd h.1 (by decide)) (zz_rc fS25 rfl rfl (fun h => h) (zz_nwo qS24 (by decide) (zz_ro qS21 (fun h => absurd h.1 (by decide)) (zz_rc fS19 rfl rfl (fun h => h) (zz_nwo qS18 (by decide) (zz_ro qS15 (fun h => absurd h.1 (by decide)) (zz_rc fS13 rfl rfl (fun h => h) (zz_nwo qS12 (by decide) (zz_ro qS9 (fun h => absurd h.1 (by decide)) rfl)))))))))))))))))))))))))))))))))))
                            have g99 := trivial
                            have e100 : S77 1003 6 = S7 1003 6 := (zz_ro qS77 (fun h => absurd h.1 (by decide)) (zz_ro qS75 (fun h => absurd h.1 (by decide)) (zz_rc fS73 rfl rfl (fun h => h) (zz_nwo qS72 (by decide) (zz_ro qS69 (fun h => absurd h.1 (by decide)) (zz_rc fS67 rfl rfl (fun h => h) (zz_nwo qS66 (by decide) (zz_ro qS63 (fun h => absurd h.1 (by decide)) (zz_rc fS61 rfl rfl (fun h => h) (zz_nwo qS60 (by decide) (zz_ro qS57 (fun h => absurd h.1 (by decide)) (zz_rc fS55 rfl rfl (fun h => h) (zz_nwo qS54 (by decide) (zz_ro qS51 (fun h => absurd h.1 (by decide)) (zz_rc fS49 rfl rfl (fun h => h) (zz_nwo qS48 (by decide) (zz_ro qS45 (fun h => absurd h.1 (by decide)) (zz_rc fS43 rfl rfl (fun h => h) (zz_nwo qS42 (by decide) (zz_ro qS39 (fun h => absurd h.1 (by decide)) (zz_rc fS37 rfl rfl (fun h => h) (zz_nwo qS36 (by decide) (zz_ro qS33 (fun h => absurd h.1 (by decide)) (zz_rc fS31 rfl rfl (fun h => h) (zz_nwo qS30 (by decide) (zz_ro qS27 (fun h => absurd h.1 (by decide)) (zz_rc fS25 rfl rfl (fun h => h) (zz_nwo qS24 (by decide) (zz_ro qS21 (fun h => absurd h.1 (by decide)) (zz_rc fS19 rfl rfl (fun h => h) (zz_nwo qS18 (by decide) (zz_ro qS15 (fun h => absurd h.1 (by decide)) (zz_rc fS13 rfl rfl (fun h => h) (zz_nwo qS12 (by decide) (zz_ro qS9 (fun h => absurd h.1 (by decide)) rfl)))))))))))))))))))))))))))))))))))
                            have g101 := trivial
                            have e102 : S77 1003 7 = S7 1003 7 := (zz_ro qS77 (fun h => absurd h.1 (by decide)) (zz_ro qS75 (fun h => absurd h.1 (by decide)) (zz_rc fS73 rfl rfl (fun h => h) (zz_nwo qS72 (by decide) (zz_ro qS69 (fun h => absurd h.1 (by decide)) (zz_rc fS67 rfl rfl (fun h => h) (zz_nwo qS66 (by decide) (zz_ro qS63 (fun h => absurd h.1 (by decide)) (zz_rc fS61 rfl rfl (fun h => h) (zz_nwo qS60 (by decide) (zz_ro qS57 (fun h => absurd h.1 (by decide)) (zz_rc fS55 rfl rfl (fun h => h) (zz_nwo qS54 (by decide) (zz_ro qS51 (fun h => absurd h.1 (by decide)) (zz_rc fS49 rfl rfl (fun h => h) (zz_nwo qS48 (by decide) (zz_ro qS45 (fun h => absurd h.1 (by decide)) (zz_rc fS43 rfl rfl (fun h => h) (zz_nwo qS42 (by decide) (zz_ro qS39 (fun h => absurd h.1 (by decide)) (zz_rc fS37 rfl rfl (fun h => h) (zz_nwo qS36 (by decide) (zz_ro qS33 (fun h => absurd h.1 (by decide)) (zz_rc fS31 rfl rfl (fun h => h) (zz_nwo qS30 (by decide) (zz_ro qS27 (fun h => absurd h.1 (by decide)) (zz_rc fS25 rfl rfl (fun h => h) (zz_nwo qS24 (by decide) (zz_ro qS21 (fun h => absurd h.1 (by decide)) (zz_rc fS19 rfl rfl (fun h => h) (zz_nwo qS18 (by decide) (zz_ro qS15 (fun h => absurd h.1 (by decide)) (zz_rc fS13 rfl rfl (fun h => h) (zz_nwo qS12 (by decide) (zz_ro qS9 (fun h => absurd h.1 (by decide)) rfl)))))))))))))))))))))))))))))))))))
                            have g103 := trivial
                            have e104 : S77 1003 8 = S7 1003 8 := (zz_ro qS77 (fun h => absurd h.1 (by decide)) (zz_ro qS75 (fun h => absurd h.1 (by decide)) (zz_rc fS73 rfl rfl (fun h => h) (zz_nwo qS72 (by decide) (zz_ro qS69 (fun h => absurd h.1 (by decide)) (zz_rc fS67 rfl rfl (fun h => h) (zz_nwo qS66 (by decide) (zz_ro qS63 (fun h => absurd h.1 (by decide)) (zz_rc fS61 rfl rfl (fun h => h) (zz_nwo qS60 (by decide) (zz_ro qS57 (fun h => absurd h.1 (by decide)) (zz_rc fS55 rfl rfl (fun h => h) (zz_nwo qS54 (by decide) (zz_ro qS51 (fun h => absurd h.1 (by decide)) (zz_rc fS49 rfl rfl (fun h => h) (zz_nwo qS48 (by decide) (zz_ro qS45 (fun h => absurd h.1 (by decide)) (zz_rc fS43 rfl rfl (fun h => h) (zz_nwo qS42 (by decide) (zz_ro qS39 (fun h => absurd h.1 (by decide)) (zz_rc fS37 rfl rfl (fun h => h) (zz_nwo qS36 (by decide) (zz_ro qS33 (fun h => absurd h.1 (by decide)) (zz_rc fS31 rfl rfl (fun h => h) (zz_nwo qS30 (by decide) (zz_ro qS27 (fun h => absurd h.1 (by decide)) (zz_rc fS25 rfl rfl (fun h => h) (zz_nwo qS24 (by decide) (zz_ro qS21 (fun h => absurd h.1 (by decide)) (zz_rc fS19 rfl rfl (fun h => h) (zz_nwo qS18 (by decide) (zz_ro qS15 (fun h => absurd h.1 (by decide)) (zz_rc fS13 rfl rfl (fun h => h) (zz_nwo qS12 (by decide) (zz_ro qS9 (fun h => absurd h.1 (by decide)) rfl)))))))))))))))))))))))))))))))))))
                            have g105 := trivial
                            have e106 : S77 1003 9 = S7 1003 9 := (zz_ro qS77 (fun h => absurd h.1 (by decide)) (zz_ro qS75 (fun h => absurd h.1 (by decide)) (zz_rc fS73 rfl rfl (fun h => h) (zz_nwo qS72 (by decide) (zz_ro qS69 (fun h => absurd h.1 (by decide)) (zz_rc fS67 rfl rfl (fun h => h) (zz_nwo qS66 (by decide) (zz_ro qS63 (fun h => absurd h.1 (by decide)) (zz_rc fS61 rfl rfl (fun h => h) (zz_nwo qS60 (by decide) (zz_ro qS57 (fun h => absurd h.1 (by decide)) (zz_rc fS55 rfl rfl (fun h => h) (zz_nwo qS54 (by decide) (zz_ro qS51 (fun h => absurd h.1 (by decide)) (zz_rc fS49 rfl rfl (fun h => h) (zz_nwo qS48 (by decide) (zz_ro qS45 (fun h => absurd h.1 (by decide)) (zz_rc fS43 rfl rfl (fun h => h) (zz_nwo qS42 (by decide) (zz_ro qS39 (fun h => absurd h.1 (by decide)) (zz_rc fS37 rfl rfl (fun h => h) (zz_nwo qS36 (by decide) (zz_ro qS33 (fun h => absurd h.1 (by decide)) (zz_rc fS31 rfl rfl (fun h => h) (zz_nwo qS30 (by decide) (zz_ro qS27 (fun h => absurd h.1 (by decide)) (zz_rc fS25 rfl rfl (fun h => h) (zz_nwo qS24 (by decide) (zz_ro qS21 (fun h => absurd h.1 (by decide)) (zz_rc fS19 rfl rfl (fun h => h) (zz_nwo qS18 (by decide) (zz_ro qS15 (fun h => absurd h.1 (by decide)) (zz_rc fS13 rfl rfl (fun h => h) (zz_nwo qS12 (by decide) (zz_ro qS9 (fun h => absurd h.1 (by decide)) rfl)))))))))))))))))))))))))))))))))))
                            exact zz_vret zd_7_1_45 rfl (Nat.le_of_ble_eq_true rfl) (Nat.le_of_ble_eq_true rfl) ⟨_, rfl, G_S77, F_S77, by omega, by omega⟩
                          · exfalso; omega
def zX_12 : List (Nat × Nat) := [(1000, 0), (1000, 1), (1000, 2), (1000, 3), (1000, 4), (1000, 5), (1000, 6), (1000, 7), (1000, 8), (1000, 9), (1000, 10)]
theorem zf_TF_10 : mm_Fl "TensorForge" 10 0 7 (.object "TensorForge$Network") false := ⟨R_TF, F_TF, 12, t_TF, rfl, i_TF, by decide, mm_tb_1 447 (by decide +kernel) rfl, rfl, t_TF_ok, n_TF, rfl, by decide +kernel⟩
def zX_13 : List (Nat × Nat) := [(1000, 0), (1000, 1), (1000, 2), (1000, 3), (1000, 4), (1000, 5), (1000, 6), (1000, 8), (1000, 9), (1000, 10)]
def zX_14 : List (Nat × Nat) := [(1016, 0), (1016, 1), (1016, 2), (1016, 3), (1016, 4), (1016, 5), (1016, 6), (1016, 7), (1016, 8), (1016, 9), (1016, 10), (1016, 11), (1015, 0), (1015, 1)]
def zX_15 : List (Nat × Nat) := [(1016, 0), (1016, 1), (1016, 2), (1016, 3), (1016, 4), (1016, 5), (1016, 6), (1016, 7), (1016, 8), (1016, 9), (1016, 10), (1016, 11), (1015, 1)]
theorem zg_1_1_12 : zq_at zy_init_1_1.2.1 12 181 ∧ zq_at zy_init_1_1.2.1 13 0 ∧ zq_at zy_init_1_1.2.1 14 10 ∧ zq_at zy_init_1_1.2.1 15 42 ∧ zq_at zy_init_1_1.2.1 16 187 ∧ zq_at zy_init_1_1.2.1 17 0 ∧ zq_at zy_init_1_1.2.1 18 7 ∧ zq_at zy_init_1_1.2.1 19 89 ∧ zq_at zy_init_1_1.2.1 20 183 ∧ zq_at zy_init_1_1.2.1 21 0 ∧ zq_at zy_init_1_1.2.1 22 9 := by decide +kernel
theorem zd_1_1_12 : zz_D zy_init_1_1 12 (.putfield 10) 3 15 := ⟨zq_181 zg_1_1_12.1 zg_1_1_12.2.1 zg_1_1_12.2.2.1 rfl, rfl⟩
theorem zd_1_1_15 : zz_D zy_init_1_1 15 (.aload_n 0) 1 16 := ⟨zq_42 zg_1_1_12.2.2.2.1, rfl⟩
theorem zd_1_1_16 : zz_D zy_init_1_1 16 (.new 7) 3 19 := ⟨zq_187 zg_1_1_12.2.2.2.2.1 zg_1_1_12.2.2.2.2.2.1 zg_1_1_12.2.2.2.2.2.2.1 rfl, rfl⟩
theorem zd_1_1_19 : zz_D zy_init_1_1 19 (.dup) 1 20 := ⟨zq_89 zg_1_1_12.2.2.2.2.2.2.2.1, rfl⟩
theorem zd_1_1_20 : zz_D zy_init_1_1 20 (.invokespecial 9) 3 23 := ⟨zq_183 zg_1_1_12.2.2.2.2.2.2.2.2.1 zg_1_1_12.2.2.2.2.2.2.2.2.2.1 zg_1_1_12.2.2.2.2.2.2.2.2.2.2 rfl, rfl⟩
-- TensorForge$Layer takeForm (III)V at 1017, 1018
abbrev zr_takeForm_4_3_c1017_1018 : Room := { frames := 0, cells := 0, slots := 0, locals := 0 }
def zp_takeForm_4_3_c1017_1018 (S0 : zz_S) : zz_S → Prop := fun S => zz_Gm [1017] [] S ∧ zz_fr [(1017, 10), (1017, 11), (1017, 12)] [] (fun _ _ => False) S0 S ∧ (S 1017 12 = 1)
theorem zc_takeForm_4_3_c1017_1018 {g : mm_G} {l : Launch} (S0 : zz_S) (G_S0 : zz_Gm [1017] [] S0) : mm_Met g l zy_takeForm_4_3 zr_takeForm_4_3_c1017_1018 [.ref 1017, zi 1, zi 1, zi 1] (zz_M S0 1018) 1018 (zz_QV 1018 (zp_takeForm_4_3_c1017_1018 S0)) := by
  refine zz_enter (by decide) (Nat.le_of_ble_eq_true rfl) (zz_less (ls1 := [some (.ref 1017), some (zi 1), some (zi 1), some (zi 1)]) ⟨rfl, ⟨rfl, ⟨rfl, ⟨rfl, trivial⟩⟩⟩⟩ ?_)
  have F_S0 : zz_fr [(1017, 10), (1017, 11), (1017, 12)] [] (fun _ _ => False) S0 S0 := zz_fr.refl
  refine zz_aload_n (x := 1017) rfl zd_4_3_0 ?_
  refine zz_iload_n (x := 1) rfl zd_4_3_1 ?_
  refine zz_puti zd_4_3_2 zf_Layer_54 zT_1017 rfl (by decide) (fun S1 qS1 => ?_)
  have G_S1 := zz_Gm.put [] G_S0 qS1 (-2147483648) 2147483647 rfl (by decide) (by decide +kernel)
  have F_S1 := zz_fr.puts F_S0 qS1 (by decide +kernel)
  refine zz_aload_n (x := 1017) rfl zd_4_3_5 ?_
  refine zz_iload_n (x := 1) rfl zd_4_3_6 ?_
  refine zz_puti zd_4_3_7 zf_Layer_57 zT_1017 rfl (by decide) (fun S2 qS2 => ?_)
  have G_S2 := zz_Gm.put [] G_S1 qS2 (-2147483648) 2147483647 rfl (by decide) (by decide +kernel)
  have F_S2 := zz_fr.puts F_S1 qS2 (by decide +kernel)
  refine zz_aload_n (x := 1017) rfl zd_4_3_10 ?_
  refine zz_iload_n (x := 1) rfl zd_4_3_11 ?_
  refine zz_puti zd_4_3_12 zf_Layer_60 zT_1017 rfl (by decide) (fun S3 qS3 => ?_)
  have G_S3 := zz_Gm.put [] G_S2 qS3 (-2147483648) 2147483647 rfl (by decide) (by decide +kernel)
  have F_S3 := zz_fr.puts F_S2 qS3 (by decide +kernel)
  have e4 : S3 1017 12 = 1 := (zz_rs qS3)
  exact zz_vret zd_4_3_15 rfl (Nat.le_of_ble_eq_true rfl) (Nat.le_of_ble_eq_true rfl) ⟨_, rfl, G_S3, F_S3, by omega⟩
-- TensorForge$Layer reset (III)V at 1017, 1018
abbrev zr_reset_4_2_c1017_1018 : Room := { frames := 1, cells := 0, slots := 0, locals := 15 }
def zp_reset_4_2_c1017_1018 (S0 : zz_S) : zz_S → Prop := fun S => zz_Gm [1017, 1017] [] S ∧ zz_fr [(1017, 0), (1017, 1), (1017, 2), (1017, 3), (1017, 4), (1017, 5), (1017, 6), (1017, 7), (1017, 8), (1017, 9), (1017, 10), (1017, 11), (1017, 12), (1017, 13), (1017, 14)] [] (fun _ _ => False) S0 S ∧ (S 1017 0 = 0 ∧ S 1017 3 = 1 ∧ S 1017 4 = 1 ∧ S 1017 12 = 1)
theorem zc_reset_4_2_c1017_1018 {g : mm_G} {l : Launch} (S0 : zz_S) (G_S0 : zz_Gm [1017] [] S0) : mm_Met g l zy_reset_4_2 zr_reset_4_2_c1017_1018 [.ref 1017, zi 0, zi 0, zi 0] (zz_M S0 1018) 1018 (zz_QV 1018 (zp_reset_4_2_c1017_1018 S0)) := by
  refine zz_enter (by decide) (Nat.le_of_ble_eq_true rfl) (zz_less (ls1 := [some (.ref 1017), some (zi 0), some (zi 0), some (zi 0)]) ⟨rfl, ⟨rfl, ⟨rfl, ⟨rfl, trivial⟩⟩⟩⟩ ?_)
  have F_S0 : zz_fr [(1017, 0), (1017, 1), (1017, 2), (1017, 3), (1017, 4), (1017, 5), (1017, 6), (1017, 7), (1017, 8), (1017, 9), (1017, 10), (1017, 11), (1017, 12), (1017, 13), (1017, 14)] [] (fun _ _ => False) S0 S0 := zz_fr.refl
  refine zz_aload_n (x := 1017) rfl zd_4_2_0 ?_
  refine zz_iload_n (x := 0) rfl zd_4_2_1 ?_
  refine zz_puti zd_4_2_2 zf_Layer_13 zT_1017 rfl (by decide) (fun S1 qS1 => ?_)
  have G_S1 := zz_Gm.put [] G_S0 qS1 (-2147483648) 2147483647 rfl (by decide) (by decide +kernel)
  have F_S1 := zz_fr.puts F_S0 qS1 (by decide +kernel)
  refine zz_aload_n (x := 1017) rfl zd_4_2_5 ?_
  refine zz_iload_n (x := 0) rfl zd_4_2_6 ?_
  refine zz_puti zd_4_2_7 zf_Layer_17 zT_1017 rfl (by decide) (fun S2 qS2 => ?_)
  have G_S2 := zz_Gm.put [] G_S1 qS2 (-2147483648) 2147483647 rfl (by decide) (by decide +kernel)
  have F_S2 := zz_fr.puts F_S1 qS2 (by decide +kernel)
  refine zz_aload_n (x := 1017) rfl zd_4_2_10 ?_
  refine zz_iload_n (x := 0) rfl zd_4_2_11 ?_
  refine zz_puti zd_4_2_12 zf_Layer_20 zT_1017 rfl (by decide) (fun S3 qS3 => ?_)
  have G_S3 := zz_Gm.put [] G_S2 qS3 (-2147483648) 2147483647 rfl (by decide) (by decide +kernel)
  have F_S3 := zz_fr.puts F_S2 qS3 (by decide +kernel)
  refine zz_aload_n (x := 1017) rfl zd_4_2_15 ?_
  refine zz_iconst zd_4_2_16 ?_
  refine zz_puti zd_4_2_17 zf_Layer_23 zT_1017 rfl (by decide) (fun S4 qS4 => ?_)
  have G_S4 := zz_Gm.put [] G_S3 qS4 (-2147483648) 2147483647 rfl (by decide) (by decide +kernel)
  have F_S4 := zz_fr.puts F_S3 qS4 (by decide +kernel)
  refine zz_aload_n (x := 1017) rfl zd_4_2_20 ?_
  refine zz_iconst zd_4_2_21 ?_
  refine zz_puti zd_4_2_22 zf_Layer_26 zT_1017 rfl (by decide) (fun S5 qS5 => ?_)
  have G_S5 := zz_Gm.put [] G_S4 qS5 (-2147483648) 2147483647 rfl (by decide) (by decide +kernel)
  have F_S5 := zz_fr.puts F_S4 qS5 (by decide +kernel)
  refine zz_aload_n (x := 1017) rfl zd_4_2_25 ?_
  refine zz_iconst zd_4_2_26 ?_
  refine zz_puti zd_4_2_27 zf_Layer_29 zT_1017 rfl (by decide) (fun S6 qS6 => ?_)
  have G_S6 := zz_Gm.put [] G_S5 qS6 (-2147483648) 2147483647 rfl (by decide) (by decide +kernel)
  have F_S6 := zz_fr.puts F_S5 qS6 (by decide +kernel)
  refine zz_aload_n (x := 1017) rfl zd_4_2_30 ?_
  refine zz_iconst zd_4_2_31 ?_
  refine zz_puti zd_4_2_32 zf_Layer_32 zT_1017 rfl (by decide) (fun S7 qS7 => ?_)
  have G_S7 := zz_Gm.put [] G_S6 qS7 (-2147483648) 2147483647 rfl (by decide) (by decide +kernel)
  have F_S7 := zz_fr.puts F_S6 qS7 (by decide +kernel)
  refine zz_aload_n (x := 1017) rfl zd_4_2_35 ?_
  refine zz_iconst zd_4_2_36 ?_
  refine zz_puti zd_4_2_37 zf_Layer_35 zT_1017 rfl (by decide) (fun S8 qS8 => ?_)
  have G_S8 := zz_Gm.put [] G_S7 qS8 (-2147483648) 2147483647 rfl (by decide) (by decide +kernel)
  have F_S8 := zz_fr.puts F_S7 qS8 (by decide +kernel)
  refine zz_aload_n (x := 1017) rfl zd_4_2_40 ?_
  refine zz_iconst zd_4_2_41 ?_
  refine zz_putz zd_4_2_42 zf_Layer_38 zT_1017 rfl (by decide) (by decide) (fun S9 qS9 => ?_)
  have G_S9 := zz_Gm.put [] G_S8 qS9 0 1 rfl (by decide) (by decide +kernel)
  have F_S9 := zz_fr.puts F_S8 qS9 (by decide +kernel)
  refine zz_aload_n (x := 1017) rfl zd_4_2_45 ?_
  refine zz_iconst zd_4_2_46 ?_
  refine zz_puti zd_4_2_47 zf_Layer_42 zT_1017 rfl (by decide) (fun S10 qS10 => ?_)
  have G_S10 := zz_Gm.put [] G_S9 qS10 (-2147483648) 2147483647 rfl (by decide) (by decide +kernel)
  have F_S10 := zz_fr.puts F_S9 qS10 (by decide +kernel)
  refine zz_aload_n (x := 1017) rfl zd_4_2_50 ?_
  refine zz_iconst zd_4_2_51 ?_
  refine zz_iconst zd_4_2_52 ?_
  refine zz_iconst zd_4_2_53 ?_
  refine zz_callVV [zi 1, zi 1, zi 1] zd_4_2_54 zk_Layer_45 zT_1017 (by decide) rfl rfl ⟨Nat.le_of_ble_eq_true rfl, Nat.le_of_ble_eq_true rfl⟩ ⟨rfl, rfl⟩ (Nat.le_of_ble_eq_true rfl) (Nat.le_of_ble_eq_true rfl) (zc_takeForm_4_3_c1017_1018 S10 (zz_Gm.sub (C1 := [1017]) (X1 := []) G_S10 (by decide +kernel) (by decide +kernel))) (fun S11 hP => ?_)
  obtain ⟨gS11, fS11, o12⟩ := hP
  have F_S11 := zz_fr.trans F_S10 fS11 (by decide +kernel) zz_nv
  have G_S11 := zz_Gm.call [] G_S10 fS11 gS11 (by decide +kernel) (by decide +kernel) (by decide +kernel) (by decide +kernel)
  refine zz_aload_n (x := 1017) rfl zd_4_2_57 ?_
  refine zz_iconst zd_4_2_58 ?_
  refine zz_puti zd_4_2_59 zf_Layer_48 zT_1017 rfl (by decide) (fun S13 qS13 => ?_)
  have G_S13 := zz_Gm.put [] G_S11 qS13 (-2147483648) 2147483647 rfl (by decide) (by decide +kernel)
  have F_S13 := zz_fr.puts F_S11 qS13 (by decide +kernel)
  refine zz_aload_n (x := 1017) rfl zd_4_2_62 ?_
  refine zz_iconst zd_4_2_63 ?_
  refine zz_puti zd_4_2_64 zf_Layer_51 zT_1017 rfl (by decide) (fun S14 qS14 => ?_)
  have G_S14 := zz_Gm.put [] G_S13 qS14 (-2147483648) 2147483647 rfl (by decide) (by decide +kernel)
  have F_S14 := zz_fr.puts F_S13 qS14 (by decide +kernel)
  have e15 : S14 1017 0 = 0 := (zz_ro qS14 (fun h => absurd h.2 (by decide)) (zz_ro qS13 (fun h => absurd h.2 (by decide)) (zz_rc fS11 rfl rfl (fun h => h) (zz_ro qS10 (fun h => absurd h.2 (by decide)) (zz_ro qS9 (fun h => absurd h.2 (by decide)) (zz_ro qS8 (fun h => absurd h.2 (by decide)) (zz_ro qS7 (fun h => absurd h.2 (by decide)) (zz_ro qS6 (fun h => absurd h.2 (by decide)) (zz_ro qS5 (fun h => absurd h.2 (by decide)) (zz_ro qS4 (fun h => absurd h.2 (by decide)) (zz_ro qS3 (fun h => absurd h.2 (by decide)) (zz_ro qS2 (fun h => absurd h.2 (by decide)) (zz_rs qS1)))))))))))))
  have e16 : S14 1017 12 = 1 := (zz_ro qS14 (fun h => absurd h.2 (by decide)) (zz_ro qS13 (fun h => absurd h.2 (by decide)) o12))
  have e17 : S14 1017 3 = 1 := (zz_ro qS14 (fun h => absurd h.2 (by decide)) (zz_ro qS13 (fun h => absurd h.2 (by decide)) (zz_rc fS11 rfl rfl (fun h => h) (zz_ro qS10 (fun h => absurd h.2 (by decide)) (zz_ro qS9 (fun h => absurd h.2 (by decide)) (zz_ro qS8 (fun h => absurd h.2 (by decide)) (zz_ro qS7 (fun h => absurd h.2 (by decide)) (zz_ro qS6 (fun h => absurd h.2 (by decide)) (zz_ro qS5 (fun h => absurd h.2 (by decide)) (zz_rs qS4))))))))))
  have e18 : S14 1017 4 = 1 := (zz_ro qS14 (fun h => absurd h.2 (by decide)) (zz_ro qS13 (fun h => absurd h.2 (by decide)) (zz_rc fS11 rfl rfl (fun h => h) (zz_ro qS10 (fun h => absurd h.2 (by decide)) (zz_ro qS9 (fun h => absurd h.2 (by decide)) (zz_ro qS8 (fun h => absurd h.2 (by decide)) (zz_ro qS7 (fun h => absurd h.2 (by decide)) (zz_ro qS6 (fun h => absurd h.2 (by decide)) (zz_rs qS5)))))))))
  exact zz_vret zd_4_2_67 rfl (Nat.le_of_ble_eq_true rfl) (Nat.le_of_ble_eq_true rfl) ⟨_, rfl, G_S14, F_S14, by omega⟩
-- TensorForge$Layer <init> ()V at 1017, 1018
abbrev zr_init_4_1_c1017_1018 : Room := { frames := 2, cells := 0, slots := 0, locals := 30 }
def zp_init_4_1_c1017_1018 (S0 : zz_S) : zz_S → Prop := fun S => zz_Gm [1017, 1017, 1017] [] S ∧ zz_fr [(1017, 0), (1017, 1), (1017, 2), (1017, 3), (1017, 4), (1017, 5), (1017, 6), (1017, 7), (1017, 8), (1017, 9), (1017, 10), (1017, 11), (1017, 12), (1017, 13), (1017, 14)] [] (fun _ _ => False) S0 S ∧ (S 1017 0 = 0 ∧ S 1017 3 = 1 ∧ S 1017 4 = 1 ∧ S 1017 12 = 1)
theorem zc_init_4_1_c1017_1018 {g : mm_G} {l : Launch} (S0 : zz_S) (G_S0 : zz_Gm [1017] [] S0) : mm_Met g l zy_init_4_1 zr_init_4_1_c1017_1018 [.ref 1017] (zz_M S0 1018) 1018 (zz_QV 1018 (zp_init_4_1_c1017_1018 S0)) := by
  refine zz_enter (by decide) (Nat.le_of_ble_eq_true rfl) (zz_less (ls1 := [some (.ref 1017)]) ⟨rfl, trivial⟩ ?_)
  have F_S0 : zz_fr [(1017, 0), (1017, 1), (1017, 2), (1017, 3), (1017, 4), (1017, 5), (1017, 6), (1017, 7), (1017, 8), (1017, 9), (1017, 10), (1017, 11), (1017, 12), (1017, 13), (1017, 14)] [] (fun _ _ => False) S0 S0 := zz_fr.refl
  refine zz_aload_n (x := 1017) rfl zd_4_1_0 ?_
  refine zz_objI zd_4_1_1 zoi_Layer_1 zoi.1 zoi.2 (Nat.le_of_ble_eq_true rfl) (Nat.le_of_ble_eq_true rfl) ?_
  refine zz_aload_n (x := 1017) rfl zd_4_1_4 ?_
  refine zz_iconst zd_4_1_5 ?_
  refine zz_iconst zd_4_1_6 ?_
  refine zz_iconst zd_4_1_7 ?_
  refine zz_callVV [zi 0, zi 0, zi 0] zd_4_1_8 zk_Layer_9 zT_1017 (by decide) rfl rfl ⟨Nat.le_of_ble_eq_true rfl, Nat.le_of_ble_eq_true rfl⟩ ⟨rfl, rfl⟩ (Nat.le_of_ble_eq_true rfl) (Nat.le_of_ble_eq_true rfl) (zc_reset_4_2_c1017_1018 S0 (zz_Gm.sub (C1 := [1017]) (X1 := []) G_S0 (by decide +kernel) (by decide +kernel))) (fun S2 hP => ?_)
  obtain ⟨gS2, fS2, o3⟩ := hP
  have F_S2 := zz_fr.trans F_S0 fS2 (by decide +kernel) zz_nv
  have G_S2 := zz_Gm.call [] G_S0 fS2 gS2 (by decide +kernel) (by decide +kernel) (by decide +kernel) (by decide +kernel)
  have g4 := trivial
  have g5 := trivial
  have g6 := trivial
  have g7 := trivial
  exact zz_vret zd_4_1_11 rfl (Nat.le_of_ble_eq_true rfl) (Nat.le_of_ble_eq_true rfl) ⟨_, rfl, G_S2, F_S2, by omega⟩
def zX_16 : List (Nat × Nat) := [(1016, 1), (1016, 2), (1016, 3), (1016, 4), (1016, 5), (1016, 6), (1016, 7), (1016, 8), (1016, 9), (1016, 10), (1016, 11), (1015, 1)]
-- TensorForge$Layer takeForm (III)V at 1018, 1019
abbrev zr_takeForm_4_3_c1018_1019 : Room := { frames := 0, cells := 0, slots := 0, locals := 0 }
def zp_takeForm_4_3_c1018_1019 (S0 : zz_S) : zz_S → Prop := fun S => zz_Gm [1018] [] S ∧ zz_fr [(1018, 10), (1018, 11), (1018, 12)] [] (fun _ _ => False) S0 S ∧ (S 1018 12 = 1)
theorem zc_takeForm_4_3_c1018_1019 {g : mm_G} {l : Launch} (S0 : zz_S) (G_S0 : zz_Gm [1018] [] S0) : mm_Met g l zy_takeForm_4_3 zr_takeForm_4_3_c1018_1019 [.ref 1018, zi 1, zi 1, zi 1] (zz_M S0 1019) 1019 (zz_QV 1019 (zp_takeForm_4_3_c1018_1019 S0)) := by
  refine zz_enter (by decide) (Nat.le_of_ble_eq_true rfl) (zz_less (ls1 := [some (.ref 1018), some (zi 1), some (zi 1), some (zi 1)]) ⟨rfl, ⟨rfl, ⟨rfl, ⟨rfl, trivial⟩⟩⟩⟩ ?_)
  have F_S0 : zz_fr [(1018, 10), (1018, 11), (1018, 12)] [] (fun _ _ => False) S0 S0 := zz_fr.refl
  refine zz_aload_n (x := 1018) rfl zd_4_3_0 ?_
  refine zz_iload_n (x := 1) rfl zd_4_3_1 ?_
  refine zz_puti zd_4_3_2 zf_Layer_54 zT_1018 rfl (by decide) (fun S1 qS1 => ?_)
  have G_S1 := zz_Gm.put [] G_S0 qS1 (-2147483648) 2147483647 rfl (by decide) (by decide +kernel)
  have F_S1 := zz_fr.puts F_S0 qS1 (by decide +kernel)
  refine zz_aload_n (x := 1018) rfl zd_4_3_5 ?_
  refine zz_iload_n (x := 1) rfl zd_4_3_6 ?_
  refine zz_puti zd_4_3_7 zf_Layer_57 zT_1018 rfl (by decide) (fun S2 qS2 => ?_)
  have G_S2 := zz_Gm.put [] G_S1 qS2 (-2147483648) 2147483647 rfl (by decide) (by decide +kernel)
  have F_S2 := zz_fr.puts F_S1 qS2 (by decide +kernel)
  refine zz_aload_n (x := 1018) rfl zd_4_3_10 ?_
  refine zz_iload_n (x := 1) rfl zd_4_3_11 ?_
  refine zz_puti zd_4_3_12 zf_Layer_60 zT_1018 rfl (by decide) (fun S3 qS3 => ?_)
  have G_S3 := zz_Gm.put [] G_S2 qS3 (-2147483648) 2147483647 rfl (by decide) (by decide +kernel)
  have F_S3 := zz_fr.puts F_S2 qS3 (by decide +kernel)
  have e4 : S3 1018 12 = 1 := (zz_rs qS3)
  exact zz_vret zd_4_3_15 rfl (Nat.le_of_ble_eq_true rfl) (Nat.le_of_ble_eq_true rfl) ⟨_, rfl, G_S3, F_S3, by omega⟩
-- TensorForge$Layer reset (III)V at 1018, 1019
abbrev zr_reset_4_2_c1018_1019 : Room := { frames := 1, cells := 0, slots := 0, locals := 15 }
def zp_reset_4_2_c1018_1019 (S0 : zz_S) : zz_S → Prop := fun S => zz_Gm [1018, 1018] [] S ∧ zz_fr [(1018, 0), (1018, 1), (1018, 2), (1018, 3), (1018, 4), (1018, 5), (1018, 6), (1018, 7), (1018, 8), (1018, 9), (1018, 10), (1018, 11), (1018, 12), (1018, 13), (1018, 14)] [] (fun _ _ => False) S0 S ∧ (S 1018 0 = 0 ∧ S 1018 3 = 1 ∧ S 1018 4 = 1 ∧ S 1018 12 = 1)
theorem zc_reset_4_2_c1018_1019 {g : mm_G} {l : Launch} (S0 : zz_S) (G_S0 : zz_Gm [1018] [] S0) : mm_Met g l zy_reset_4_2 zr_reset_4_2_c1018_1019 [.ref 1018, zi 0, zi 0, zi 0] (zz_M S0 1019) 1019 (zz_QV 1019 (zp_reset_4_2_c1018_1019 S0)) := by
  refine zz_enter (by decide) (Nat.le_of_ble_eq_true rfl) (zz_less (ls1 := [some (.ref 1018), some (zi 0), some (zi 0), some (zi 0)]) ⟨rfl, ⟨rfl, ⟨rfl, ⟨rfl, trivial⟩⟩⟩⟩ ?_)
  have F_S0 : zz_fr [(1018, 0), (1018, 1), (1018, 2), (1018, 3), (1018, 4), (1018, 5), (1018, 6), (1018, 7), (1018, 8), (1018, 9), (1018, 10), (1018, 11), (1018, 12), (1018, 13), (1018, 14)] [] (fun _ _ => False) S0 S0 := zz_fr.refl
  refine zz_aload_n (x := 1018) rfl zd_4_2_0 ?_
  refine zz_iload_n (x := 0) rfl zd_4_2_1 ?_
  refine zz_puti zd_4_2_2 zf_Layer_13 zT_1018 rfl (by decide) (fun S1 qS1 => ?_)
  have G_S1 := zz_Gm.put [] G_S0 qS1 (-2147483648) 2147483647 rfl (by decide) (by decide +kernel)
  have F_S1 := zz_fr.puts F_S0 qS1 (by decide +kernel)
  refine zz_aload_n (x := 1018) rfl zd_4_2_5 ?_
  refine zz_iload_n (x := 0) rfl zd_4_2_6 ?_
  refine zz_puti zd_4_2_7 zf_Layer_17 zT_1018 rfl (by decide) (fun S2 qS2 => ?_)
  have G_S2 := zz_Gm.put [] G_S1 qS2 (-2147483648) 2147483647 rfl (by decide) (by decide +kernel)
  have F_S2 := zz_fr.puts F_S1 qS2 (by decide +kernel)
  refine zz_aload_n (x := 1018) rfl zd_4_2_10 ?_
  refine zz_iload_n (x := 0) rfl zd_4_2_11 ?_
  refine zz_puti zd_4_2_12 zf_Layer_20 zT_1018 rfl (by decide) (fun S3 qS3 => ?_)
  have G_S3 := zz_Gm.put [] G_S2 qS3 (-2147483648) 2147483647 rfl (by decide) (by decide +kernel)
  have F_S3 := zz_fr.puts F_S2 qS3 (by decide +kernel)
  refine zz_aload_n (x := 1018) rfl zd_4_2_15 ?_
  refine zz_iconst zd_4_2_16 ?_
  refine zz_puti zd_4_2_17 zf_Layer_23 zT_1018 rfl (by decide) (fun S4 qS4 => ?_)
  have G_S4 := zz_Gm.put [] G_S3 qS4 (-2147483648) 2147483647 rfl (by decide) (by decide +kernel)
  have F_S4 := zz_fr.puts F_S3 qS4 (by decide +kernel)
  refine zz_aload_n (x := 1018) rfl zd_4_2_20 ?_
  refine zz_iconst zd_4_2_21 ?_
  refine zz_puti zd_4_2_22 zf_Layer_26 zT_1018 rfl (by decide) (fun S5 qS5 => ?_)
  have G_S5 := zz_Gm.put [] G_S4 qS5 (-2147483648) 2147483647 rfl (by decide) (by decide +kernel)
  have F_S5 := zz_fr.puts F_S4 qS5 (by decide +kernel)
  refine zz_aload_n (x := 1018) rfl zd_4_2_25 ?_
  refine zz_iconst zd_4_2_26 ?_
  refine zz_puti zd_4_2_27 zf_Layer_29 zT_1018 rfl (by decide) (fun S6 qS6 => ?_)
  have G_S6 := zz_Gm.put [] G_S5 qS6 (-2147483648) 2147483647 rfl (by decide) (by decide +kernel)
  have F_S6 := zz_fr.puts F_S5 qS6 (by decide +kernel)
  refine zz_aload_n (x := 1018) rfl zd_4_2_30 ?_
  refine zz_iconst zd_4_2_31 ?_
  refine zz_puti zd_4_2_32 zf_Layer_32 zT_1018 rfl (by decide) (fun S7 qS7 => ?_)
  have G_S7 := zz_Gm.put [] G_S6 qS7 (-2147483648) 2147483647 rfl (by decide) (by decide +kernel)
  have F_S7 := zz_fr.puts F_S6 qS7 (by decide +kernel)
  refine zz_aload_n (x := 1018) rfl zd_4_2_35 ?_
  refine zz_iconst zd_4_2_36 ?_
  refine zz_puti zd_4_2_37 zf_Layer_35 zT_1018 rfl (by decide) (fun S8 qS8 => ?_)
  have G_S8 := zz_Gm.put [] G_S7 qS8 (-2147483648) 2147483647 rfl (by decide) (by decide +kernel)
  have F_S8 := zz_fr.puts F_S7 qS8 (by decide +kernel)
  refine zz_aload_n (x := 1018) rfl zd_4_2_40 ?_
  refine zz_iconst zd_4_2_41 ?_
  refine zz_putz zd_4_2_42 zf_Layer_38 zT_1018 rfl (by decide) (by decide) (fun S9 qS9 => ?_)
  have G_S9 := zz_Gm.put [] G_S8 qS9 0 1 rfl (by decide) (by decide +kernel)
  have F_S9 := zz_fr.puts F_S8 qS9 (by decide +kernel)
  refine zz_aload_n (x := 1018) rfl zd_4_2_45 ?_
  refine zz_iconst zd_4_2_46 ?_
  refine zz_puti zd_4_2_47 zf_Layer_42 zT_1018 rfl (by decide) (fun S10 qS10 => ?_)
  have G_S10 := zz_Gm.put [] G_S9 qS10 (-2147483648) 2147483647 rfl (by decide) (by decide +kernel)
  have F_S10 := zz_fr.puts F_S9 qS10 (by decide +kernel)
  refine zz_aload_n (x := 1018) rfl zd_4_2_50 ?_
  refine zz_iconst zd_4_2_51 ?_
  refine zz_iconst zd_4_2_52 ?_
  refine zz_iconst zd_4_2_53 ?_
  refine zz_callVV [zi 1, zi 1, zi 1] zd_4_2_54 zk_Layer_45 zT_1018 (by decide) rfl rfl ⟨Nat.le_of_ble_eq_true rfl, Nat.le_of_ble_eq_true rfl⟩ ⟨rfl, rfl⟩ (Nat.le_of_ble_eq_true rfl) (Nat.le_of_ble_eq_true rfl) (zc_takeForm_4_3_c1018_1019 S10 (zz_Gm.sub (C1 := [1018]) (X1 := []) G_S10 (by decide +kernel) (by decide +kernel))) (fun S11 hP => ?_)
  obtain ⟨gS11, fS11, o12⟩ := hP
  have F_S11 := zz_fr.trans F_S10 fS11 (by decide +kernel) zz_nv
  have G_S11 := zz_Gm.call [] G_S10 fS11 gS11 (by decide +kernel) (by decide +kernel) (by decide +kernel) (by decide +kernel)
  refine zz_aload_n (x := 1018) rfl zd_4_2_57 ?_
  refine zz_iconst zd_4_2_58 ?_
  refine zz_puti zd_4_2_59 zf_Layer_48 zT_1018 rfl (by decide) (fun S13 qS13 => ?_)
  have G_S13 := zz_Gm.put [] G_S11 qS13 (-2147483648) 2147483647 rfl (by decide) (by decide +kernel)
  have F_S13 := zz_fr.puts F_S11 qS13 (by decide +kernel)
  refine zz_aload_n (x := 1018) rfl zd_4_2_62 ?_
  refine zz_iconst zd_4_2_63 ?_
  refine zz_puti zd_4_2_64 zf_Layer_51 zT_1018 rfl (by decide) (fun S14 qS14 => ?_)
  have G_S14 := zz_Gm.put [] G_S13 qS14 (-2147483648) 2147483647 rfl (by decide) (by decide +kernel)
  have F_S14 := zz_fr.puts F_S13 qS14 (by decide +kernel)
  have e15 : S14 1018 0 = 0 := (zz_ro qS14 (fun h => absurd h.2 (by decide)) (zz_ro qS13 (fun h => absurd h.2 (by decide)) (zz_rc fS11 rfl rfl (fun h => h) (zz_ro qS10 (fun h => absurd h.2 (by decide)) (zz_ro qS9 (fun h => absurd h.2 (by decide)) (zz_ro qS8 (fun h => absurd h.2 (by decide)) (zz_ro qS7 (fun h => absurd h.2 (by decide)) (zz_ro qS6 (fun h => absurd h.2 (by decide)) (zz_ro qS5 (fun h => absurd h.2 (by decide)) (zz_ro qS4 (fun h => absurd h.2 (by decide)) (zz_ro qS3 (fun h => absurd h.2 (by decide)) (zz_ro qS2 (fun h => absurd h.2 (by decide)) (zz_rs qS1)))))))))))))
  have e16 : S14 1018 12 = 1 := (zz_ro qS14 (fun h => absurd h.2 (by decide)) (zz_ro qS13 (fun h => absurd h.2 (by decide)) o12))
  have e17 : S14 1018 3 = 1 := (zz_ro qS14 (fun h => absurd h.2 (by decide)) (zz_ro qS13 (fun h => absurd h.2 (by decide)) (zz_rc fS11 rfl rfl (fun h => h) (zz_ro qS10 (fun h => absurd h.2 (by decide)) (zz_ro qS9 (fun h => absurd h.2 (by decide)) (zz_ro qS8 (fun h => absurd h.2 (by decide)) (zz_ro qS7 (fun h => absurd h.2 (by decide)) (zz_ro qS6 (fun h => absurd h.2 (by decide)) (zz_ro qS5 (fun h => absurd h.2 (by decide)) (zz_rs qS4))))))))))
  have e18 : S14 1018 4 = 1 := (zz_ro qS14 (fun h => absurd h.2 (by decide)) (zz_ro qS13 (fun h => absurd h.2 (by decide)) (zz_rc fS11 rfl rfl (fun h => h) (zz_ro qS10 (fun h => absurd h.2 (by decide)) (zz_ro qS9 (fun h => absurd h.2 (by decide)) (zz_ro qS8 (fun h => absurd h.2 (by decide)) (zz_ro qS7 (fun h => absurd h.2 (by decide)) (zz_ro qS6 (fun h => absurd h.2 (by decide)) (zz_rs qS5)))))))))
  exact zz_vret zd_4_2_67 rfl (Nat.le_of_ble_eq_true rfl) (Nat.le_of_ble_eq_true rfl) ⟨_, rfl, G_S14, F_S14, by omega⟩
-- TensorForge$Layer <init> ()V at 1018, 1019
abbrev zr_init_4_1_c1018_1019 : Room := { frames := 2, cells := 0, slots := 0, locals := 30 }
def zp_init_4_1_c1018_1019 (S0 : zz_S) : zz_S → Prop := fun S => zz_Gm [1018, 1018, 1018] [] S ∧ zz_fr [(1018, 0), (1018, 1), (1018, 2), (1018, 3), (1018, 4), (1018, 5), (1018, 6), (1018, 7), (1018, 8), (1018, 9), (1018, 10), (1018, 11), (1018, 12), (1018, 13), (1018, 14)] [] (fun _ _ => False) S0 S ∧ (S 1018 0 = 0 ∧ S 1018 3 = 1 ∧ S 1018 4 = 1 ∧ S 1018 12 = 1)
theorem zc_init_4_1_c1018_1019 {g : mm_G} {l : Launch} (S0 : zz_S) (G_S0 : zz_Gm [1018] [] S0) : mm_Met g l zy_init_4_1 zr_init_4_1_c1018_1019 [.ref 1018] (zz_M S0 1019) 1019 (zz_QV 1019 (zp_init_4_1_c1018_1019 S0)) := by
  refine zz_enter (by decide) (Nat.le_of_ble_eq_true rfl) (zz_less (ls1 := [some (.ref 1018)]) ⟨rfl, trivial⟩ ?_)
  have F_S0 : zz_fr [(1018, 0), (1018, 1), (1018, 2), (1018, 3), (1018, 4), (1018, 5), (1018, 6), (1018, 7), (1018, 8), (1018, 9), (1018, 10), (1018, 11), (1018, 12), (1018, 13), (1018, 14)] [] (fun _ _ => False) S0 S0 := zz_fr.refl
  refine zz_aload_n (x := 1018) rfl zd_4_1_0 ?_
  refine zz_objI zd_4_1_1 zoi_Layer_1 zoi.1 zoi.2 (Nat.le_of_ble_eq_true rfl) (Nat.le_of_ble_eq_true rfl) ?_
  refine zz_aload_n (x := 1018) rfl zd_4_1_4 ?_
  refine zz_iconst zd_4_1_5 ?_
  refine zz_iconst zd_4_1_6 ?_
  refine zz_iconst zd_4_1_7 ?_
  refine zz_callVV [zi 0, zi 0, zi 0] zd_4_1_8 zk_Layer_9 zT_1018 (by decide) rfl rfl ⟨Nat.le_of_ble_eq_true rfl, Nat.le_of_ble_eq_true rfl⟩ ⟨rfl, rfl⟩ (Nat.le_of_ble_eq_true rfl) (Nat.le_of_ble_eq_true rfl) (zc_reset_4_2_c1018_1019 S0 (zz_Gm.sub (C1 := [1018]) (X1 := []) G_S0 (by decide +kernel) (by decide +kernel))) (fun S2 hP => ?_)
  obtain ⟨gS2, fS2, o3⟩ := hP
  have F_S2 := zz_fr.trans F_S0 fS2 (by decide +kernel) zz_nv
  have G_S2 := zz_Gm.call [] G_S0 fS2 gS2 (by decide +kernel) (by decide +kernel) (by decide +kernel) (by decide +kernel)
  have g4 := trivial
  have g5 := trivial
  have g6 := trivial
  have g7 := trivial
  exact zz_vret zd_4_1_11 rfl (Nat.le_of_ble_eq_true rfl) (Nat.le_of_ble_eq_true rfl) ⟨_, rfl, G_S2, F_S2, by omega⟩
def zX_17 : List (Nat × Nat) := [(1016, 2), (1016, 3), (1016, 4), (1016, 5), (1016, 6), (1016, 7), (1016, 8), (1016, 9), (1016, 10), (1016, 11), (1015, 1)]
-- TensorForge$Layer takeForm (III)V at 1019, 1020
abbrev zr_takeForm_4_3_c1019_1020 : Room := { frames := 0, cells := 0, slots := 0, locals := 0 }
def zp_takeForm_4_3_c1019_1020 (S0 : zz_S) : zz_S → Prop := fun S => zz_Gm [1019] [] S ∧ zz_fr [(1019, 10), (1019, 11), (1019, 12)] [] (fun _ _ => False) S0 S ∧ (S 1019 12 = 1)
theorem zc_takeForm_4_3_c1019_1020 {g : mm_G} {l : Launch} (S0 : zz_S) (G_S0 : zz_Gm [1019] [] S0) : mm_Met g l zy_takeForm_4_3 zr_takeForm_4_3_c1019_1020 [.ref 1019, zi 1, zi 1, zi 1] (zz_M S0 1020) 1020 (zz_QV 1020 (zp_takeForm_4_3_c1019_1020 S0)) := by
  refine zz_enter (by decide) (Nat.le_of_ble_eq_true rfl) (zz_less (ls1 := [some (.ref 1019), some (zi 1), some (zi 1), some (zi 1)]) ⟨rfl, ⟨rfl, ⟨rfl, ⟨rfl, trivial⟩⟩⟩⟩ ?_)
  have F_S0 : zz_fr [(1019, 10), (1019, 11), (1019, 12)] [] (fun _ _ => False) S0 S0 := zz_fr.refl
  refine zz_aload_n (x := 1019) rfl zd_4_3_0 ?_
  refine zz_iload_n (x := 1) rfl zd_4_3_1 ?_
  refine zz_puti zd_4_3_2 zf_Layer_54 zT_1019 rfl (by decide) (fun S1 qS1 => ?_)
  have G_S1 := zz_Gm.put [] G_S0 qS1 (-2147483648) 2147483647 rfl (by decide) (by decide +kernel)
  have F_S1 := zz_fr.puts F_S0 qS1 (by decide +kernel)
  refine zz_aload_n (x := 1019) rfl zd_4_3_5 ?_
  refine zz_iload_n (x := 1) rfl zd_4_3_6 ?_
  refine zz_puti zd_4_3_7 zf_Layer_57 zT_1019 rfl (by decide) (fun S2 qS2 => ?_)
  have G_S2 := zz_Gm.put [] G_S1 qS2 (-2147483648) 2147483647 rfl (by decide) (by decide +kernel)
  have F_S2 := zz_fr.puts F_S1 qS2 (by decide +kernel)
  refine zz_aload_n (x := 1019) rfl zd_4_3_10 ?_
  refine zz_iload_n (x := 1) rfl zd_4_3_11 ?_
  refine zz_puti zd_4_3_12 zf_Layer_60 zT_1019 rfl (by decide) (fun S3 qS3 => ?_)
  have G_S3 := zz_Gm.put [] G_S2 qS3 (-2147483648) 2147483647 rfl (by decide) (by decide +kernel)
  have F_S3 := zz_fr.puts F_S2 qS3 (by decide +kernel)
  have e4 : S3 1019 12 = 1 := (zz_rs qS3)
  exact zz_vret zd_4_3_15 rfl (Nat.le_of_ble_eq_true rfl) (Nat.le_of_ble_eq_true rfl) ⟨_, rfl, G_S3, F_S3, by omega⟩
-- TensorForge$Layer reset (III)V at 1019, 1020
abbrev zr_reset_4_2_c1019_1020 : Room := { frames := 1, cells := 0, slots := 0, locals := 15 }
def zp_reset_4_2_c1019_1020 (S0 : zz_S) : zz_S → Prop := fun S => zz_Gm [1019, 1019] [] S ∧ zz_fr [(1019, 0), (1019, 1), (1019, 2), (1019, 3), (1019, 4), (1019, 5), (1019, 6), (1019, 7), (1019, 8), (1019, 9), (1019, 10), (1019, 11), (1019, 12), (1019, 13), (1019, 14)] [] (fun _ _ => False) S0 S ∧ (S 1019 0 = 0 ∧ S 1019 3 = 1 ∧ S 1019 4 = 1 ∧ S 1019 12 = 1)
theorem zc_reset_4_2_c1019_1020 {g : mm_G} {l : Launch} (S0 : zz_S) (G_S0 : zz_Gm [1019] [] S0) : mm_Met g l zy_reset_4_2 zr_reset_4_2_c1019_1020 [.ref 1019, zi 0, zi 0, zi 0] (zz_M S0 1020) 1020 (zz_QV 1020 (zp_reset_4_2_c1019_1020 S0)) := by
  refine zz_enter (by decide) (Nat.le_of_ble_eq_true rfl) (zz_less (ls1 := [some (.ref 1019), some (zi 0), some (zi 0), some (zi 0)]) ⟨rfl, ⟨rfl, ⟨rfl, ⟨rfl, trivial⟩⟩⟩⟩ ?_)
  have F_S0 : zz_fr [(1019, 0), (1019, 1), (1019, 2), (1019, 3), (1019, 4), (1019, 5), (1019, 6), (1019, 7), (1019, 8), (1019, 9), (1019, 10), (1019, 11), (1019, 12), (1019, 13), (1019, 14)] [] (fun _ _ => False) S0 S0 := zz_fr.refl
  refine zz_aload_n (x := 1019) rfl zd_4_2_0 ?_
  refine zz_iload_n (x := 0) rfl zd_4_2_1 ?_
  refine zz_puti zd_4_2_2 zf_Layer_13 zT_1019 rfl (by decide) (fun S1 qS1 => ?_)
  have G_S1 := zz_Gm.put [] G_S0 qS1 (-2147483648) 2147483647 rfl (by decide) (by decide +kernel)
  have F_S1 := zz_fr.puts F_S0 qS1 (by decide +kernel)
  refine zz_aload_n (x := 1019) rfl zd_4_2_5 ?_
  refine zz_iload_n (x := 0) rfl zd_4_2_6 ?_
  refine zz_puti zd_4_2_7 zf_Layer_17 zT_1019 rfl (by decide) (fun S2 qS2 => ?_)
  have G_S2 := zz_Gm.put [] G_S1 qS2 (-2147483648) 2147483647 rfl (by decide) (by decide +kernel)
  have F_S2 := zz_fr.puts F_S1 qS2 (by decide +kernel)
  refine zz_aload_n (x := 1019) rfl zd_4_2_10 ?_
  refine zz_iload_n (x := 0) rfl zd_4_2_11 ?_
  refine zz_puti zd_4_2_12 zf_Layer_20 zT_1019 rfl (by decide) (fun S3 qS3 => ?_)
  have G_S3 := zz_Gm.put [] G_S2 qS3 (-2147483648) 2147483647 rfl (by decide) (by decide +kernel)
  have F_S3 := zz_fr.puts F_S2 qS3 (by decide +kernel)
  refine zz_aload_n (x := 1019) rfl zd_4_2_15 ?_
  refine zz_iconst zd_4_2_16 ?_
  refine zz_puti zd_4_2_17 zf_Layer_23 zT_1019 rfl (by decide) (fun S4 qS4 => ?_)
  have G_S4 := zz_Gm.put [] G_S3 qS4 (-2147483648) 2147483647 rfl (by decide) (by decide +kernel)
  have F_S4 := zz_fr.puts F_S3 qS4 (by decide +kernel)
  refine zz_aload_n (x := 1019) rfl zd_4_2_20 ?_
  refine zz_iconst zd_4_2_21 ?_
  refine zz_puti zd_4_2_22 zf_Layer_26 zT_1019 rfl (by decide) (fun S5 qS5 => ?_)
  have G_S5 := zz_Gm.put [] G_S4 qS5 (-2147483648) 2147483647 rfl (by decide) (by decide +kernel)
  have F_S5 := zz_fr.puts F_S4 qS5 (by decide +kernel)
  refine zz_aload_n (x := 1019) rfl zd_4_2_25 ?_
  refine zz_iconst zd_4_2_26 ?_
  refine zz_puti zd_4_2_27 zf_Layer_29 zT_1019 rfl (by decide) (fun S6 qS6 => ?_)
  have G_S6 := zz_Gm.put [] G_S5 qS6 (-2147483648) 2147483647 rfl (by decide) (by decide +kernel)
  have F_S6 := zz_fr.puts F_S5 qS6 (by decide +kernel)
  refine zz_aload_n (x := 1019) rfl zd_4_2_30 ?_
  refine zz_iconst zd_4_2_31 ?_
  refine zz_puti zd_4_2_32 zf_Layer_32 zT_1019 rfl (by decide) (fun S7 qS7 => ?_)
  have G_S7 := zz_Gm.put [] G_S6 qS7 (-2147483648) 2147483647 rfl (by decide) (by decide +kernel)
  have F_S7 := zz_fr.puts F_S6 qS7 (by decide +kernel)
  refine zz_aload_n (x := 1019) rfl zd_4_2_35 ?_
  refine zz_iconst zd_4_2_36 ?_
  refine zz_puti zd_4_2_37 zf_Layer_35 zT_1019 rfl (by decide) (fun S8 qS8 => ?_)
  have G_S8 := zz_Gm.put [] G_S7 qS8 (-2147483648) 2147483647 rfl (by decide) (by decide +kernel)
  have F_S8 := zz_fr.puts F_S7 qS8 (by decide +kernel)
  refine zz_aload_n (x := 1019) rfl zd_4_2_40 ?_
  refine zz_iconst zd_4_2_41 ?_
  refine zz_putz zd_4_2_42 zf_Layer_38 zT_1019 rfl (by decide) (by decide) (fun S9 qS9 => ?_)
  have G_S9 := zz_Gm.put [] G_S8 qS9 0 1 rfl (by decide) (by decide +kernel)
  have F_S9 := zz_fr.puts F_S8 qS9 (by decide +kernel)
  refine zz_aload_n (x := 1019) rfl zd_4_2_45 ?_
  refine zz_iconst zd_4_2_46 ?_
  refine zz_puti zd_4_2_47 zf_Layer_42 zT_1019 rfl (by decide) (fun S10 qS10 => ?_)
  have G_S10 := zz_Gm.put [] G_S9 qS10 (-2147483648) 2147483647 rfl (by decide) (by decide +kernel)
  have F_S10 := zz_fr.puts F_S9 qS10 (by decide +kernel)
  refine zz_aload_n (x := 1019) rfl zd_4_2_50 ?_
  refine zz_iconst zd_4_2_51 ?_
  refine zz_iconst zd_4_2_52 ?_
  refine zz_iconst zd_4_2_53 ?_
  refine zz_callVV [zi 1, zi 1, zi 1] zd_4_2_54 zk_Layer_45 zT_1019 (by decide) rfl rfl ⟨Nat.le_of_ble_eq_true rfl, Nat.le_of_ble_eq_true rfl⟩ ⟨rfl, rfl⟩ (Nat.le_of_ble_eq_true rfl) (Nat.le_of_ble_eq_true rfl) (zc_takeForm_4_3_c1019_1020 S10 (zz_Gm.sub (C1 := [1019]) (X1 := []) G_S10 (by decide +kernel) (by decide +kernel))) (fun S11 hP => ?_)
  obtain ⟨gS11, fS11, o12⟩ := hP
  have F_S11 := zz_fr.trans F_S10 fS11 (by decide +kernel) zz_nv
  have G_S11 := zz_Gm.call [] G_S10 fS11 gS11 (by decide +kernel) (by decide +kernel) (by decide +kernel) (by decide +kernel)
  refine zz_aload_n (x := 1019) rfl zd_4_2_57 ?_
  refine zz_iconst zd_4_2_58 ?_
  refine zz_puti zd_4_2_59 zf_Layer_48 zT_1019 rfl (by decide) (fun S13 qS13 => ?_)
  have G_S13 := zz_Gm.put [] G_S11 qS13 (-2147483648) 2147483647 rfl (by decide) (by decide +kernel)
  have F_S13 := zz_fr.puts F_S11 qS13 (by decide +kernel)
  refine zz_aload_n (x := 1019) rfl zd_4_2_62 ?_
  refine zz_iconst zd_4_2_63 ?_
  refine zz_puti zd_4_2_64 zf_Layer_51 zT_1019 rfl (by decide) (fun S14 qS14 => ?_)
  have G_S14 := zz_Gm.put [] G_S13 qS14 (-2147483648) 2147483647 rfl (by decide) (by decide +kernel)
  have F_S14 := zz_fr.puts F_S13 qS14 (by decide +kernel)
  have e15 : S14 1019 0 = 0 := (zz_ro qS14 (fun h => absurd h.2 (by decide)) (zz_ro qS13 (fun h => absurd h.2 (by decide)) (zz_rc fS11 rfl rfl (fun h => h) (zz_ro qS10 (fun h => absurd h.2 (by decide)) (zz_ro qS9 (fun h => absurd h.2 (by decide)) (zz_ro qS8 (fun h => absurd h.2 (by decide)) (zz_ro qS7 (fun h => absurd h.2 (by decide)) (zz_ro qS6 (fun h => absurd h.2 (by decide)) (zz_ro qS5 (fun h => absurd h.2 (by decide)) (zz_ro qS4 (fun h => absurd h.2 (by decide)) (zz_ro qS3 (fun h => absurd h.2 (by decide)) (zz_ro qS2 (fun h => absurd h.2 (by decide)) (zz_rs qS1)))))))))))))
  have e16 : S14 1019 12 = 1 := (zz_ro qS14 (fun h => absurd h.2 (by decide)) (zz_ro qS13 (fun h => absurd h.2 (by decide)) o12))
  have e17 : S14 1019 3 = 1 := (zz_ro qS14 (fun h => absurd h.2 (by decide)) (zz_ro qS13 (fun h => absurd h.2 (by decide)) (zz_rc fS11 rfl rfl (fun h => h) (zz_ro qS10 (fun h => absurd h.2 (by decide)) (zz_ro qS9 (fun h => absurd h.2 (by decide)) (zz_ro qS8 (fun h => absurd h.2 (by decide)) (zz_ro qS7 (fun h => absurd h.2 (by decide)) (zz_ro qS6 (fun h => absurd h.2 (by decide)) (zz_ro qS5 (fun h => absurd h.2 (by decide)) (zz_rs qS4))))))))))
  have e18 : S14 1019 4 = 1 := (zz_ro qS14 (fun h => absurd h.2 (by decide)) (zz_ro qS13 (fun h => absurd h.2 (by decide)) (zz_rc fS11 rfl rfl (fun h => h) (zz_ro qS10 (fun h => absurd h.2 (by decide)) (zz_ro qS9 (fun h => absurd h.2 (by decide)) (zz_ro qS8 (fun h => absurd h.2 (by decide)) (zz_ro qS7 (fun h => absurd h.2 (by decide)) (zz_ro qS6 (fun h => absurd h.2 (by decide)) (zz_rs qS5)))))))))
  exact zz_vret zd_4_2_67 rfl (Nat.le_of_ble_eq_true rfl) (Nat.le_of_ble_eq_true rfl) ⟨_, rfl, G_S14, F_S14, by omega⟩
-- TensorForge$Layer <init> ()V at 1019, 1020
abbrev zr_init_4_1_c1019_1020 : Room := { frames := 2, cells := 0, slots := 0, locals := 30 }
def zp_init_4_1_c1019_1020 (S0 : zz_S) : zz_S → Prop := fun S => zz_Gm [1019, 1019, 1019] [] S ∧ zz_fr [(1019, 0), (1019, 1), (1019, 2), (1019, 3), (1019, 4), (1019, 5), (1019, 6), (1019, 7), (1019, 8), (1019, 9), (1019, 10), (1019, 11), (1019, 12), (1019, 13), (1019, 14)] [] (fun _ _ => False) S0 S ∧ (S 1019 0 = 0 ∧ S 1019 3 = 1 ∧ S 1019 4 = 1 ∧ S 1019 12 = 1)
theorem zc_init_4_1_c1019_1020 {g : mm_G} {l : Launch} (S0 : zz_S) (G_S0 : zz_Gm [1019] [] S0) : mm_Met g l zy_init_4_1 zr_init_4_1_c1019_1020 [.ref 1019] (zz_M S0 1020) 1020 (zz_QV 1020 (zp_init_4_1_c1019_1020 S0)) := by
  refine zz_enter (by decide) (Nat.le_of_ble_eq_true rfl) (zz_less (ls1 := [some (.ref 1019)]) ⟨rfl, trivial⟩ ?_)
  have F_S0 : zz_fr [(1019, 0), (1019, 1), (1019, 2), (1019, 3), (1019, 4), (1019, 5), (1019, 6), (1019, 7), (1019, 8), (1019, 9), (1019, 10), (1019, 11), (1019, 12), (1019, 13), (1019, 14)] [] (fun _ _ => False) S0 S0 := zz_fr.refl
  refine zz_aload_n (x := 1019) rfl zd_4_1_0 ?_
  refine zz_objI zd_4_1_1 zoi_Layer_1 zoi.1 zoi.2 (Nat.le_of_ble_eq_true rfl) (Nat.le_of_ble_eq_true rfl) ?_
  refine zz_aload_n (x := 1019) rfl zd_4_1_4 ?_
  refine zz_iconst zd_4_1_5 ?_
  refine zz_iconst zd_4_1_6 ?_
  refine zz_iconst zd_4_1_7 ?_
  refine zz_callVV [zi 0, zi 0, zi 0] zd_4_1_8 zk_Layer_9 zT_1019 (by decide) rfl rfl ⟨Nat.le_of_ble_eq_true rfl, Nat.le_of_ble_eq_true rfl⟩ ⟨rfl, rfl⟩ (Nat.le_of_ble_eq_true rfl) (Nat.le_of_ble_eq_true rfl) (zc_reset_4_2_c1019_1020 S0 (zz_Gm.sub (C1 := [1019]) (X1 := []) G_S0 (by decide +kernel) (by decide +kernel))) (fun S2 hP => ?_)
  obtain ⟨gS2, fS2, o3⟩ := hP
  have F_S2 := zz_fr.trans F_S0 fS2 (by decide +kernel) zz_nv
  have G_S2 := zz_Gm.call [] G_S0 fS2 gS2 (by decide +kernel) (by decide +kernel) (by decide +kernel) (by decide +kernel)
  have g4 := trivial
  have g5 := trivial
  have g6 := trivial
  have g7 := trivial
  exact zz_vret zd_4_1_11 rfl (Nat.le_of_ble_eq_true rfl) (Nat.le_of_ble_eq_true rfl) ⟨_, rfl, G_S2, F_S2, by omega⟩
def zX_18 : List (Nat × Nat) := [(1016, 3), (1016, 4), (1016, 5), (1016, 6), (1016, 7), (1016, 8), (1016, 9), (1016, 10), (1016, 11), (1015, 1)]
-- TensorForge$Layer takeForm (III)V at 1020, 1021
abbrev zr_takeForm_4_3_c1020_1021 : Room := { frames := 0, cells := 0, slots := 0, locals := 0 }
def zp_takeForm_4_3_c1020_1021 (S0 : zz_S) : zz_S → Prop := fun S => zz_Gm [1020] [] S ∧ zz_fr [(1020, 10), (1020, 11), (1020, 12)] [] (fun _ _ => False) S0 S ∧ (S 1020 12 = 1)
theorem zc_takeForm_4_3_c1020_1021 {g : mm_G} {l : Launch} (S0 : zz_S) (G_S0 : zz_Gm [1020] [] S0) : mm_Met g l zy_takeForm_4_3 zr_takeForm_4_3_c1020_1021 [.ref 1020, zi 1, zi 1, zi 1] (zz_M S0 1021) 1021 (zz_QV 1021 (zp_takeForm_4_3_c1020_1021 S0)) := by
  refine zz_enter (by decide) (Nat.le_of_ble_eq_true rfl) (zz_less (ls1 := [some (.ref 1020), some (zi 1), some (zi 1), some (zi 1)]) ⟨rfl, ⟨rfl, ⟨rfl, ⟨rfl, trivial⟩⟩⟩⟩ ?_)
  have F_S0 : zz_fr [(1020, 10), (1020, 11), (1020, 12)] [] (fun _ _ => False) S0 S0 := zz_fr.refl
  refine zz_aload_n (x := 1020) rfl zd_4_3_0 ?_
  refine zz_iload_n (x := 1) rfl zd_4_3_1 ?_
  refine zz_puti zd_4_3_2 zf_Layer_54 zT_1020 rfl (by decide) (fun S1 qS1 => ?_)
  have G_S1 := zz_Gm.put [] G_S0 qS1 (-2147483648) 2147483647 rfl (by decide) (by decide +kernel)
  have F_S1 := zz_fr.puts F_S0 qS1 (by decide +kernel)
  refine zz_aload_n (x := 1020) rfl zd_4_3_5 ?_
  refine zz_iload_n (x := 1) rfl zd_4_3_6 ?_
  refine zz_puti zd_4_3_7 zf_Layer_57 zT_1020 rfl (by decide) (fun S2 qS2 => ?_)
  have G_S2 := zz_Gm.put [] G_S1 qS2 (-2147483648) 2147483647 rfl (by decide) (by decide +kernel)
  have F_S2 := zz_fr.puts F_S1 qS2 (by decide +kernel)
  refine zz_aload_n (x := 1020) rfl zd_4_3_10 ?_
  refine zz_iload_n (x := 1) rfl zd_4_3_11 ?_
  refine zz_puti zd_4_3_12 zf_Layer_60 zT_1020 rfl (by decide) (fun S3 qS3 => ?_)
  have G_S3 := zz_Gm.put [] G_S2 qS3 (-2147483648) 2147483647 rfl (by decide) (by decide +kernel)
  have F_S3 := zz_fr.puts F_S2 qS3 (by decide +kernel)
  have e4 : S3 1020 12 = 1 := (zz_rs qS3)
  exact zz_vret zd_4_3_15 rfl (Nat.le_of_ble_eq_true rfl) (Nat.le_of_ble_eq_true rfl) ⟨_, rfl, G_S3, F_S3, by omega⟩
-- TensorForge$Layer reset (III)V at 1020, 1021
abbrev zr_reset_4_2_c1020_1021 : Room := { frames := 1, cells := 0, slots := 0, locals := 15 }
def zp_reset_4_2_c1020_1021 (S0 : zz_S) : zz_S → Prop := fun S => zz_Gm [1020, 1020] [] S ∧ zz_fr [(1020, 0), (1020, 1), (1020, 2), (1020, 3), (1020, 4), (1020, 5), (1020, 6), (1020, 7), (1020, 8), (1020, 9), (1020, 10), (1020, 11), (1020, 12), (1020, 13), (1020, 14)] [] (fun _ _ => False) S0 S ∧ (S 1020 0 = 0 ∧ S 1020 3 = 1 ∧ S 1020 4 = 1 ∧ S 1020 12 = 1)
theorem zc_reset_4_2_c1020_1021 {g : mm_G} {l : Launch} (S0 : zz_S) (G_S0 : zz_Gm [1020] [] S0) : mm_Met g l zy_reset_4_2 zr_reset_4_2_c1020_1021 [.ref 1020, zi 0, zi 0, zi 0] (zz_M S0 1021) 1021 (zz_QV 1021 (zp_reset_4_2_c1020_1021 S0)) := by
  refine zz_enter (by decide) (Nat.le_of_ble_eq_true rfl) (zz_less (ls1 := [some (.ref 1020), some (zi 0), some (zi 0), some (zi 0)]) ⟨rfl, ⟨rfl, ⟨rfl, ⟨rfl, trivial⟩⟩⟩⟩ ?_)
  have F_S0 : zz_fr [(1020, 0), (1020, 1), (1020, 2), (1020, 3), (1020, 4), (1020, 5), (1020, 6), (1020, 7), (1020, 8), (1020, 9), (1020, 10), (1020, 11), (1020, 12), (1020, 13), (1020, 14)] [] (fun _ _ => False) S0 S0 := zz_fr.refl
  refine zz_aload_n (x := 1020) rfl zd_4_2_0 ?_
  refine zz_iload_n (x := 0) rfl zd_4_2_1 ?_
  refine zz_puti zd_4_2_2 zf_Layer_13 zT_1020 rfl (by decide) (fun S1 qS1 => ?_)
  have G_S1 := zz_Gm.put [] G_S0 qS1 (-2147483648) 2147483647 rfl (by decide) (by decide +kernel)
  have F_S1 := zz_fr.puts F_S0 qS1 (by decide +kernel)
  refine zz_aload_n (x := 1020) rfl zd_4_2_5 ?_
  refine zz_iload_n (x := 0) rfl zd_4_2_6 ?_
  refine zz_puti zd_4_2_7 zf_Layer_17 zT_1020 rfl (by decide) (fun S2 qS2 => ?_)
  have G_S2 := zz_Gm.put [] G_S1 qS2 (-2147483648) 2147483647 rfl (by decide) (by decide +kernel)
  have F_S2 := zz_fr.puts F_S1 qS2 (by decide +kernel)
  refine zz_aload_n (x := 1020) rfl zd_4_2_10 ?_
  refine zz_iload_n (x := 0) rfl zd_4_2_11 ?_
  refine zz_puti zd_4_2_12 zf_Layer_20 zT_1020 rfl (by decide) (fun S3 qS3 => ?_)
  have G_S3 := zz_Gm.put [] G_S2 qS3 (-2147483648) 2147483647 rfl (by decide) (by decide +kernel)
  have F_S3 := zz_fr.puts F_S2 qS3 (by decide +kernel)
  refine zz_aload_n (x := 1020) rfl zd_4_2_15 ?_
  refine zz_iconst zd_4_2_16 ?_
  refine zz_puti zd_4_2_17 zf_Layer_23 zT_1020 rfl (by decide) (fun S4 qS4 => ?_)
  have G_S4 := zz_Gm.put [] G_S3 qS4 (-2147483648) 2147483647 rfl (by decide) (by decide +kernel)
  have F_S4 := zz_fr.puts F_S3 qS4 (by decide +kernel)
  refine zz_aload_n (x := 1020) rfl zd_4_2_20 ?_
  refine zz_iconst zd_4_2_21 ?_
  refine zz_puti zd_4_2_22 zf_Layer_26 zT_1020 rfl (by decide) (fun S5 qS5 => ?_)
  have G_S5 := zz_Gm.put [] G_S4 qS5 (-2147483648) 2147483647 rfl (by decide) (by decide +kernel)
  have F_S5 := zz_fr.puts F_S4 qS5 (by decide +kernel)
  refine zz_aload_n (x := 1020) rfl zd_4_2_25 ?_
  refine zz_iconst zd_4_2_26 ?_
  refine zz_puti zd_4_2_27 zf_Layer_29 zT_1020 rfl (by decide) (fun S6 qS6 => ?_)
  have G_S6 := zz_Gm.put [] G_S5 qS6 (-2147483648) 2147483647 rfl (by decide) (by decide +kernel)
  have F_S6 := zz_fr.puts F_S5 qS6 (by decide +kernel)
  refine zz_aload_n (x := 1020) rfl zd_4_2_30 ?_
  refine zz_iconst zd_4_2_31 ?_
  refine zz_puti zd_4_2_32 zf_Layer_32 zT_1020 rfl (by decide) (fun S7 qS7 => ?_)
  have G_S7 := zz_Gm.put [] G_S6 qS7 (-2147483648) 2147483647 rfl (by decide) (by decide +kernel)
  have F_S7 := zz_fr.puts F_S6 qS7 (by decide +kernel)
  refine zz_aload_n (x := 1020) rfl zd_4_2_35 ?_
  refine zz_iconst zd_4_2_36 ?_
  refine zz_puti zd_4_2_37 zf_Layer_35 zT_1020 rfl (by decide) (fun S8 qS8 => ?_)
  have G_S8 := zz_Gm.put [] G_S7 qS8 (-2147483648) 2147483647 rfl (by decide) (by decide +kernel)
  have F_S8 := zz_fr.puts F_S7 qS8 (by decide +kernel)
  refine zz_aload_n (x := 1020) rfl zd_4_2_40 ?_
  refine zz_iconst zd_4_2_41 ?_
  refine zz_putz zd_4_2_42 zf_Layer_38 zT_1020 rfl (by decide) (by decide) (fun S9 qS9 => ?_)
  have G_S9 := zz_Gm.put [] G_S8 qS9 0 1 rfl (by decide) (by decide +kernel)
  have F_S9 := zz_fr.puts F_S8 qS9 (by decide +kernel)
  refine zz_aload_n (x := 1020) rfl zd_4_2_45 ?_
  refine zz_iconst zd_4_2_46 ?_
  refine zz_puti zd_4_2_47 zf_Layer_42 zT_1020 rfl (by decide) (fun S10 qS10 => ?_)
  have G_S10 := zz_Gm.put [] G_S9 qS10 (-2147483648) 2147483647 rfl (by decide) (by decide +kernel)
  have F_S10 := zz_fr.puts F_S9 qS10 (by decide +kernel)
  refine zz_aload_n (x := 1020) rfl zd_4_2_50 ?_
  refine zz_iconst zd_4_2_51 ?_
  refine zz_iconst zd_4_2_52 ?_
  refine zz_iconst zd_4_2_53 ?_
  refine zz_callVV [zi 1, zi 1, zi 1] zd_4_2_54 zk_Layer_45 zT_1020 (by decide) rfl rfl ⟨Nat.le_of_ble_eq_true rfl, Nat.le_of_ble_eq_true rfl⟩ ⟨rfl, rfl⟩ (Nat.le_of_ble_eq_true rfl) (Nat.le_of_ble_eq_true rfl) (zc_takeForm_4_3_c1020_1021 S10 (zz_Gm.sub (C1 := [1020]) (X1 := []) G_S10 (by decide +kernel) (by decide +kernel))) (fun S11 hP => ?_)
  obtain ⟨gS11, fS11, o12⟩ := hP
  have F_S11 := zz_fr.trans F_S10 fS11 (by decide +kernel) zz_nv
  have G_S11 := zz_Gm.call [] G_S10 fS11 gS11 (by decide +kernel) (by decide +kernel) (by decide +kernel) (by decide +kernel)
  refine zz_aload_n (x := 1020) rfl zd_4_2_57 ?_
  refine zz_iconst zd_4_2_58 ?_
  refine zz_puti zd_4_2_59 zf_Layer_48 zT_1020 rfl (by decide) (fun S13 qS13 => ?_)
  have G_S13 := zz_Gm.put [] G_S11 qS13 (-2147483648) 2147483647 rfl (by decide) (by decide +kernel)
  have F_S13 := zz_fr.puts F_S11 qS13 (by decide +kernel)
  refine zz_aload_n (x := 1020) rfl zd_4_2_62 ?_
  refine zz_iconst zd_4_2_63 ?_
  refine zz_puti zd_4_2_64 zf_Layer_51 zT_1020 rfl (by decide) (fun S14 qS14 => ?_)
  have G_S14 := zz_Gm.put [] G_S13 qS14 (-2147483648) 2147483647 rfl (by decide) (by decide +kernel)
  have F_S14 := zz_fr.puts F_S13 qS14 (by decide +kernel)
  have e15 : S14 1020 0 = 0 := (zz_ro qS14 (fun h => absurd h.2 (by decide)) (zz_ro qS13 (fun h => absurd h.2 (by decide)) (zz_rc fS11 rfl rfl (fun h => h) (zz_ro qS10 (fun h => absurd h.2 (by decide)) (zz_ro qS9 (fun h => absurd h.2 (by decide)) (zz_ro qS8 (fun h => absurd h.2 (by decide)) (zz_ro qS7 (fun h => absurd h.2 (by decide)) (zz_ro qS6 (fun h => absurd h.2 (by decide)) (zz_ro qS5 (fun h => absurd h.2 (by decide)) (zz_ro qS4 (fun h => absurd h.2 (by decide)) (zz_ro qS3 (fun h => absurd h.2 (by decide)) (zz_ro qS2 (fun h => absurd h.2 (by decide)) (zz_rs qS1)))))))))))))
  have e16 : S14 1020 12 = 1 := (zz_ro qS14 (fun h => absurd h.2 (by decide)) (zz_ro qS13 (fun h => absurd h.2 (by decide)) o12))
  have e17 : S14 1020 3 = 1 := (zz_ro qS14 (fun h => absurd h.2 (by decide)) (zz_ro qS13 (fun h => absurd h.2 (by decide)) (zz_rc fS11 rfl rfl (fun h => h) (zz_ro qS10 (fun h => absurd h.2 (by decide)) (zz_ro qS9 (fun h => absurd h.2 (by decide)) (zz_ro qS8 (fun h => absurd h.2 (by decide)) (zz_ro qS7 (fun h => absurd h.2 (by decide)) (zz_ro qS6 (fun h => absurd h.2 (by decide)) (zz_ro qS5 (fun h => absurd h.2 (by decide)) (zz_rs qS4))))))))))
  have e18 : S14 1020 4 = 1 := (zz_ro qS14 (fun h => absurd h.2 (by decide)) (zz_ro qS13 (fun h => absurd h.2 (by decide)) (zz_rc fS11 rfl rfl (fun h => h) (zz_ro qS10 (fun h => absurd h.2 (by decide)) (zz_ro qS9 (fun h => absurd h.2 (by decide)) (zz_ro qS8 (fun h => absurd h.2 (by decide)) (zz_ro qS7 (fun h => absurd h.2 (by decide)) (zz_ro qS6 (fun h => absurd h.2 (by decide)) (zz_rs qS5)))))))))
  exact zz_vret zd_4_2_67 rfl (Nat.le_of_ble_eq_true rfl) (Nat.le_of_ble_eq_true rfl) ⟨_, rfl, G_S14, F_S14, by omega⟩
-- TensorForge$Layer <init> ()V at 1020, 1021
abbrev zr_init_4_1_c1020_1021 : Room := { frames := 2, cells := 0, slots := 0, locals := 30 }
def zp_init_4_1_c1020_1021 (S0 : zz_S) : zz_S → Prop := fun S => zz_Gm [1020, 1020, 1020] [] S ∧ zz_fr [(1020, 0), (1020, 1), (1020, 2), (1020, 3), (1020, 4), (1020, 5), (1020, 6), (1020, 7), (1020, 8), (1020, 9), (1020, 10), (1020, 11), (1020, 12), (1020, 13), (1020, 14)] [] (fun _ _ => False) S0 S ∧ (S 1020 0 = 0 ∧ S 1020 3 = 1 ∧ S 1020 4 = 1 ∧ S 1020 12 = 1)
theorem zc_init_4_1_c1020_1021 {g : mm_G} {l : Launch} (S0 : zz_S) (G_S0 : zz_Gm [1020] [] S0) : mm_Met g l zy_init_4_1 zr_init_4_1_c1020_1021 [.ref 1020] (zz_M S0 1021) 1021 (zz_QV 1021 (zp_init_4_1_c1020_1021 S0)) := by
  refine zz_enter (by decide) (Nat.le_of_ble_eq_true rfl) (zz_less (ls1 := [some (.ref 1020)]) ⟨rfl, trivial⟩ ?_)
  have F_S0 : zz_fr [(1020, 0), (1020, 1), (1020, 2), (1020, 3), (1020, 4), (1020, 5), (1020, 6), (1020, 7), (1020, 8), (1020, 9), (1020, 10), (1020, 11), (1020, 12), (1020, 13), (1020, 14)] [] (fun _ _ => False) S0 S0 := zz_fr.refl
  refine zz_aload_n (x := 1020) rfl zd_4_1_0 ?_
  refine zz_objI zd_4_1_1 zoi_Layer_1 zoi.1 zoi.2 (Nat.le_of_ble_eq_true rfl) (Nat.le_of_ble_eq_true rfl) ?_
  refine zz_aload_n (x := 1020) rfl zd_4_1_4 ?_
  refine zz_iconst zd_4_1_5 ?_
  refine zz_iconst zd_4_1_6 ?_
  refine zz_iconst zd_4_1_7 ?_
  refine zz_callVV [zi 0, zi 0, zi 0] zd_4_1_8 zk_Layer_9 zT_1020 (by decide) rfl rfl ⟨Nat.le_of_ble_eq_true rfl, Nat.le_of_ble_eq_true rfl⟩ ⟨rfl, rfl⟩ (Nat.le_of_ble_eq_true rfl) (Nat.le_of_ble_eq_true rfl) (zc_reset_4_2_c1020_1021 S0 (zz_Gm.sub (C1 := [1020]) (X1 := []) G_S0 (by decide +kernel) (by decide +kernel))) (fun S2 hP => ?_)
  obtain ⟨gS2, fS2, o3⟩ := hP
  have F_S2 := zz_fr.trans F_S0 fS2 (by decide +kernel) zz_nv
  have G_S2 := zz_Gm.call [] G_S0 fS2 gS2 (by decide +kernel) (by decide +kernel) (by decide +kernel) (by decide +kernel)
  have g4 := trivial
  have g5 := trivial
  have g6 := trivial
  have g7 := trivial
  exact zz_vret zd_4_1_11 rfl (Nat.le_of_ble_eq_true rfl) (Nat.le_of_ble_eq_true rfl) ⟨_, rfl, G_S2, F_S2, by omega⟩
def zX_19 : List (Nat × Nat) := [(1016, 4), (1016, 5), (1016, 6), (1016, 7), (1016, 8), (1016, 9), (1016, 10), (1016, 11), (1015, 1)]
-- TensorForge$Layer takeForm (III)V at 1021, 1022
abbrev zr_takeForm_4_3_c1021_1022 : Room := { frames := 0, cells := 0, slots := 0, locals := 0 }
def zp_takeForm_4_3_c1021_1022 (S0 : zz_S) : zz_S → Prop := fun S => zz_Gm [1021] [] S ∧ zz_fr [(1021, 10), (1021, 11), (1021, 12)] [] (fun _ _ => False) S0 S ∧ (S 1021 12 = 1)
theorem zc_takeForm_4_3_c1021_1022 {g : mm_G} {l : Launch} (S0 : zz_S) (G_S0 : zz_Gm [1021] [] S0) : mm_Met g l zy_takeForm_4_3 zr_takeForm_4_3_c1021_1022 [.ref 1021, zi 1, zi 1, zi 1] (zz_M S0 1022) 1022 (zz_QV 1022 (zp_takeForm_4_3_c1021_1022 S0)) := by
  refine zz_enter (by decide) (Nat.le_of_ble_eq_true rfl) (zz_less (ls1 := [some (.ref 1021), some (zi 1), some (zi 1), some (zi 1)]) ⟨rfl, ⟨rfl, ⟨rfl, ⟨rfl, trivial⟩⟩⟩⟩ ?_)
  have F_S0 : zz_fr [(1021, 10), (1021, 11), (1021, 12)] [] (fun _ _ => False) S0 S0 := zz_fr.refl
  refine zz_aload_n (x := 1021) rfl zd_4_3_0 ?_
  refine zz_iload_n (x := 1) rfl zd_4_3_1 ?_
  refine zz_puti zd_4_3_2 zf_Layer_54 zT_1021 rfl (by decide) (fun S1 qS1 => ?_)
  have G_S1 := zz_Gm.put [] G_S0 qS1 (-2147483648) 2147483647 rfl (by decide) (by decide +kernel)
  have F_S1 := zz_fr.puts F_S0 qS1 (by decide +kernel)
  refine zz_aload_n (x := 1021) rfl zd_4_3_5 ?_
  refine zz_iload_n (x := 1) rfl zd_4_3_6 ?_
  refine zz_puti zd_4_3_7 zf_Layer_57 zT_1021 rfl (by decide) (fun S2 qS2 => ?_)
  have G_S2 := zz_Gm.put [] G_S1 qS2 (-2147483648) 2147483647 rfl (by decide) (by decide +kernel)
  have F_S2 := zz_fr.puts F_S1 qS2 (by decide +kernel)
  refine zz_aload_n (x := 1021) rfl zd_4_3_10 ?_
  refine zz_iload_n (x := 1) rfl zd_4_3_11 ?_
  refine zz_puti zd_4_3_12 zf_Layer_60 zT_1021 rfl (by decide) (fun S3 qS3 => ?_)
  have G_S3 := zz_Gm.put [] G_S2 qS3 (-2147483648) 2147483647 rfl (by decide) (by decide +kernel)
  have F_S3 := zz_fr.puts F_S2 qS3 (by decide +kernel)
  have e4 : S3 1021 12 = 1 := (zz_rs qS3)
  exact zz_vret zd_4_3_15 rfl (Nat.le_of_ble_eq_true rfl) (Nat.le_of_ble_eq_true rfl) ⟨_, rfl, G_S3, F_S3, by omega⟩
-- TensorForge$Layer reset (III)V at 1021, 1022
abbrev zr_reset_4_2_c1021_1022 : Room := { frames := 1, cells := 0, slots := 0, locals := 15 }
def zp_reset_4_2_c1021_1022 (S0 : zz_S) : zz_S → Prop := fun S => zz_Gm [1021, 1021] [] S ∧ zz_fr [(1021, 0), (1021, 1), (1021, 2), (1021, 3), (1021, 4), (1021, 5), (1021, 6), (1021, 7), (1021, 8), (1021, 9), (1021, 10), (1021, 11), (1021, 12), (1021, 13), (1021, 14)] [] (fun _ _ => False) S0 S ∧ (S 1021 0 = 0 ∧ S 1021 3 = 1 ∧ S 1021 4 = 1 ∧ S 1021 12 = 1)
theorem zc_reset_4_2_c1021_1022 {g : mm_G} {l : Launch} (S0 : zz_S) (G_S0 : zz_Gm [1021] [] S0) : mm_Met g l zy_reset_4_2 zr_reset_4_2_c1021_1022 [.ref 1021, zi 0, zi 0, zi 0] (zz_M S0 1022) 1022 (zz_QV 1022 (zp_reset_4_2_c1021_1022 S0)) := by
  refine zz_enter (by decide) (Nat.le_of_ble_eq_true rfl) (zz_less (ls1 := [some (.ref 1021), some (zi 0), some (zi 0), some (zi 0)]) ⟨rfl, ⟨rfl, ⟨rfl, ⟨rfl, trivial⟩⟩⟩⟩ ?_)
  have F_S0 : zz_fr [(1021, 0), (1021, 1), (1021, 2), (1021, 3), (1021, 4), (1021, 5), (1021, 6), (1021, 7), (1021, 8), (1021, 9), (1021, 10), (1021, 11), (1021, 12), (1021, 13), (1021, 14)] [] (fun _ _ => False) S0 S0 := zz_fr.refl
  refine zz_aload_n (x := 1021) rfl zd_4_2_0 ?_
  refine zz_iload_n (x := 0) rfl zd_4_2_1 ?_
  refine zz_puti zd_4_2_2 zf_Layer_13 zT_1021 rfl (by decide) (fun S1 qS1 => ?_)
  have G_S1 := zz_Gm.put [] G_S0 qS1 (-2147483648) 2147483647 rfl (by decide) (by decide +kernel)
  have F_S1 := zz_fr.puts F_S0 qS1 (by decide +kernel)
  refine zz_aload_n (x := 1021) rfl zd_4_2_5 ?_
  refine zz_iload_n (x := 0) rfl zd_4_2_6 ?_
  refine zz_puti zd_4_2_7 zf_Layer_17 zT_1021 rfl (by decide) (fun S2 qS2 => ?_)
  have G_S2 := zz_Gm.put [] G_S1 qS2 (-2147483648) 2147483647 rfl (by decide) (by decide +kernel)
  have F_S2 := zz_fr.puts F_S1 qS2 (by decide +kernel)
  refine zz_aload_n (x := 1021) rfl zd_4_2_10 ?_
  refine zz_iload_n (x := 0) rfl zd_4_2_11 ?_
  refine zz_puti zd_4_2_12 zf_Layer_20 zT_1021 rfl (by decide) (fun S3 qS3 => ?_)
  have G_S3 := zz_Gm.put [] G_S2 qS3 (-2147483648) 2147483647 rfl (by decide) (by decide +kernel)
  have F_S3 := zz_fr.puts F_S2 qS3 (by decide +kernel)
  refine zz_aload_n (x := 1021) rfl zd_4_2_15 ?_
  refine zz_iconst zd_4_2_16 ?_
  refine zz_puti zd_4_2_17 zf_Layer_23 zT_1021 rfl (by decide) (fun S4 qS4 => ?_)
  have G_S4 := zz_Gm.put [] G_S3 qS4 (-2147483648) 2147483647 rfl (by decide) (by decide +kernel)
  have F_S4 := zz_fr.puts F_S3 qS4 (by decide +kernel)
  refine zz_aload_n (x := 1021) rfl zd_4_2_20 ?_
  refine zz_iconst zd_4_2_21 ?_
  refine zz_puti zd_4_2_22 zf_Layer_26 zT_1021 rfl (by decide) (fun S5 qS5 => ?_)
  have G_S5 := zz_Gm.put [] G_S4 qS5 (-2147483648) 2147483647 rfl (by decide) (by decide +kernel)
  have F_S5 := zz_fr.puts F_S4 qS5 (by decide +kernel)
  refine zz_aload_n (x := 1021) rfl zd_4_2_25 ?_
  refine zz_iconst zd_4_2_26 ?_
  refine zz_puti zd_4_2_27 zf_Layer_29 zT_1021 rfl (by decide) (fun S6 qS6 => ?_)
  have G_S6 := zz_Gm.put [] G_S5 qS6 (-2147483648) 2147483647 rfl (by decide) (by decide +kernel)
  have F_S6 := zz_fr.puts F_S5 qS6 (by decide +kernel)
  refine zz_aload_n (x := 1021) rfl zd_4_2_30 ?_
  refine zz_iconst zd_4_2_31 ?_
  refine zz_puti zd_4_2_32 zf_Layer_32 zT_1021 rfl (by decide) (fun S7 qS7 => ?_)
  have G_S7 := zz_Gm.put [] G_S6 qS7 (-2147483648) 2147483647 rfl (by decide) (by decide +kernel)
  have F_S7 := zz_fr.puts F_S6 qS7 (by decide +kernel)
  refine zz_aload_n (x := 1021) rfl zd_4_2_35 ?_
  refine zz_iconst zd_4_2_36 ?_
  refine zz_puti zd_4_2_37 zf_Layer_35 zT_1021 rfl (by decide) (fun S8 qS8 => ?_)
  have G_S8 := zz_Gm.put [] G_S7 qS8 (-2147483648) 2147483647 rfl (by decide) (by decide +kernel)
  have F_S8 := zz_fr.puts F_S7 qS8 (by decide +kernel)
  refine zz_aload_n (x := 1021) rfl zd_4_2_40 ?_
  refine zz_iconst zd_4_2_41 ?_
  refine zz_putz zd_4_2_42 zf_Layer_38 zT_1021 rfl (by decide) (by decide) (fun S9 qS9 => ?_)
  have G_S9 := zz_Gm.put [] G_S8 qS9 0 1 rfl (by decide) (by decide +kernel)
  have F_S9 := zz_fr.puts F_S8 qS9 (by decide +kernel)
  refine zz_aload_n (x := 1021) rfl zd_4_2_45 ?_
  refine zz_iconst zd_4_2_46 ?_
  refine zz_puti zd_4_2_47 zf_Layer_42 zT_1021 rfl (by decide) (fun S10 qS10 => ?_)
  have G_S10 := zz_Gm.put [] G_S9 qS10 (-2147483648) 2147483647 rfl (by decide) (by decide +kernel)
  have F_S10 := zz_fr.puts F_S9 qS10 (by decide +kernel)
  refine zz_aload_n (x := 1021) rfl zd_4_2_50 ?_
  refine zz_iconst zd_4_2_51 ?_
  refine zz_iconst zd_4_2_52 ?_
  refine zz_iconst zd_4_2_53 ?_
  refine zz_callVV [zi 1, zi 1, zi 1] zd_4_2_54 zk_Layer_45 zT_1021 (by decide) rfl rfl ⟨Nat.le_of_ble_eq_true rfl, Nat.le_of_ble_eq_true rfl⟩ ⟨rfl, rfl⟩ (Nat.le_of_ble_eq_true rfl) (Nat.le_of_ble_eq_true rfl) (zc_takeForm_4_3_c1021_1022 S10 (zz_Gm.sub (C1 := [1021]) (X1 := []) G_S10 (by decide +kernel) (by decide +kernel))) (fun S11 hP => ?_)
  obtain ⟨gS11, fS11, o12⟩ := hP
  have F_S11 := zz_fr.trans F_S10 fS11 (by decide +kernel) zz_nv
  have G_S11 := zz_Gm.call [] G_S10 fS11 gS11 (by decide +kernel) (by decide +kernel) (by decide +kernel) (by decide +kernel)
  refine zz_aload_n (x := 1021) rfl zd_4_2_57 ?_
  refine zz_iconst zd_4_2_58 ?_
  refine zz_puti zd_4_2_59 zf_Layer_48 zT_1021 rfl (by decide) (fun S13 qS13 => ?_)
  have G_S13 := zz_Gm.put [] G_S11 qS13 (-2147483648) 2147483647 rfl (by decide) (by decide +kernel)
  have F_S13 := zz_fr.puts F_S11 qS13 (by decide +kernel)
  refine zz_aload_n (x := 1021) rfl zd_4_2_62 ?_
  refine zz_iconst zd_4_2_63 ?_
  refine zz_puti zd_4_2_64 zf_Layer_51 zT_1021 rfl (by decide) (fun S14 qS14 => ?_)
  have G_S14 := zz_Gm.put [] G_S13 qS14 (-2147483648) 2147483647 rfl (by decide) (by decide +kernel)
  have F_S14 := zz_fr.puts F_S13 qS14 (by decide +kernel)
  have e15 : S14 1021 0 = 0 := (zz_ro qS14 (fun h => absurd h.2 (by decide)) (zz_ro qS13 (fun h => absurd h.2 (by decide)) (zz_rc fS11 rfl rfl (fun h => h) (zz_ro qS10 (fun h => absurd h.2 (by decide)) (zz_ro qS9 (fun h => absurd h.2 (by decide)) (zz_ro qS8 (fun h => absurd h.2 (by decide)) (zz_ro qS7 (fun h => absurd h.2 (by decide)) (zz_ro qS6 (fun h => absurd h.2 (by decide)) (zz_ro qS5 (fun h => absurd h.2 (by decide)) (zz_ro qS4 (fun h => absurd h.2 (by decide)) (zz_ro qS3 (fun h => absurd h.2 (by decide)) (zz_ro qS2 (fun h => absurd h.2 (by decide)) (zz_rs qS1)))))))))))))
  have e16 : S14 1021 12 = 1 := (zz_ro qS14 (fun h => absurd h.2 (by decide)) (zz_ro qS13 (fun h => absurd h.2 (by decide)) o12))
  have e17 : S14 1021 3 = 1 := (zz_ro qS14 (fun h => absurd h.2 (by decide)) (zz_ro qS13 (fun h => absurd h.2 (by decide)) (zz_rc fS11 rfl rfl (fun h => h) (zz_ro qS10 (fun h => absurd h.2 (by decide)) (zz_ro qS9 (fun h => absurd h.2 (by decide)) (zz_ro qS8 (fun h => absurd h.2 (by decide)) (zz_ro qS7 (fun h => absurd h.2 (by decide)) (zz_ro qS6 (fun h => absurd h.2 (by decide)) (zz_ro qS5 (fun h => absurd h.2 (by decide)) (zz_rs qS4))))))))))
  have e18 : S14 1021 4 = 1 := (zz_ro qS14 (fun h => absurd h.2 (by decide)) (zz_ro qS13 (fun h => absurd h.2 (by decide)) (zz_rc fS11 rfl rfl (fun h => h) (zz_ro qS10 (fun h => absurd h.2 (by decide)) (zz_ro qS9 (fun h => absurd h.2 (by decide)) (zz_ro qS8 (fun h => absurd h.2 (by decide)) (zz_ro qS7 (fun h => absurd h.2 (by decide)) (zz_ro qS6 (fun h => absurd h.2 (by decide)) (zz_rs qS5)))))))))
  exact zz_vret zd_4_2_67 rfl (Nat.le_of_ble_eq_true rfl) (Nat.le_of_ble_eq_true rfl) ⟨_, rfl, G_S14, F_S14, by omega⟩
-- TensorForge$Layer <init> ()V at 1021, 1022
abbrev zr_init_4_1_c1021_1022 : Room := { frames := 2, cells := 0, slots := 0, locals := 30 }
def zp_init_4_1_c1021_1022 (S0 : zz_S) : zz_S → Prop := fun S => zz_Gm [1021, 1021, 1021] [] S ∧ zz_fr [(1021, 0), (1021, 1), (1021, 2), (1021, 3), (1021, 4), (1021, 5), (1021, 6), (1021, 7), (1021, 8), (1021, 9), (1021, 10), (1021, 11), (1021, 12), (1021, 13), (1021, 14)] [] (fun _ _ => False) S0 S ∧ (S 1021 0 = 0 ∧ S 1021 3 = 1 ∧ S 1021 4 = 1 ∧ S 1021 12 = 1)
theorem zc_init_4_1_c1021_1022 {g : mm_G} {l : Launch} (S0 : zz_S) (G_S0 : zz_Gm [1021] [] S0) : mm_Met g l zy_init_4_1 zr_init_4_1_c1021_1022 [.ref 1021] (zz_M S0 1022) 1022 (zz_QV 1022 (zp_init_4_1_c1021_1022 S0)) := by
  refine zz_enter (by decide) (Nat.le_of_ble_eq_true rfl) (zz_less (ls1 := [some (.ref 1021)]) ⟨rfl, trivial⟩ ?_)
  have F_S0 : zz_fr [(1021, 0), (1021, 1), (1021, 2), (1021, 3), (1021, 4), (1021, 5), (1021, 6), (1021, 7), (1021, 8), (1021, 9), (1021, 10), (1021, 11), (1021, 12), (1021, 13), (1021, 14)] [] (fun _ _ => False) S0 S0 := zz_fr.refl
  refine zz_aload_n (x := 1021) rfl zd_4_1_0 ?_
  refine zz_objI zd_4_1_1 zoi_Layer_1 zoi.1 zoi.2 (Nat.le_of_ble_eq_true rfl) (Nat.le_of_ble_eq_true rfl) ?_
  refine zz_aload_n (x := 1021) rfl zd_4_1_4 ?_
  refine zz_iconst zd_4_1_5 ?_
  refine zz_iconst zd_4_1_6 ?_
  refine zz_iconst zd_4_1_7 ?_
  refine zz_callVV [zi 0, zi 0, zi 0] zd_4_1_8 zk_Layer_9 zT_1021 (by decide) rfl rfl ⟨Nat.le_of_ble_eq_true rfl, Nat.le_of_ble_eq_true rfl⟩ ⟨rfl, rfl⟩ (Nat.le_of_ble_eq_true rfl) (Nat.le_of_ble_eq_true rfl) (zc_reset_4_2_c1021_1022 S0 (zz_Gm.sub (C1 := [1021]) (X1 := []) G_S0 (by decide +kernel) (by decide +kernel))) (fun S2 hP => ?_)
  obtain ⟨gS2, fS2, o3⟩ := hP
  have F_S2 := zz_fr.trans F_S0 fS2 (by decide +kernel) zz_nv
  have G_S2 := zz_Gm.call [] G_S0 fS2 gS2 (by decide +kernel) (by decide +kernel) (by decide +kernel) (by decide +kernel)
  have g4 := trivial
  have g5 := trivial
  have g6 := trivial
  have g7 := trivial
  exact zz_vret zd_4_1_11 rfl (Nat.le_of_ble_eq_true rfl) (Nat.le_of_ble_eq_true rfl) ⟨_, rfl, G_S2, F_S2, by omega⟩
def zX_20 : List (Nat × Nat) := [(1016, 5), (1016, 6), (1016, 7), (1016, 8), (1016, 9), (1016, 10), (1016, 11), (1015, 1)]
-- TensorForge$Layer takeForm (III)V at 1022, 1023
abbrev zr_takeForm_4_3_c1022_1023 : Room := { frames := 0, cells := 0, slots := 0, locals := 0 }
def zp_takeForm_4_3_c1022_1023 (S0 : zz_S) : zz_S → Prop := fun S => zz_Gm [1022] [] S ∧ zz_fr [(1022, 10), (1022, 11), (1022, 12)] [] (fun _ _ => False) S0 S ∧ (S 1022 12 = 1)
theorem zc_takeForm_4_3_c1022_1023 {g : mm_G} {l : Launch} (S0 : zz_S) (G_S0 : zz_Gm [1022] [] S0) : mm_Met g l zy_takeForm_4_3 zr_takeForm_4_3_c1022_1023 [.ref 1022, zi 1, zi 1, zi 1] (zz_M S0 1023) 1023 (zz_QV 1023 (zp_takeForm_4_3_c1022_1023 S0)) := by
  refine zz_enter (by decide) (Nat.le_of_ble_eq_true rfl) (zz_less (ls1 := [some (.ref 1022), some (zi 1), some (zi 1), some (zi 1)]) ⟨rfl, ⟨rfl, ⟨rfl, ⟨rfl, trivial⟩⟩⟩⟩ ?_)
  have F_S0 : zz_fr [(1022, 10), (1022, 11), (1022, 12)] [] (fun _ _ => False) S0 S0 := zz_fr.refl
  refine zz_aload_n (x := 1022) rfl zd_4_3_0 ?_
  refine zz_iload_n (x := 1) rfl zd_4_3_1 ?_
  refine zz_puti zd_4_3_2 zf_Layer_54 zT_1022 rfl (by decide) (fun S1 qS1 => ?_)
  have G_S1 := zz_Gm.put [] G_S0 qS1 (-2147483648) 2147483647 rfl (by decide) (by decide +kernel)
  have F_S1 := zz_fr.puts F_S0 qS1 (by decide +kernel)
  refine zz_aload_n (x := 1022) rfl zd_4_3_5 ?_
  refine zz_iload_n (x := 1) rfl zd_4_3_6 ?_
  refine zz_puti zd_4_3_7 zf_Layer_57 zT_1022 rfl (by decide) (fun S2 qS2 => ?_)
  have G_S2 := zz_Gm.put [] G_S1 qS2 (-2147483648) 2147483647 rfl (by decide) (by decide +kernel)
  have F_S2 := zz_fr.puts F_S1 qS2 (by decide +kernel)
  refine zz_aload_n (x := 1022) rfl zd_4_3_10 ?_
  refine zz_iload_n (x := 1) rfl zd_4_3_11 ?_
  refine zz_puti zd_4_3_12 zf_Layer_60 zT_1022 rfl (by decide) (fun S3 qS3 => ?_)
  have G_S3 := zz_Gm.put [] G_S2 qS3 (-2147483648) 2147483647 rfl (by decide) (by decide +kernel)
  have F_S3 := zz_fr.puts F_S2 qS3 (by decide +kernel)
  have e4 : S3 1022 12 = 1 := (zz_rs qS3)
  exact zz_vret zd_4_3_15 rfl (Nat.le_of_ble_eq_true rfl) (Nat.le_of_ble_eq_true rfl) ⟨_, rfl, G_S3, F_S3, by omega⟩
-- TensorForge$Layer reset (III)V at 1022, 1023
abbrev zr_reset_4_2_c1022_1023 : Room := { frames := 1, cells := 0, slots := 0, locals := 15 }
def zp_reset_4_2_c1022_1023 (S0 : zz_S) : zz_S → Prop := fun S => zz_Gm [1022, 1022] [] S ∧ zz_fr [(1022, 0), (1022, 1), (1022, 2), (1022, 3), (1022, 4), (1022, 5), (1022, 6), (1022, 7), (1022, 8), (1022, 9), (1022, 10), (1022, 11), (1022, 12), (1022, 13), (1022, 14)] [] (fun _ _ => False) S0 S ∧ (S 1022 0 = 0 ∧ S 1022 3 = 1 ∧ S 1022 4 = 1 ∧ S 1022 12 = 1)
theorem zc_reset_4_2_c1022_1023 {g : mm_G} {l : Launch} (S0 : zz_S) (G_S0 : zz_Gm [1022] [] S0) : mm_Met g l zy_reset_4_2 zr_reset_4_2_c1022_1023 [.ref 1022, zi 0, zi 0, zi 0] (zz_M S0 1023) 1023 (zz_QV 1023 (zp_reset_4_2_c1022_1023 S0)) := by
  refine zz_enter (by decide) (Nat.le_of_ble_eq_true rfl) (zz_less (ls1 := [some (.ref 1022), some (zi 0), some (zi 0), some (zi 0)]) ⟨rfl, ⟨rfl, ⟨rfl, ⟨rfl, trivial⟩⟩⟩⟩ ?_)
  have F_S0 : zz_fr [(1022, 0), (1022, 1), (1022, 2), (1022, 3), (1022, 4), (1022, 5), (1022, 6), (1022, 7), (1022, 8), (1022, 9), (1022, 10), (1022, 11), (1022, 12), (1022, 13), (1022, 14)] [] (fun _ _ => False) S0 S0 := zz_fr.refl
  refine zz_aload_n (x := 1022) rfl zd_4_2_0 ?_
  refine zz_iload_n (x := 0) rfl zd_4_2_1 ?_
  refine zz_puti zd_4_2_2 zf_Layer_13 zT_1022 rfl (by decide) (fun S1 qS1 => ?_)
  have G_S1 := zz_Gm.put [] G_S0 qS1 (-2147483648) 2147483647 rfl (by decide) (by decide +kernel)
  have F_S1 := zz_fr.puts F_S0 qS1 (by decide +kernel)
  refine zz_aload_n (x := 1022) rfl zd_4_2_5 ?_
  refine zz_iload_n (x := 0) rfl zd_4_2_6 ?_
  refine zz_puti zd_4_2_7 zf_Layer_17 zT_1022 rfl (by decide) (fun S2 qS2 => ?_)
  have G_S2 := zz_Gm.put [] G_S1 qS2 (-2147483648) 2147483647 rfl (by decide) (by decide +kernel)
  have F_S2 := zz_fr.puts F_S1 qS2 (by decide +kernel)
  refine zz_aload_n (x := 1022) rfl zd_4_2_10 ?_
  refine zz_iload_n (x := 0) rfl zd_4_2_11 ?_
  refine zz_puti zd_4_2_12 zf_Layer_20 zT_1022 rfl (by decide) (fun S3 qS3 => ?_)
  have G_S3 := zz_Gm.put [] G_S2 qS3 (-2147483648) 2147483647 rfl (by decide) (by decide +kernel)
  have F_S3 := zz_fr.puts F_S2 qS3 (by decide +kernel)
  refine zz_aload_n (x := 1022) rfl zd_4_2_15 ?_
  refine zz_iconst zd_4_2_16 ?_
  refine zz_puti zd_4_2_17 zf_Layer_23 zT_1022 rfl (by decide) (fun S4 qS4 => ?_)
  have G_S4 := zz_Gm.put [] G_S3 qS4 (-2147483648) 2147483647 rfl (by decide) (by decide +kernel)
  have F_S4 := zz_fr.puts F_S3 qS4 (by decide +kernel)
  refine zz_aload_n (x := 1022) rfl zd_4_2_20 ?_
  refine zz_iconst zd_4_2_21 ?_
  refine zz_puti zd_4_2_22 zf_Layer_26 zT_1022 rfl (by decide) (fun S5 qS5 => ?_)
  have G_S5 := zz_Gm.put [] G_S4 qS5 (-2147483648) 2147483647 rfl (by decide) (by decide +kernel)
  have F_S5 := zz_fr.puts F_S4 qS5 (by decide +kernel)
  refine zz_aload_n (x := 1022) rfl zd_4_2_25 ?_
  refine zz_iconst zd_4_2_26 ?_
  refine zz_puti zd_4_2_27 zf_Layer_29 zT_1022 rfl (by decide) (fun S6 qS6 => ?_)
  have G_S6 := zz_Gm.put [] G_S5 qS6 (-2147483648) 2147483647 rfl (by decide) (by decide +kernel)
  have F_S6 := zz_fr.puts F_S5 qS6 (by decide +kernel)
  refine zz_aload_n (x := 1022) rfl zd_4_2_30 ?_
  refine zz_iconst zd_4_2_31 ?_
  refine zz_puti zd_4_2_32 zf_Layer_32 zT_1022 rfl (by decide) (fun S7 qS7 => ?_)
  have G_S7 := zz_Gm.put [] G_S6 qS7 (-2147483648) 2147483647 rfl (by decide) (by decide +kernel)
  have F_S7 := zz_fr.puts F_S6 qS7 (by decide +kernel)
  refine zz_aload_n (x := 1022) rfl zd_4_2_35 ?_
  refine zz_iconst zd_4_2_36 ?_
  refine zz_puti zd_4_2_37 zf_Layer_35 zT_1022 rfl (by decide) (fun S8 qS8 => ?_)
  have G_S8 := zz_Gm.put [] G_S7 qS8 (-2147483648) 2147483647 rfl (by decide) (by decide +kernel)
  have F_S8 := zz_fr.puts F_S7 qS8 (by decide +kernel)
  refine zz_aload_n (x := 1022) rfl zd_4_2_40 ?_
  refine zz_iconst zd_4_2_41 ?_
  refine zz_putz zd_4_2_42 zf_Layer_38 zT_1022 rfl (by decide) (by decide) (fun S9 qS9 => ?_)
  have G_S9 := zz_Gm.put [] G_S8 qS9 0 1 rfl (by decide) (by decide +kernel)
  have F_S9 := zz_fr.puts F_S8 qS9 (by decide +kernel)
  refine zz_aload_n (x := 1022) rfl zd_4_2_45 ?_
  refine zz_iconst zd_4_2_46 ?_
  refine zz_puti zd_4_2_47 zf_Layer_42 zT_1022 rfl (by decide) (fun S10 qS10 => ?_)
  have G_S10 := zz_Gm.put [] G_S9 qS10 (-2147483648) 2147483647 rfl (by decide) (by decide +kernel)
  have F_S10 := zz_fr.puts F_S9 qS10 (by decide +kernel)
  refine zz_aload_n (x := 1022) rfl zd_4_2_50 ?_
  refine zz_iconst zd_4_2_51 ?_
  refine zz_iconst zd_4_2_52 ?_
  refine zz_iconst zd_4_2_53 ?_
  refine zz_callVV [zi 1, zi 1, zi 1] zd_4_2_54 zk_Layer_45 zT_1022 (by decide) rfl rfl ⟨Nat.le_of_ble_eq_true rfl, Nat.le_of_ble_eq_true rfl⟩ ⟨rfl, rfl⟩ (Nat.le_of_ble_eq_true rfl) (Nat.le_of_ble_eq_true rfl) (zc_takeForm_4_3_c1022_1023 S10 (zz_Gm.sub (C1 := [1022]) (X1 := []) G_S10 (by decide +kernel) (by decide +kernel))) (fun S11 hP => ?_)
  obtain ⟨gS11, fS11, o12⟩ := hP
  have F_S11 := zz_fr.trans F_S10 fS11 (by decide +kernel) zz_nv
  have G_S11 := zz_Gm.call [] G_S10 fS11 gS11 (by decide +kernel) (by decide +kernel) (by decide +kernel) (by decide +kernel)
  refine zz_aload_n (x := 1022) rfl zd_4_2_57 ?_
  refine zz_iconst zd_4_2_58 ?_
  refine zz_puti zd_4_2_59 zf_Layer_48 zT_1022 rfl (by decide) (fun S13 qS13 => ?_)
  have G_S13 := zz_Gm.put [] G_S11 qS13 (-2147483648) 2147483647 rfl (by decide) (by decide +kernel)
  have F_S13 := zz_fr.puts F_S11 qS13 (by decide +kernel)
  refine zz_aload_n (x := 1022) rfl zd_4_2_62 ?_
  refine zz_iconst zd_4_2_63 ?_
  refine zz_puti zd_4_2_64 zf_Layer_51 zT_1022 rfl (by decide) (fun S14 qS14 => ?_)
  have G_S14 := zz_Gm.put [] G_S13 qS14 (-2147483648) 2147483647 rfl (by decide) (by decide +kernel)
  have F_S14 := zz_fr.puts F_S13 qS14 (by decide +kernel)
  have e15 : S14 1022 0 = 0 := (zz_ro qS14 (fun h => absurd h.2 (by decide)) (zz_ro qS13 (fun h => absurd h.2 (by decide)) (zz_rc fS11 rfl rfl (fun h => h) (zz_ro qS10 (fun h => absurd h.2 (by decide)) (zz_ro qS9 (fun h => absurd h.2 (by decide)) (zz_ro qS8 (fun h => absurd h.2 (by decide)) (zz_ro qS7 (fun h => absurd h.2 (by decide)) (zz_ro qS6 (fun h => absurd h.2 (by decide)) (zz_ro qS5 (fun h => absurd h.2 (by decide)) (zz_ro qS4 (fun h => absurd h.2 (by decide)) (zz_ro qS3 (fun h => absurd h.2 (by decide)) (zz_ro qS2 (fun h => absurd h.2 (by decide)) (zz_rs qS1)))))))))))))
  have e16 : S14 1022 12 = 1 := (zz_ro qS14 (fun h => absurd h.2 (by decide)) (zz_ro qS13 (fun h => absurd h.2 (by decide)) o12))
  have e17 : S14 1022 3 = 1 := (zz_ro qS14 (fun h => absurd h.2 (by decide)) (zz_ro qS13 (fun h => absurd h.2 (by decide)) (zz_rc fS11 rfl rfl (fun h => h) (zz_ro qS10 (fun h => absurd h.2 (by decide)) (zz_ro qS9 (fun h => absurd h.2 (by decide)) (zz_ro qS8 (fun h => absurd h.2 (by decide)) (zz_ro qS7 (fun h => absurd h.2 (by decide)) (zz_ro qS6 (fun h => absurd h.2 (by decide)) (zz_ro qS5 (fun h => absurd h.2 (by decide)) (zz_rs qS4))))))))))
  have e18 : S14 1022 4 = 1 := (zz_ro qS14 (fun h => absurd h.2 (by decide)) (zz_ro qS13 (fun h => absurd h.2 (by decide)) (zz_rc fS11 rfl rfl (fun h => h) (zz_ro qS10 (fun h => absurd h.2 (by decide)) (zz_ro qS9 (fun h => absurd h.2 (by decide)) (zz_ro qS8 (fun h => absurd h.2 (by decide)) (zz_ro qS7 (fun h => absurd h.2 (by decide)) (zz_ro qS6 (fun h => absurd h.2 (by decide)) (zz_rs qS5)))))))))
  exact zz_vret zd_4_2_67 rfl (Nat.le_of_ble_eq_true rfl) (Nat.le_of_ble_eq_true rfl) ⟨_, rfl, G_S14, F_S14, by omega⟩
-- TensorForge$Layer <init> ()V at 1022, 1023
abbrev zr_init_4_1_c1022_1023 : Room := { frames := 2, cells := 0, slots := 0, locals := 30 }
def zp_init_4_1_c1022_1023 (S0 : zz_S) : zz_S → Prop := fun S => zz_Gm [1022, 1022, 1022] [] S ∧ zz_fr [(1022, 0), (1022, 1), (1022, 2), (1022, 3), (1022, 4), (1022, 5), (1022, 6), (1022, 7), (1022, 8), (1022, 9), (1022, 10), (1022, 11), (1022, 12), (1022, 13), (1022, 14)] [] (fun _ _ => False) S0 S ∧ (S 1022 0 = 0 ∧ S 1022 3 = 1 ∧ S 1022 4 = 1 ∧ S 1022 12 = 1)
theorem zc_init_4_1_c1022_1023 {g : mm_G} {l : Launch} (S0 : zz_S) (G_S0 : zz_Gm [1022] [] S0) : mm_Met g l zy_init_4_1 zr_init_4_1_c1022_1023 [.ref 1022] (zz_M S0 1023) 1023 (zz_QV 1023 (zp_init_4_1_c1022_1023 S0)) := by
  refine zz_enter (by decide) (Nat.le_of_ble_eq_true rfl) (zz_less (ls1 := [some (.ref 1022)]) ⟨rfl, trivial⟩ ?_)
  have F_S0 : zz_fr [(1022, 0), (1022, 1), (1022, 2), (1022, 3), (1022, 4), (1022, 5), (1022, 6), (1022, 7), (1022, 8), (1022, 9), (1022, 10), (1022, 11), (1022, 12), (1022, 13), (1022, 14)] [] (fun _ _ => False) S0 S0 := zz_fr.refl
  refine zz_aload_n (x := 1022) rfl zd_4_1_0 ?_
  refine zz_objI zd_4_1_1 zoi_Layer_1 zoi.1 zoi.2 (Nat.le_of_ble_eq_true rfl) (Nat.le_of_ble_eq_true rfl) ?_
  refine zz_aload_n (x := 1022) rfl zd_4_1_4 ?_
  refine zz_iconst zd_4_1_5 ?_
  refine zz_iconst zd_4_1_6 ?_
  refine zz_iconst zd_4_1_7 ?_
  refine zz_callVV [zi 0, zi 0, zi 0] zd_4_1_8 zk_Layer_9 zT_1022 (by decide) rfl rfl ⟨Nat.le_of_ble_eq_true rfl, Nat.le_of_ble_eq_true rfl⟩ ⟨rfl, rfl⟩ (Nat.le_of_ble_eq_true rfl) (Nat.le_of_ble_eq_true rfl) (zc_reset_4_2_c1022_1023 S0 (zz_Gm.sub (C1 := [1022]) (X1 := []) G_S0 (by decide +kernel) (by decide +kernel))) (fun S2 hP => ?_)
  obtain ⟨gS2, fS2, o3⟩ := hP
  have F_S2 := zz_fr.trans F_S0 fS2 (by decide +kernel) zz_nv
  have G_S2 := zz_Gm.call [] G_S0 fS2 gS2 (by decide +kernel) (by decide +kernel) (by decide +kernel) (by decide +kernel)
  have g4 := trivial
  have g5 := trivial
  have g6 := trivial
  have g7 := trivial
  exact zz_vret zd_4_1_11 rfl (Nat.le_of_ble_eq_true rfl) (Nat.le_of_ble_eq_true rfl) ⟨_, rfl, G_S2, F_S2, by omega⟩
def zX_21 : List (Nat × Nat) := [(1016, 6), (1016, 7), (1016, 8), (1016, 9), (1016, 10), (1016, 11), (1015, 1)]
-- TensorForge$Layer takeForm (III)V at 1023, 1024
abbrev zr_takeForm_4_3_c1023_1024 : Room := { frames := 0, cells := 0, slots := 0, locals := 0 }
def zp_takeForm_4_3_c1023_1024 (S0 : zz_S) : zz_S → Prop := fun S => zz_Gm [1023] [] S ∧ zz_fr [(1023, 10), (1023, 11), (1023, 12)] [] (fun _ _ => False) S0 S ∧ (S 1023 12 = 1)
theorem zc_takeForm_4_3_c1023_1024 {g : mm_G} {l : Launch} (S0 : zz_S) (G_S0 : zz_Gm [1023] [] S0) : mm_Met g l zy_takeForm_4_3 zr_takeForm_4_3_c1023_1024 [.ref 1023, zi 1, zi 1, zi 1] (zz_M S0 1024) 1024 (zz_QV 1024 (zp_takeForm_4_3_c1023_1024 S0)) := by
  refine zz_enter (by decide) (Nat.le_of_ble_eq_true rfl) (zz_less (ls1 := [some (.ref 1023), some (zi 1), some (zi 1), some (zi 1)]) ⟨rfl, ⟨rfl, ⟨rfl, ⟨rfl, trivial⟩⟩⟩⟩ ?_)
  have F_S0 : zz_fr [(1023, 10), (1023, 11), (1023, 12)] [] (fun _ _ => False) S0 S0 := zz_fr.refl
  refine zz_aload_n (x := 1023) rfl zd_4_3_0 ?_
  refine zz_iload_n (x := 1) rfl zd_4_3_1 ?_
  refine zz_puti zd_4_3_2 zf_Layer_54 zT_1023 rfl (by decide) (fun S1 qS1 => ?_)
  have G_S1 := zz_Gm.put [] G_S0 qS1 (-2147483648) 2147483647 rfl (by decide) (by decide +kernel)
  have F_S1 := zz_fr.puts F_S0 qS1 (by decide +kernel)
  refine zz_aload_n (x := 1023) rfl zd_4_3_5 ?_
  refine zz_iload_n (x := 1) rfl zd_4_3_6 ?_
  refine zz_puti zd_4_3_7 zf_Layer_57 zT_1023 rfl (by decide) (fun S2 qS2 => ?_)
  have G_S2 := zz_Gm.put [] G_S1 qS2 (-2147483648) 2147483647 rfl (by decide) (by decide +kernel)
  have F_S2 := zz_fr.puts F_S1 qS2 (by decide +kernel)
  refine zz_aload_n (x := 1023) rfl zd_4_3_10 ?_
  refine zz_iload_n (x := 1) rfl zd_4_3_11 ?_
  refine zz_puti zd_4_3_12 zf_Layer_60 zT_1023 rfl (by decide) (fun S3 qS3 => ?_)
  have G_S3 := zz_Gm.put [] G_S2 qS3 (-2147483648) 2147483647 rfl (by decide) (by decide +kernel)
  have F_S3 := zz_fr.puts F_S2 qS3 (by decide +kernel)
  have e4 : S3 1023 12 = 1 := (zz_rs qS3)
  exact zz_vret zd_4_3_15 rfl (Nat.le_of_ble_eq_true rfl) (Nat.le_of_ble_eq_true rfl) ⟨_, rfl, G_S3, F_S3, by omega⟩
-- TensorForge$Layer reset (III)V at 1023, 1024
abbrev zr_reset_4_2_c1023_1024 : Room := { frames := 1, cells := 0, slots := 0, locals := 15 }
def zp_reset_4_2_c1023_1024 (S0 : zz_S) : zz_S → Prop := fun S => zz_Gm [1023, 1023] [] S ∧ zz_fr [(1023, 0), (1023, 1), (1023, 2), (1023, 3), (1023, 4), (1023, 5), (1023, 6), (1023, 7), (1023, 8), (1023, 9), (1023, 10), (1023, 11), (1023, 12), (1023, 13), (1023, 14)] [] (fun _ _ => False) S0 S ∧ (S 1023 0 = 0 ∧ S 1023 3 = 1 ∧ S 1023 4 = 1 ∧ S 1023 12 = 1)
theorem zc_reset_4_2_c1023_1024 {g : mm_G} {l : Launch} (S0 : zz_S) (G_S0 : zz_Gm [1023] [] S0) : mm_Met g l zy_reset_4_2 zr_reset_4_2_c1023_1024 [.ref 1023, zi 0, zi 0, zi 0] (zz_M S0 1024) 1024 (zz_QV 1024 (zp_reset_4_2_c1023_1024 S0)) := by
  refine zz_enter (by decide) (Nat.le_of_ble_eq_true rfl) (zz_less (ls1 := [some (.ref 1023), some (zi 0), some (zi 0), some (zi 0)]) ⟨rfl, ⟨rfl, ⟨rfl, ⟨rfl, trivial⟩⟩⟩⟩ ?_)
  have F_S0 : zz_fr [(1023, 0), (1023, 1), (1023, 2), (1023, 3), (1023, 4), (1023, 5), (1023, 6), (1023, 7), (1023, 8), (1023, 9), (1023, 10), (1023, 11), (1023, 12), (1023, 13), (1023, 14)] [] (fun _ _ => False) S0 S0 := zz_fr.refl
  refine zz_aload_n (x := 1023) rfl zd_4_2_0 ?_
  refine zz_iload_n (x := 0) rfl zd_4_2_1 ?_
  refine zz_puti zd_4_2_2 zf_Layer_13 zT_1023 rfl (by decide) (fun S1 qS1 => ?_)
  have G_S1 := zz_Gm.put [] G_S0 qS1 (-2147483648) 2147483647 rfl (by decide) (by decide +kernel)
  have F_S1 := zz_fr.puts F_S0 qS1 (by decide +kernel)
  refine zz_aload_n (x := 1023) rfl zd_4_2_5 ?_
  refine zz_iload_n (x := 0) rfl zd_4_2_6 ?_
  refine zz_puti zd_4_2_7 zf_Layer_17 zT_1023 rfl (by decide) (fun S2 qS2 => ?_)
  have G_S2 := zz_Gm.put [] G_S1 qS2 (-2147483648) 2147483647 rfl (by decide) (by decide +kernel)
  have F_S2 := zz_fr.puts F_S1 qS2 (by decide +kernel)
  refine zz_aload_n (x := 1023) rfl zd_4_2_10 ?_
  refine zz_iload_n (x := 0) rfl zd_4_2_11 ?_
  refine zz_puti zd_4_2_12 zf_Layer_20 zT_1023 rfl (by decide) (fun S3 qS3 => ?_)
  have G_S3 := zz_Gm.put [] G_S2 qS3 (-2147483648) 2147483647 rfl (by decide) (by decide +kernel)
  have F_S3 := zz_fr.puts F_S2 qS3 (by decide +kernel)
  refine zz_aload_n (x := 1023) rfl zd_4_2_15 ?_
  refine zz_iconst zd_4_2_16 ?_
  refine zz_puti zd_4_2_17 zf_Layer_23 zT_1023 rfl (by decide) (fun S4 qS4 => ?_)
  have G_S4 := zz_Gm.put [] G_S3 qS4 (-2147483648) 2147483647 rfl (by decide) (by decide +kernel)
  have F_S4 := zz_fr.puts F_S3 qS4 (by decide +kernel)
  refine zz_aload_n (x := 1023) rfl zd_4_2_20 ?_
  refine zz_iconst zd_4_2_21 ?_
  refine zz_puti zd_4_2_22 zf_Layer_26 zT_1023 rfl (by decide) (fun S5 qS5 => ?_)
  have G_S5 := zz_Gm.put [] G_S4 qS5 (-2147483648) 2147483647 rfl (by decide) (by decide +kernel)
  have F_S5 := zz_fr.puts F_S4 qS5 (by decide +kernel)
  refine zz_aload_n (x := 1023) rfl zd_4_2_25 ?_
  refine zz_iconst zd_4_2_26 ?_
  refine zz_puti zd_4_2_27 zf_Layer_29 zT_1023 rfl (by decide) (fun S6 qS6 => ?_)
  have G_S6 := zz_Gm.put [] G_S5 qS6 (-2147483648) 2147483647 rfl (by decide) (by decide +kernel)
  have F_S6 := zz_fr.puts F_S5 qS6 (by decide +kernel)
  refine zz_aload_n (x := 1023) rfl zd_4_2_30 ?_
  refine zz_iconst zd_4_2_31 ?_
  refine zz_puti zd_4_2_32 zf_Layer_32 zT_1023 rfl (by decide) (fun S7 qS7 => ?_)
  have G_S7 := zz_Gm.put [] G_S6 qS7 (-2147483648) 2147483647 rfl (by decide) (by decide +kernel)
  have F_S7 := zz_fr.puts F_S6 qS7 (by decide +kernel)
  refine zz_aload_n (x := 1023) rfl zd_4_2_35 ?_
  refine zz_iconst zd_4_2_36 ?_
  refine zz_puti zd_4_2_37 zf_Layer_35 zT_1023 rfl (by decide) (fun S8 qS8 => ?_)
  have G_S8 := zz_Gm.put [] G_S7 qS8 (-2147483648) 2147483647 rfl (by decide) (by decide +kernel)
  have F_S8 := zz_fr.puts F_S7 qS8 (by decide +kernel)
  refine zz_aload_n (x := 1023) rfl zd_4_2_40 ?_
  refine zz_iconst zd_4_2_41 ?_
  refine zz_putz zd_4_2_42 zf_Layer_38 zT_1023 rfl (by decide) (by decide) (fun S9 qS9 => ?_)
  have G_S9 := zz_Gm.put [] G_S8 qS9 0 1 rfl (by decide) (by decide +kernel)
  have F_S9 := zz_fr.puts F_S8 qS9 (by decide +kernel)
  refine zz_aload_n (x := 1023) rfl zd_4_2_45 ?_
  refine zz_iconst zd_4_2_46 ?_
  refine zz_puti zd_4_2_47 zf_Layer_42 zT_1023 rfl (by decide) (fun S10 qS10 => ?_)
  have G_S10 := zz_Gm.put [] G_S9 qS10 (-2147483648) 2147483647 rfl (by decide) (by decide +kernel)
  have F_S10 := zz_fr.puts F_S9 qS10 (by decide +kernel)
  refine zz_aload_n (x := 1023) rfl zd_4_2_50 ?_
  refine zz_iconst zd_4_2_51 ?_
  refine zz_iconst zd_4_2_52 ?_
  refine zz_iconst zd_4_2_53 ?_
  refine zz_callVV [zi 1, zi 1, zi 1] zd_4_2_54 zk_Layer_45 zT_1023 (by decide) rfl rfl ⟨Nat.le_of_ble_eq_true rfl, Nat.le_of_ble_eq_true rfl⟩ ⟨rfl, rfl⟩ (Nat.le_of_ble_eq_true rfl) (Nat.le_of_ble_eq_true rfl) (zc_takeForm_4_3_c1023_1024 S10 (zz_Gm.sub (C1 := [1023]) (X1 := []) G_S10 (by decide +kernel) (by decide +kernel))) (fun S11 hP => ?_)
  obtain ⟨gS11, fS11, o12⟩ := hP
  have F_S11 := zz_fr.trans F_S10 fS11 (by decide +kernel) zz_nv
  have G_S11 := zz_Gm.call [] G_S10 fS11 gS11 (by decide +kernel) (by decide +kernel) (by decide +kernel) (by decide +kernel)
  refine zz_aload_n (x := 1023) rfl zd_4_2_57 ?_
  refine zz_iconst zd_4_2_58 ?_
  refine zz_puti zd_4_2_59 zf_Layer_48 zT_1023 rfl (by decide) (fun S13 qS13 => ?_)
  have G_S13 := zz_Gm.put [] G_S11 qS13 (-2147483648) 2147483647 rfl (by decide) (by decide +kernel)
  have F_S13 := zz_fr.puts F_S11 qS13 (by decide +kernel)
  refine zz_aload_n (x := 1023) rfl zd_4_2_62 ?_
  refine zz_iconst zd_4_2_63 ?_
  refine zz_puti zd_4_2_64 zf_Layer_51 zT_1023 rfl (by decide) (fun S14 qS14 => ?_)
  have G_S14 := zz_Gm.put [] G_S13 qS14 (-2147483648) 2147483647 rfl (by decide) (by decide +kernel)
  have F_S14 := zz_fr.puts F_S13 qS14 (by decide +kernel)
  have e15 : S14 1023 0 = 0 := (zz_ro qS14 (fun h => absurd h.2 (by decide)) (zz_ro qS13 (fun h => absurd h.2 (by decide)) (zz_rc fS11 rfl rfl (fun h => h) (zz_ro qS10 (fun h => absurd h.2 (by decide)) (zz_ro qS9 (fun h => absurd h.2 (by decide)) (zz_ro qS8 (fun h => absurd h.2 (by decide)) (zz_ro qS7 (fun h => absurd h.2 (by decide)) (zz_ro qS6 (fun h => absurd h.2 (by decide)) (zz_ro qS5 (fun h => absurd h.2 (by decide)) (zz_ro qS4 (fun h => absurd h.2 (by decide)) (zz_ro qS3 (fun h => absurd h.2 (by decide)) (zz_ro qS2 (fun h => absurd h.2 (by decide)) (zz_rs qS1)))))))))))))
  have e16 : S14 1023 12 = 1 := (zz_ro qS14 (fun h => absurd h.2 (by decide)) (zz_ro qS13 (fun h => absurd h.2 (by decide)) o12))
  have e17 : S14 1023 3 = 1 := (zz_ro qS14 (fun h => absurd h.2 (by decide)) (zz_ro qS13 (fun h => absurd h.2 (by decide)) (zz_rc fS11 rfl rfl (fun h => h) (zz_ro qS10 (fun h => absurd h.2 (by decide)) (zz_ro qS9 (fun h => absurd h.2 (by decide)) (zz_ro qS8 (fun h => absurd h.2 (by decide)) (zz_ro qS7 (fun h => absurd h.2 (by decide)) (zz_ro qS6 (fun h => absurd h.2 (by decide)) (zz_ro qS5 (fun h => absurd h.2 (by decide)) (zz_rs qS4))))))))))
  have e18 : S14 1023 4 = 1 := (zz_ro qS14 (fun h => absurd h.2 (by decide)) (zz_ro qS13 (fun h => absurd h.2 (by decide)) (zz_rc fS11 rfl rfl (fun h => h) (zz_ro qS10 (fun h => absurd h.2 (by decide)) (zz_ro qS9 (fun h => absurd h.2 (by decide)) (zz_ro qS8 (fun h => absurd h.2 (by decide)) (zz_ro qS7 (fun h => absurd h.2 (by decide)) (zz_ro qS6 (fun h => absurd h.2 (by decide)) (zz_rs qS5)))))))))
  exact zz_vret zd_4_2_67 rfl (Nat.le_of_ble_eq_true rfl) (Nat.le_of_ble_eq_true rfl) ⟨_, rfl, G_S14, F_S14, by omega⟩
-- TensorForge$Layer <init> ()V at 1023, 1024
abbrev zr_init_4_1_c1023_1024 : Room := { frames := 2, cells := 0, slots := 0, locals := 30 }
def zp_init_4_1_c1023_1024 (S0 : zz_S) : zz_S → Prop := fun S => zz_Gm [1023, 1023, 1023] [] S ∧ zz_fr [(1023, 0), (1023, 1), (1023, 2), (1023, 3), (1023, 4), (1023, 5), (1023, 6), (1023, 7), (1023, 8), (1023, 9), (1023, 10), (1023, 11), (1023, 12), (1023, 13), (1023, 14)] [] (fun _ _ => False) S0 S ∧ (S 1023 0 = 0 ∧ S 1023 3 = 1 ∧ S 1023 4 = 1 ∧ S 1023 12 = 1)
theorem zc_init_4_1_c1023_1024 {g : mm_G} {l : Launch} (S0 : zz_S) (G_S0 : zz_Gm [1023] [] S0) : mm_Met g l zy_init_4_1 zr_init_4_1_c1023_1024 [.ref 1023] (zz_M S0 1024) 1024 (zz_QV 1024 (zp_init_4_1_c1023_1024 S0)) := by
  refine zz_enter (by decide) (Nat.le_of_ble_eq_true rfl) (zz_less (ls1 := [some (.ref 1023)]) ⟨rfl, trivial⟩ ?_)
  have F_S0 : zz_fr [(1023, 0), (1023, 1), (1023, 2), (1023, 3), (1023, 4), (1023, 5), (1023, 6), (1023, 7), (1023, 8), (1023, 9), (1023, 10), (1023, 11), (1023, 12), (1023, 13), (1023, 14)] [] (fun _ _ => False) S0 S0 := zz_fr.refl
  refine zz_aload_n (x := 1023) rfl zd_4_1_0 ?_
  refine zz_objI zd_4_1_1 zoi_Layer_1 zoi.1 zoi.2 (Nat.le_of_ble_eq_true rfl) (Nat.le_of_ble_eq_true rfl) ?_
  refine zz_aload_n (x := 1023) rfl zd_4_1_4 ?_
  refine zz_iconst zd_4_1_5 ?_
  refine zz_iconst zd_4_1_6 ?_
  refine zz_iconst zd_4_1_7 ?_
  refine zz_callVV [zi 0, zi 0, zi 0] zd_4_1_8 zk_Layer_9 zT_1023 (by decide) rfl rfl ⟨Nat.le_of_ble_eq_true rfl, Nat.le_of_ble_eq_true rfl⟩ ⟨rfl, rfl⟩ (Nat.le_of_ble_eq_true rfl) (Nat.le_of_ble_eq_true rfl) (zc_reset_4_2_c1023_1024 S0 (zz_Gm.sub (C1 := [1023]) (X1 := []) G_S0 (by decide +kernel) (by decide +kernel))) (fun S2 hP => ?_)
  obtain ⟨gS2, fS2, o3⟩ := hP
  have F_S2 := zz_fr.trans F_S0 fS2 (by decide +kernel) zz_nv
  have G_S2 := zz_Gm.call [] G_S0 fS2 gS2 (by decide +kernel) (by decide +kernel) (by decide +kernel) (by decide +kernel)
  have g4 := trivial
  have g5 := trivial
  have g6 := trivial
  have g7 := trivial
  exact zz_vret zd_4_1_11 rfl (Nat.le_of_ble_eq_true rfl) (Nat.le_of_ble_eq_true rfl) ⟨_, rfl, G_S2, F_S2, by omega⟩
def zX_22 : List (Nat × Nat) := [(1016, 7), (1016, 8), (1016, 9), (1016, 10), (1016, 11), (1015, 1)]
-- TensorForge$Layer takeForm (III)V at 1024, 1025
abbrev zr_takeForm_4_3_c1024_1025 : Room := { frames := 0, cells := 0, slots := 0, locals := 0 }
def zp_takeForm_4_3_c1024_1025 (S0 : zz_S) : zz_S → Prop := fun S => zz_Gm [1024] [] S ∧ zz_fr [(1024, 10), (1024, 11), (1024, 12)] [] (fun _ _ => False) S0 S ∧ (S 1024 12 = 1)
theorem zc_takeForm_4_3_c1024_1025 {g : mm_G} {l : Launch} (S0 : zz_S) (G_S0 : zz_Gm [1024] [] S0) : mm_Met g l zy_takeForm_4_3 zr_takeForm_4_3_c1024_1025 [.ref 1024, zi 1, zi 1, zi 1] (zz_M S0 1025) 1025 (zz_QV 1025 (zp_takeForm_4_3_c1024_1025 S0)) := by
  refine zz_enter (by decide) (Nat.le_of_ble_eq_true rfl) (zz_less (ls1 := [some (.ref 1024), some (zi 1), some (zi 1), some (zi 1)]) ⟨rfl, ⟨rfl, ⟨rfl, ⟨rfl, trivial⟩⟩⟩⟩ ?_)
  have F_S0 : zz_fr [(1024, 10), (1024, 11), (1024, 12)] [] (fun _ _ => False) S0 S0 := zz_fr.refl
  refine zz_aload_n (x := 1024) rfl zd_4_3_0 ?_
  refine zz_iload_n (x := 1) rfl zd_4_3_1 ?_
  refine zz_puti zd_4_3_2 zf_Layer_54 zT_1024 rfl (by decide) (fun S1 qS1 => ?_)
  have G_S1 := zz_Gm.put [] G_S0 qS1 (-2147483648) 2147483647 rfl (by decide) (by decide +kernel)
  have F_S1 := zz_fr.puts F_S0 qS1 (by decide +kernel)
  refine zz_aload_n (x := 1024) rfl zd_4_3_5 ?_
  refine zz_iload_n (x := 1) rfl zd_4_3_6 ?_
  refine zz_puti zd_4_3_7 zf_Layer_57 zT_1024 rfl (by decide) (fun S2 qS2 => ?_)
  have G_S2 := zz_Gm.put [] G_S1 qS2 (-2147483648) 2147483647 rfl (by decide) (by decide +kernel)
  have F_S2 := zz_fr.puts F_S1 qS2 (by decide +kernel)
  refine zz_aload_n (x := 1024) rfl zd_4_3_10 ?_
  refine zz_iload_n (x := 1) rfl zd_4_3_11 ?_
  refine zz_puti zd_4_3_12 zf_Layer_60 zT_1024 rfl (by decide) (fun S3 qS3 => ?_)
  have G_S3 := zz_Gm.put [] G_S2 qS3 (-2147483648) 2147483647 rfl (by decide) (by decide +kernel)
  have F_S3 := zz_fr.puts F_S2 qS3 (by decide +kernel)
  have e4 : S3 1024 12 = 1 := (zz_rs qS3)
  exact zz_vret zd_4_3_15 rfl (Nat.le_of_ble_eq_true rfl) (Nat.le_of_ble_eq_true rfl) ⟨_, rfl, G_S3, F_S3, by omega⟩
-- TensorForge$Layer reset (III)V at 1024, 1025
abbrev zr_reset_4_2_c1024_1025 : Room := { frames := 1, cells := 0, slots := 0, locals := 15 }
def zp_reset_4_2_c1024_1025 (S0 : zz_S) : zz_S → Prop := fun S => zz_Gm [1024, 1024] [] S ∧ zz_fr [(1024, 0), (1024, 1), (1024, 2), (1024, 3), (1024, 4), (1024, 5), (1024, 6), (1024, 7), (1024, 8), (1024, 9), (1024, 10), (1024, 11), (1024, 12), (1024, 13), (1024, 14)] [] (fun _ _ => False) S0 S ∧ (S 1024 0 = 0 ∧ S 1024 3 = 1 ∧ S 1024 4 = 1 ∧ S 1024 12 = 1)
theorem zc_reset_4_2_c1024_1025 {g : mm_G} {l : Launch} (S0 : zz_S) (G_S0 : zz_Gm [1024] [] S0) : mm_Met g l zy_reset_4_2 zr_reset_4_2_c1024_1025 [.ref 1024, zi 0, zi 0, zi 0] (zz_M S0 1025) 1025 (zz_QV 1025 (zp_reset_4_2_c1024_1025 S0)) := by
  refine zz_enter (by decide) (Nat.le_of_ble_eq_true rfl) (zz_less (ls1 := [some (.ref 1024), some (zi 0), some (zi 0), some (zi 0)]) ⟨rfl, ⟨rfl, ⟨rfl, ⟨rfl, trivial⟩⟩⟩⟩ ?_)
  have F_S0 : zz_fr [(1024, 0), (1024, 1), (1024, 2), (1024, 3), (1024, 4), (1024, 5), (1024, 6), (1024, 7), (1024, 8), (1024, 9), (1024, 10), (1024, 11), (1024, 12), (1024, 13), (1024, 14)] [] (fun _ _ => False) S0 S0 := zz_fr.refl
  refine zz_aload_n (x := 1024) rfl zd_4_2_0 ?_
  refine zz_iload_n (x := 0) rfl zd_4_2_1 ?_
  refine zz_puti zd_4_2_2 zf_Layer_13 zT_1024 rfl (by decide) (fun S1 qS1 => ?_)
  have G_S1 := zz_Gm.put [] G_S0 qS1 (-2147483648) 2147483647 rfl (by decide) (by decide +kernel)
  have F_S1 := zz_fr.puts F_S0 qS1 (by decide +kernel)
  refine zz_aload_n (x := 1024) rfl zd_4_2_5 ?_
  refine zz_iload_n (x := 0) rfl zd_4_2_6 ?_
  refine zz_puti zd_4_2_7 zf_Layer_17 zT_1024 rfl (by decide) (fun S2 qS2 => ?_)
  have G_S2 := zz_Gm.put [] G_S1 qS2 (-2147483648) 2147483647 rfl (by decide) (by decide +kernel)
  have F_S2 := zz_fr.puts F_S1 qS2 (by decide +kernel)
  refine zz_aload_n (x := 1024) rfl zd_4_2_10 ?_
  refine zz_iload_n (x := 0) rfl zd_4_2_11 ?_
  refine zz_puti zd_4_2_12 zf_Layer_20 zT_1024 rfl (by decide) (fun S3 qS3 => ?_)
  have G_S3 := zz_Gm.put [] G_S2 qS3 (-2147483648) 2147483647 rfl (by decide) (by decide +kernel)
  have F_S3 := zz_fr.puts F_S2 qS3 (by decide +kernel)
  refine zz_aload_n (x := 1024) rfl zd_4_2_15 ?_
  refine zz_iconst zd_4_2_16 ?_
  refine zz_puti zd_4_2_17 zf_Layer_23 zT_1024 rfl (by decide) (fun S4 qS4 => ?_)
  have G_S4 := zz_Gm.put [] G_S3 qS4 (-2147483648) 2147483647 rfl (by decide) (by decide +kernel)
  have F_S4 := zz_fr.puts F_S3 qS4 (by decide +kernel)
  refine zz_aload_n (x := 1024) rfl zd_4_2_20 ?_
  refine zz_iconst zd_4_2_21 ?_
  refine zz_puti zd_4_2_22 zf_Layer_26 zT_1024 rfl (by decide) (fun S5 qS5 => ?_)
  have G_S5 := zz_Gm.put [] G_S4 qS5 (-2147483648) 2147483647 rfl (by decide) (by decide +kernel)
  have F_S5 := zz_fr.puts F_S4 qS5 (by decide +kernel)
  refine zz_aload_n (x := 1024) rfl zd_4_2_25 ?_
  refine zz_iconst zd_4_2_26 ?_
  refine zz_puti zd_4_2_27 zf_Layer_29 zT_1024 rfl (by decide) (fun S6 qS6 => ?_)
  have G_S6 := zz_Gm.put [] G_S5 qS6 (-2147483648) 2147483647 rfl (by decide) (by decide +kernel)
  have F_S6 := zz_fr.puts F_S5 qS6 (by decide +kernel)
  refine zz_aload_n (x := 1024) rfl zd_4_2_30 ?_
  refine zz_iconst zd_4_2_31 ?_
  refine zz_puti zd_4_2_32 zf_Layer_32 zT_1024 rfl (by decide) (fun S7 qS7 => ?_)
  have G_S7 := zz_Gm.put [] G_S6 qS7 (-2147483648) 2147483647 rfl (by decide) (by decide +kernel)
  have F_S7 := zz_fr.puts F_S6 qS7 (by decide +kernel)
  refine zz_aload_n (x := 1024) rfl zd_4_2_35 ?_
  refine zz_iconst zd_4_2_36 ?_
  refine zz_puti zd_4_2_37 zf_Layer_35 zT_1024 rfl (by decide) (fun S8 qS8 => ?_)
  have G_S8 := zz_Gm.put [] G_S7 qS8 (-2147483648) 2147483647 rfl (by decide) (by decide +kernel)
  have F_S8 := zz_fr.puts F_S7 qS8 (by decide +kernel)
  refine zz_aload_n (x := 1024) rfl zd_4_2_40 ?_
  refine zz_iconst zd_4_2_41 ?_
  refine zz_putz zd_4_2_42 zf_Layer_38 zT_1024 rfl (by decide) (by decide) (fun S9 qS9 => ?_)
  have G_S9 := zz_Gm.put [] G_S8 qS9 0 1 rfl (by decide) (by decide +kernel)
  have F_S9 := zz_fr.puts F_S8 qS9 (by decide +kernel)
  refine zz_aload_n (x := 1024) rfl zd_4_2_45 ?_
  refine zz_iconst zd_4_2_46 ?_
  refine zz_puti zd_4_2_47 zf_Layer_42 zT_1024 rfl (by decide) (fun S10 qS10 => ?_)
  have G_S10 := zz_Gm.put [] G_S9 qS10 (-2147483648) 2147483647 rfl (by decide) (by decide +kernel)
  have F_S10 := zz_fr.puts F_S9 qS10 (by decide +kernel)
  refine zz_aload_n (x := 1024) rfl zd_4_2_50 ?_
  refine zz_iconst zd_4_2_51 ?_
  refine zz_iconst zd_4_2_52 ?_
  refine zz_iconst zd_4_2_53 ?_
  refine zz_callVV [zi 1, zi 1, zi 1] zd_4_2_54 zk_Layer_45 zT_1024 (by decide) rfl rfl ⟨Nat.le_of_ble_eq_true rfl, Nat.le_of_ble_eq_true rfl⟩ ⟨rfl, rfl⟩ (Nat.le_of_ble_eq_true rfl) (Nat.le_of_ble_eq_true rfl) (zc_takeForm_4_3_c1024_1025 S10 (zz_Gm.sub (C1 := [1024]) (X1 := []) G_S10 (by decide +kernel) (by decide +kernel))) (fun S11 hP => ?_)
  obtain ⟨gS11, fS11, o12⟩ := hP
  have F_S11 := zz_fr.trans F_S10 fS11 (by decide +kernel) zz_nv
  have G_S11 := zz_Gm.call [] G_S10 fS11 gS11 (by decide +kernel) (by decide +kernel) (by decide +kernel) (by decide +kernel)
  refine zz_aload_n (x := 1024) rfl zd_4_2_57 ?_
  refine zz_iconst zd_4_2_58 ?_
  refine zz_puti zd_4_2_59 zf_Layer_48 zT_1024 rfl (by decide) (fun S13 qS13 => ?_)
  have G_S13 := zz_Gm.put [] G_S11 qS13 (-2147483648) 2147483647 rfl (by decide) (by decide +kernel)
  have F_S13 := zz_fr.puts F_S11 qS13 (by decide +kernel)
  refine zz_aload_n (x := 1024) rfl zd_4_2_62 ?_
  refine zz_iconst zd_4_2_63 ?_
  refine zz_puti zd_4_2_64 zf_Layer_51 zT_1024 rfl (by decide) (fun S14 qS14 => ?_)
  have G_S14 := zz_Gm.put [] G_S13 qS14 (-2147483648) 2147483647 rfl (by decide) (by decide +kernel)
  have F_S14 := zz_fr.puts F_S13 qS14 (by decide +kernel)
  have e15 : S14 1024 0 = 0 := (zz_ro qS14 (fun h => absurd h.2 (by decide)) (zz_ro qS13 (fun h => absurd h.2 (by decide)) (zz_rc fS11 rfl rfl (fun h => h) (zz_ro qS10 (fun h => absurd h.2 (by decide)) (zz_ro qS9 (fun h => absurd h.2 (by decide)) (zz_ro qS8 (fun h => absurd h.2 (by decide)) (zz_ro qS7 (fun h => absurd h.2 (by decide)) (zz_ro qS6 (fun h => absurd h.2 (by decide)) (zz_ro qS5 (fun h => absurd h.2 (by decide)) (zz_ro qS4 (fun h => absurd h.2 (by decide)) (zz_ro qS3 (fun h => absurd h.2 (by decide)) (zz_ro qS2 (fun h => absurd h.2 (by decide)) (zz_rs qS1)))))))))))))
  have e16 : S14 1024 12 = 1 := (zz_ro qS14 (fun h => absurd h.2 (by decide)) (zz_ro qS13 (fun h => absurd h.2 (by decide)) o12))
  have e17 : S14 1024 3 = 1 := (zz_ro qS14 (fun h => absurd h.2 (by decide)) (zz_ro qS13 (fun h => absurd h.2 (by decide)) (zz_rc fS11 rfl rfl (fun h => h) (zz_ro qS10 (fun h => absurd h.2 (by decide)) (zz_ro qS9 (fun h => absurd h.2 (by decide)) (zz_ro qS8 (fun h => absurd h.2 (by decide)) (zz_ro qS7 (fun h => absurd h.2 (by decide)) (zz_ro qS6 (fun h => absurd h.2 (by decide)) (zz_ro qS5 (fun h => absurd h.2 (by decide)) (zz_rs qS4))))))))))
  have e18 : S14 1024 4 = 1 := (zz_ro qS14 (fun h => absurd h.2 (by decide)) (zz_ro qS13 (fun h => absurd h.2 (by decide)) (zz_rc fS11 rfl rfl (fun h => h) (zz_ro qS10 (fun h => absurd h.2 (by decide)) (zz_ro qS9 (fun h => absurd h.2 (by decide)) (zz_ro qS8 (fun h => absurd h.2 (by decide)) (zz_ro qS7 (fun h => absurd h.2 (by decide)) (zz_ro qS6 (fun h => absurd h.2 (by decide)) (zz_rs qS5)))))))))
  exact zz_vret zd_4_2_67 rfl (Nat.le_of_ble_eq_true rfl) (Nat.le_of_ble_eq_true rfl) ⟨_, rfl, G_S14, F_S14, by omega⟩
-- TensorForge$Layer <init> ()V at 1024, 1025
abbrev zr_init_4_1_c1024_1025 : Room := { frames := 2, cells := 0, slots := 0, locals := 30 }
def zp_init_4_1_c1024_1025 (S0 : zz_S) : zz_S → Prop := fun S => zz_Gm [1024, 1024, 1024] [] S ∧ zz_fr [(1024, 0), (1024, 1), (1024, 2), (1024, 3), (1024, 4), (1024, 5), (1024, 6), (1024, 7), (1024, 8), (1024, 9), (1024, 10), (1024, 11), (1024, 12), (1024, 13), (1024, 14)] [] (fun _ _ => False) S0 S ∧ (S 1024 0 = 0 ∧ S 1024 3 = 1 ∧ S 1024 4 = 1 ∧ S 1024 12 = 1)
theorem zc_init_4_1_c1024_1025 {g : mm_G} {l : Launch} (S0 : zz_S) (G_S0 : zz_Gm [1024] [] S0) : mm_Met g l zy_init_4_1 zr_init_4_1_c1024_1025 [.ref 1024] (zz_M S0 1025) 1025 (zz_QV 1025 (zp_init_4_1_c1024_1025 S0)) := by
  refine zz_enter (by decide) (Nat.le_of_ble_eq_true rfl) (zz_less (ls1 := [some (.ref 1024)]) ⟨rfl, trivial⟩ ?_)
  have F_S0 : zz_fr [(1024, 0), (1024, 1), (1024, 2), (1024, 3), (1024, 4), (1024, 5), (1024, 6), (1024, 7), (1024, 8), (1024, 9), (1024, 10), (1024, 11), (1024, 12), (1024, 13), (1024, 14)] [] (fun _ _ => False) S0 S0 := zz_fr.refl
  refine zz_aload_n (x := 1024) rfl zd_4_1_0 ?_
  refine zz_objI zd_4_1_1 zoi_Layer_1 zoi.1 zoi.2 (Nat.le_of_ble_eq_true rfl) (Nat.le_of_ble_eq_true rfl) ?_
  refine zz_aload_n (x := 1024) rfl zd_4_1_4 ?_
  refine zz_iconst zd_4_1_5 ?_
  refine zz_iconst zd_4_1_6 ?_
  refine zz_iconst zd_4_1_7 ?_
  refine zz_callVV [zi 0, zi 0, zi 0] zd_4_1_8 zk_Layer_9 zT_1024 (by decide) rfl rfl ⟨Nat.le_of_ble_eq_true rfl, Nat.le_of_ble_eq_true rfl⟩ ⟨rfl, rfl⟩ (Nat.le_of_ble_eq_true rfl) (Nat.le_of_ble_eq_true rfl) (zc_reset_4_2_c1024_1025 S0 (zz_Gm.sub (C1 := [1024]) (X1 := []) G_S0 (by decide +kernel) (by decide +kernel))) (fun S2 hP => ?_)
  obtain ⟨gS2, fS2, o3⟩ := hP
  have F_S2 := zz_fr.trans F_S0 fS2 (by decide +kernel) zz_nv
  have G_S2 := zz_Gm.call [] G_S0 fS2 gS2 (by decide +kernel) (by decide +kernel) (by decide +kernel) (by decide +kernel)
  have g4 := trivial
  have g5 := trivial
  have g6 := trivial
  have g7 := trivial
  exact zz_vret zd_4_1_11 rfl (Nat.le_of_ble_eq_true rfl) (Nat.le_of_ble_eq_true rfl) ⟨_, rfl, G_S2, F_S2, by omega⟩
def zX_23 : List (Nat × Nat) := [(1016, 8), (1016, 9), (1016, 10), (1016, 11), (1015, 1)]
-- TensorForge$Layer takeForm (III)V at 1025, 1026
abbrev zr_takeForm_4_3_c1025_1026 : Room := { frames := 0, cells := 0, slots := 0, locals := 0 }
def zp_takeForm_4_3_c1025_1026 (S0 : zz_S) : zz_S → Prop := fun S => zz_Gm [1025] [] S ∧ zz_fr [(1025, 10), (1025, 11), (1025, 12)] [] (fun _ _ => False) S0 S ∧ (S 1025 12 = 1)
theorem zc_takeForm_4_3_c1025_1026 {g : mm_G} {l : Launch} (S0 : zz_S) (G_S0 : zz_Gm [1025] [] S0) : mm_Met g l zy_takeForm_4_3 zr_takeForm_4_3_c1025_1026 [.ref 1025, zi 1, zi 1, zi 1] (zz_M S0 1026) 1026 (zz_QV 1026 (zp_takeForm_4_3_c1025_1026 S0)) := by
  refine zz_enter (by decide) (Nat.le_of_ble_eq_true rfl) (zz_less (ls1 := [some (.ref 1025), some (zi 1), some (zi 1), some (zi 1)]) ⟨rfl, ⟨rfl, ⟨rfl, ⟨rfl, trivial⟩⟩⟩⟩ ?_)
  have F_S0 : zz_fr [(1025, 10), (1025, 11), (1025, 12)] [] (fun _ _ => False) S0 S0 := zz_fr.refl
  refine zz_aload_n (x := 1025) rfl zd_4_3_0 ?_
  refine zz_iload_n (x := 1) rfl zd_4_3_1 ?_
  refine zz_puti zd_4_3_2 zf_Layer_54 zT_1025 rfl (by decide) (fun S1 qS1 => ?_)
  have G_S1 := zz_Gm.put [] G_S0 qS1 (-2147483648) 2147483647 rfl (by decide) (by decide +kernel)
  have F_S1 := zz_fr.puts F_S0 qS1 (by decide +kernel)
  refine zz_aload_n (x := 1025) rfl zd_4_3_5 ?_
  refine zz_iload_n (x := 1) rfl zd_4_3_6 ?_
  refine zz_puti zd_4_3_7 zf_Layer_57 zT_1025 rfl (by decide) (fun S2 qS2 => ?_)
  have G_S2 := zz_Gm.put [] G_S1 qS2 (-2147483648) 2147483647 rfl (by decide) (by decide +kernel)
  have F_S2 := zz_fr.puts F_S1 qS2 (by decide +kernel)
  refine zz_aload_n (x := 1025) rfl zd_4_3_10 ?_
  refine zz_iload_n (x := 1) rfl zd_4_3_11 ?_
  refine zz_puti zd_4_3_12 zf_Layer_60 zT_1025 rfl (by decide) (fun S3 qS3 => ?_)
  have G_S3 := zz_Gm.put [] G_S2 qS3 (-2147483648) 2147483647 rfl (by decide) (by decide +kernel)
  have F_S3 := zz_fr.puts F_S2 qS3 (by decide +kernel)
  have e4 : S3 1025 12 = 1 := (zz_rs qS3)
  exact zz_vret zd_4_3_15 rfl (Nat.le_of_ble_eq_true rfl) (Nat.le_of_ble_eq_true rfl) ⟨_, rfl, G_S3, F_S3, by omega⟩
-- TensorForge$Layer reset (III)V at 1025, 1026
abbrev zr_reset_4_2_c1025_1026 : Room := { frames := 1, cells := 0, slots := 0, locals := 15 }
def zp_reset_4_2_c1025_1026 (S0 : zz_S) : zz_S → Prop := fun S => zz_Gm [1025, 1025] [] S ∧ zz_fr [(1025, 0), (1025, 1), (1025, 2), (1025, 3), (1025, 4), (1025, 5), (1025, 6), (1025, 7), (1025, 8), (1025, 9), (1025, 10), (1025, 11), (1025, 12), (1025, 13), (1025, 14)] [] (fun _ _ => False) S0 S ∧ (S 1025 0 = 0 ∧ S 1025 3 = 1 ∧ S 1025 4 = 1 ∧ S 1025 12 = 1)
theorem zc_reset_4_2_c1025_1026 {g : mm_G} {l : Launch} (S0 : zz_S) (G_S0 : zz_Gm [1025] [] S0) : mm_Met g l zy_reset_4_2 zr_reset_4_2_c1025_1026 [.ref 1025, zi 0, zi 0, zi 0] (zz_M S0 1026) 1026 (zz_QV 1026 (zp_reset_4_2_c1025_1026 S0)) := by
  refine zz_enter (by decide) (Nat.le_of_ble_eq_true rfl) (zz_less (ls1 := [some (.ref 1025), some (zi 0), some (zi 0), some (zi 0)]) ⟨rfl, ⟨rfl, ⟨rfl, ⟨rfl, trivial⟩⟩⟩⟩ ?_)
  have F_S0 : zz_fr [(1025, 0), (1025, 1), (1025, 2), (1025, 3), (1025, 4), (1025, 5), (1025, 6), (1025, 7), (1025, 8), (1025, 9), (1025, 10), (1025, 11), (1025, 12), (1025, 13), (1025, 14)] [] (fun _ _ => False) S0 S0 := zz_fr.refl
  refine zz_aload_n (x := 1025) rfl zd_4_2_0 ?_
  refine zz_iload_n (x := 0) rfl zd_4_2_1 ?_
  refine zz_puti zd_4_2_2 zf_Layer_13 zT_1025 rfl (by decide) (fun S1 qS1 => ?_)
  have G_S1 := zz_Gm.put [] G_S0 qS1 (-2147483648) 2147483647 rfl (by decide) (by decide +kernel)
  have F_S1 := zz_fr.puts F_S0 qS1 (by decide +kernel)
  refine zz_aload_n (x := 1025) rfl zd_4_2_5 ?_
  refine zz_iload_n (x := 0) rfl zd_4_2_6 ?_
  refine zz_puti zd_4_2_7 zf_Layer_17 zT_1025 rfl (by decide) (fun S2 qS2 => ?_)
  have G_S2 := zz_Gm.put [] G_S1 qS2 (-2147483648) 2147483647 rfl (by decide) (by decide +kernel)
  have F_S2 := zz_fr.puts F_S1 qS2 (by decide +kernel)
  refine zz_aload_n (x := 1025) rfl zd_4_2_10 ?_
  refine zz_iload_n (x := 0) rfl zd_4_2_11 ?_
  refine zz_puti zd_4_2_12 zf_Layer_20 zT_1025 rfl (by decide) (fun S3 qS3 => ?_)
  have G_S3 := zz_Gm.put [] G_S2 qS3 (-2147483648) 2147483647 rfl (by decide) (by decide +kernel)
  have F_S3 := zz_fr.puts F_S2 qS3 (by decide +kernel)
  refine zz_aload_n (x := 1025) rfl zd_4_2_15 ?_
  refine zz_iconst zd_4_2_16 ?_
  refine zz_puti zd_4_2_17 zf_Layer_23 zT_1025 rfl (by decide) (fun S4 qS4 => ?_)
  have G_S4 := zz_Gm.put [] G_S3 qS4 (-2147483648) 2147483647 rfl (by decide) (by decide +kernel)
  have F_S4 := zz_fr.puts F_S3 qS4 (by decide +kernel)
  refine zz_aload_n (x := 1025) rfl zd_4_2_20 ?_
  refine zz_iconst zd_4_2_21 ?_
  refine zz_puti zd_4_2_22 zf_Layer_26 zT_1025 rfl (by decide) (fun S5 qS5 => ?_)
  have G_S5 := zz_Gm.put [] G_S4 qS5 (-2147483648) 2147483647 rfl (by decide) (by decide +kernel)
  have F_S5 := zz_fr.puts F_S4 qS5 (by decide +kernel)
  refine zz_aload_n (x := 1025) rfl zd_4_2_25 ?_
  refine zz_iconst zd_4_2_26 ?_
  refine zz_puti zd_4_2_27 zf_Layer_29 zT_1025 rfl (by decide) (fun S6 qS6 => ?_)
  have G_S6 := zz_Gm.put [] G_S5 qS6 (-2147483648) 2147483647 rfl (by decide) (by decide +kernel)
  have F_S6 := zz_fr.puts F_S5 qS6 (by decide +kernel)
  refine zz_aload_n (x := 1025) rfl zd_4_2_30 ?_
  refine zz_iconst zd_4_2_31 ?_
  refine zz_puti zd_4_2_32 zf_Layer_32 zT_1025 rfl (by decide) (fun S7 qS7 => ?_)
  have G_S7 := zz_Gm.put [] G_S6 qS7 (-2147483648) 2147483647 rfl (by decide) (by decide +kernel)
  have F_S7 := zz_fr.puts F_S6 qS7 (by decide +kernel)
  refine zz_aload_n (x := 1025) rfl zd_4_2_35 ?_
  refine zz_iconst zd_4_2_36 ?_
  refine zz_puti zd_4_2_37 zf_Layer_35 zT_1025 rfl (by decide) (fun S8 qS8 => ?_)
  have G_S8 := zz_Gm.put [] G_S7 qS8 (-2147483648) 2147483647 rfl (by decide) (by decide +kernel)
  have F_S8 := zz_fr.puts F_S7 qS8 (by decide +kernel)
  refine zz_aload_n (x := 1025) rfl zd_4_2_40 ?_
  refine zz_iconst zd_4_2_41 ?_
  refine zz_putz zd_4_2_42 zf_Layer_38 zT_1025 rfl (by decide) (by decide) (fun S9 qS9 => ?_)
  have G_S9 := zz_Gm.put [] G_S8 qS9 0 1 rfl (by decide) (by decide +kernel)
  have F_S9 := zz_fr.puts F_S8 qS9 (by decide +kernel)
  refine zz_aload_n (x := 1025) rfl zd_4_2_45 ?_
  refine zz_iconst zd_4_2_46 ?_
  refine zz_puti zd_4_2_47 zf_Layer_42 zT_1025 rfl (by decide) (fun S10 qS10 => ?_)
  have G_S10 := zz_Gm.put [] G_S9 qS10 (-2147483648) 2147483647 rfl (by decide) (by decide +kernel)
  have F_S10 := zz_fr.puts F_S9 qS10 (by decide +kernel)
  refine zz_aload_n (x := 1025) rfl zd_4_2_50 ?_
  refine zz_iconst zd_4_2_51 ?_
  refine zz_iconst zd_4_2_52 ?_
  refine zz_iconst zd_4_2_53 ?_
  refine zz_callVV [zi 1, zi 1, zi 1] zd_4_2_54 zk_Layer_45 zT_1025 (by decide) rfl rfl ⟨Nat.le_of_ble_eq_true rfl, Nat.le_of_ble_eq_true rfl⟩ ⟨rfl, rfl⟩ (Nat.le_of_ble_eq_true rfl) (Nat.le_of_ble_eq_true rfl) (zc_takeForm_4_3_c1025_1026 S10 (zz_Gm.sub (C1 := [1025]) (X1 := []) G_S10 (by decide +kernel) (by decide +kernel))) (fun S11 hP => ?_)
  obtain ⟨gS11, fS11, o12⟩ := hP
  have F_S11 := zz_fr.trans F_S10 fS11 (by decide +kernel) zz_nv
  have G_S11 := zz_Gm.call [] G_S10 fS11 gS11 (by decide +kernel) (by decide +kernel) (by decide +kernel) (by decide +kernel)
  refine zz_aload_n (x := 1025) rfl zd_4_2_57 ?_
  refine zz_iconst zd_4_2_58 ?_
  refine zz_puti zd_4_2_59 zf_Layer_48 zT_1025 rfl (by decide) (fun S13 qS13 => ?_)
  have G_S13 := zz_Gm.put [] G_S11 qS13 (-2147483648) 2147483647 rfl (by decide) (by decide +kernel)
  have F_S13 := zz_fr.puts F_S11 qS13 (by decide +kernel)
  refine zz_aload_n (x := 1025) rfl zd_4_2_62 ?_
  refine zz_iconst zd_4_2_63 ?_
  refine zz_puti zd_4_2_64 zf_Layer_51 zT_1025 rfl (by decide) (fun S14 qS14 => ?_)
  have G_S14 := zz_Gm.put [] G_S13 qS14 (-2147483648) 2147483647 rfl (by decide) (by decide +kernel)
  have F_S14 := zz_fr.puts F_S13 qS14 (by decide +kernel)
  have e15 : S14 1025 0 = 0 := (zz_ro qS14 (fun h => absurd h.2 (by decide)) (zz_ro qS13 (fun h => absurd h.2 (by decide)) (zz_rc fS11 rfl rfl (fun h => h) (zz_ro qS10 (fun h => absurd h.2 (by decide)) (zz_ro qS9 (fun h => absurd h.2 (by decide)) (zz_ro qS8 (fun h => absurd h.2 (by decide)) (zz_ro qS7 (fun h => absurd h.2 (by decide)) (zz_ro qS6 (fun h => absurd h.2 (by decide)) (zz_ro qS5 (fun h => absurd h.2 (by decide)) (zz_ro qS4 (fun h => absurd h.2 (by decide)) (zz_ro qS3 (fun h => absurd h.2 (by decide)) (zz_ro qS2 (fun h => absurd h.2 (by decide)) (zz_rs qS1)))))))))))))
  have e16 : S14 1025 12 = 1 := (zz_ro qS14 (fun h => absurd h.2 (by decide)) (zz_ro qS13 (fun h => absurd h.2 (by decide)) o12))
  have e17 : S14 1025 3 = 1 := (zz_ro qS14 (fun h => absurd h.2 (by decide)) (zz_ro qS13 (fun h => absurd h.2 (by decide)) (zz_rc fS11 rfl rfl (fun h => h) (zz_ro qS10 (fun h => absurd h.2 (by decide)) (zz_ro qS9 (fun h => absurd h.2 (by decide)) (zz_ro qS8 (fun h => absurd h.2 (by decide)) (zz_ro qS7 (fun h => absurd h.2 (by decide)) (zz_ro qS6 (fun h => absurd h.2 (by decide)) (zz_ro qS5 (fun h => absurd h.2 (by decide)) (zz_rs qS4))))))))))
  have e18 : S14 1025 4 = 1 := (zz_ro qS14 (fun h => absurd h.2 (by decide)) (zz_ro qS13 (fun h => absurd h.2 (by decide)) (zz_rc fS11 rfl rfl (fun h => h) (zz_ro qS10 (fun h => absurd h.2 (by decide)) (zz_ro qS9 (fun h => absurd h.2 (by decide)) (zz_ro qS8 (fun h => absurd h.2 (by decide)) (zz_ro qS7 (fun h => absurd h.2 (by decide)) (zz_ro qS6 (fun h => absurd h.2 (by decide)) (zz_rs qS5)))))))))
  exact zz_vret zd_4_2_67 rfl (Nat.le_of_ble_eq_true rfl) (Nat.le_of_ble_eq_true rfl) ⟨_, rfl, G_S14, F_S14, by omega⟩

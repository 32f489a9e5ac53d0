-- TensorForge$Layer <init> ()V at 1025, 1026
abbrev zr_init_4_1_c1025_1026 : Room := { frames := 2, cells := 0, slots := 0, locals := 30 }
def zp_init_4_1_c1025_1026 (S0 : zz_S) : zz_S → Prop := fun S => zz_Gm [1025, 1025, 1025] [] S ∧ zz_fr [(1025, 0), (1025, 1), (1025, 2), (1025, 3), (1025, 4), (1025, 5), (1025, 6), (1025, 7), (1025, 8), (1025, 9), (1025, 10), (1025, 11), (1025, 12), (1025, 13), (1025, 14)] [] (fun _ _ => False) S0 S ∧ (S 1025 0 = 0 ∧ S 1025 3 = 1 ∧ S 1025 4 = 1 ∧ S 1025 12 = 1)
theorem zc_init_4_1_c1025_1026 {g : mm_G} {l : Launch} (S0 : zz_S) (G_S0 : zz_Gm [1025] [] S0) : mm_Met g l zy_init_4_1 zr_init_4_1_c1025_1026 [.ref 1025] (zz_M S0 1026) 1026 (zz_QV 1026 (zp_init_4_1_c1025_1026 S0)) := by
  refine zz_enter (by decide) (Nat.le_of_ble_eq_true rfl) (zz_less (ls1 := [some (.ref 1025)]) ⟨rfl, trivial⟩ ?_)
  have F_S0 : zz_fr [(1025, 0), (1025, 1), (1025, 2), (1025, 3), (1025, 4), (1025, 5), (1025, 6), (1025, 7), (1025, 8), (1025, 9), (1025, 10), (1025, 11), (1025, 12), (1025, 13), (1025, 14)] [] (fun _ _ => False) S0 S0 := zz_fr.refl
  refine zz_aload_n (x := 1025) rfl zd_4_1_0 ?_
  refine zz_objI zd_4_1_1 zoi_Layer_1 zoi.1 zoi.2 (Nat.le_of_ble_eq_true rfl) (Nat.le_of_ble_eq_true rfl) ?_
  refine zz_aload_n (x := 1025) rfl zd_4_1_4 ?_
  refine zz_iconst zd_4_1_5 ?_
  refine zz_iconst zd_4_1_6 ?_
  refine zz_iconst zd_4_1_7 ?_
  refine zz_callVV [zi 0, zi 0, zi 0] zd_4_1_8 zk_Layer_9 zT_1025 (by decide) rfl rfl ⟨Nat.le_of_ble_eq_true rfl, Nat.le_of_ble_eq_true rfl⟩ ⟨rfl, rfl⟩ (Nat.le_of_ble_eq_true rfl) (Nat.le_of_ble_eq_true rfl) (zc_reset_4_2_c1025_1026 S0 (zz_Gm.sub (C1 := [1025]) (X1 := []) G_S0 (by decide +kernel) (by decide +kernel))) (fun S2 hP => ?_)
  obtain ⟨gS2, fS2, o3⟩ := hP
  have F_S2 := zz_fr.trans F_S0 fS2 (by decide +kernel) zz_nv
  have G_S2 := zz_Gm.call [] G_S0 fS2 gS2 (by decide +kernel) (by decide +kernel) (by decide +kernel) (by decide +kernel)
  have g4 := trivial
  have g5 := trivial
  have g6 := trivial
  have g7 := trivial
  exact zz_vret zd_4_1_11 rfl (Nat.le_of_ble_eq_true rfl) (Nat.le_of_ble_eq_true rfl) ⟨_, rfl, G_S2, F_S2, by omega⟩
def zX_24 : List (Nat × Nat) := [(1016, 9), (1016, 10), (1016, 11), (1015, 1)]
-- TensorForge$Layer takeForm (III)V at 1026, 1027
abbrev zr_takeForm_4_3_c1026_1027 : Room := { frames := 0, cells := 0, slots := 0, locals := 0 }
def zp_takeForm_4_3_c1026_1027 (S0 : zz_S) : zz_S → Prop := fun S => zz_Gm [1026] [] S ∧ zz_fr [(1026, 10), (1026, 11), (1026, 12)] [] (fun _ _ => False) S0 S ∧ (S 1026 12 = 1)
theorem zc_takeForm_4_3_c1026_1027 {g : mm_G} {l : Launch} (S0 : zz_S) (G_S0 : zz_Gm [1026] [] S0) : mm_Met g l zy_takeForm_4_3 zr_takeForm_4_3_c1026_1027 [.ref 1026, zi 1, zi 1, zi 1] (zz_M S0 1027) 1027 (zz_QV 1027 (zp_takeForm_4_3_c1026_1027 S0)) := by
  refine zz_enter (by decide) (Nat.le_of_ble_eq_true rfl) (zz_less (ls1 := [some (.ref 1026), some (zi 1), some (zi 1), some (zi 1)]) ⟨rfl, ⟨rfl, ⟨rfl, ⟨rfl, trivial⟩⟩⟩⟩ ?_)
  have F_S0 : zz_fr [(1026, 10), (1026, 11), (1026, 12)] [] (fun _ _ => False) S0 S0 := zz_fr.refl
  refine zz_aload_n (x := 1026) rfl zd_4_3_0 ?_
  refine zz_iload_n (x := 1) rfl zd_4_3_1 ?_
  refine zz_puti zd_4_3_2 zf_Layer_54 zT_1026 rfl (by decide) (fun S1 qS1 => ?_)
  have G_S1 := zz_Gm.put [] G_S0 qS1 (-2147483648) 2147483647 rfl (by decide) (by decide +kernel)
  have F_S1 := zz_fr.puts F_S0 qS1 (by decide +kernel)
  refine zz_aload_n (x := 1026) rfl zd_4_3_5 ?_
  refine zz_iload_n (x := 1) rfl zd_4_3_6 ?_
  refine zz_puti zd_4_3_7 zf_Layer_57 zT_1026 rfl (by decide) (fun S2 qS2 => ?_)
  have G_S2 := zz_Gm.put [] G_S1 qS2 (-2147483648) 2147483647 rfl (by decide) (by decide +kernel)
  have F_S2 := zz_fr.puts F_S1 qS2 (by decide +kernel)
  refine zz_aload_n (x := 1026) rfl zd_4_3_10 ?_
  refine zz_iload_n (x := 1) rfl zd_4_3_11 ?_
  refine zz_puti zd_4_3_12 zf_Layer_60 zT_1026 rfl (by decide) (fun S3 qS3 => ?_)
  have G_S3 := zz_Gm.put [] G_S2 qS3 (-2147483648) 2147483647 rfl (by decide) (by decide +kernel)
  have F_S3 := zz_fr.puts F_S2 qS3 (by decide +kernel)
  have e4 : S3 1026 12 = 1 := (zz_rs qS3)
  exact zz_vret zd_4_3_15 rfl (Nat.le_of_ble_eq_true rfl) (Nat.le_of_ble_eq_true rfl) ⟨_, rfl, G_S3, F_S3, by omega⟩
-- TensorForge$Layer reset (III)V at 1026, 1027
abbrev zr_reset_4_2_c1026_1027 : Room := { frames := 1, cells := 0, slots := 0, locals := 15 }
def zp_reset_4_2_c1026_1027 (S0 : zz_S) : zz_S → Prop := fun S => zz_Gm [1026, 1026] [] S ∧ zz_fr [(1026, 0), (1026, 1), (1026, 2), (1026, 3), (1026, 4), (1026, 5), (1026, 6), (1026, 7), (1026, 8), (1026, 9), (1026, 10), (1026, 11), (1026, 12), (1026, 13), (1026, 14)] [] (fun _ _ => False) S0 S ∧ (S 1026 0 = 0 ∧ S 1026 3 = 1 ∧ S 1026 4 = 1 ∧ S 1026 12 = 1)
theorem zc_reset_4_2_c1026_1027 {g : mm_G} {l : Launch} (S0 : zz_S) (G_S0 : zz_Gm [1026] [] S0) : mm_Met g l zy_reset_4_2 zr_reset_4_2_c1026_1027 [.ref 1026, zi 0, zi 0, zi 0] (zz_M S0 1027) 1027 (zz_QV 1027 (zp_reset_4_2_c1026_1027 S0)) := by
  refine zz_enter (by decide) (Nat.le_of_ble_eq_true rfl) (zz_less (ls1 := [some (.ref 1026), some (zi 0), some (zi 0), some (zi 0)]) ⟨rfl, ⟨rfl, ⟨rfl, ⟨rfl, trivial⟩⟩⟩⟩ ?_)
  have F_S0 : zz_fr [(1026, 0), (1026, 1), (1026, 2), (1026, 3), (1026, 4), (1026, 5), (1026, 6), (1026, 7), (1026, 8), (1026, 9), (1026, 10), (1026, 11), (1026, 12), (1026, 13), (1026, 14)] [] (fun _ _ => False) S0 S0 := zz_fr.refl
  refine zz_aload_n (x := 1026) rfl zd_4_2_0 ?_
  refine zz_iload_n (x := 0) rfl zd_4_2_1 ?_
  refine zz_puti zd_4_2_2 zf_Layer_13 zT_1026 rfl (by decide) (fun S1 qS1 => ?_)
  have G_S1 := zz_Gm.put [] G_S0 qS1 (-2147483648) 2147483647 rfl (by decide) (by decide +kernel)
  have F_S1 := zz_fr.puts F_S0 qS1 (by decide +kernel)
  refine zz_aload_n (x := 1026) rfl zd_4_2_5 ?_
  refine zz_iload_n (x := 0) rfl zd_4_2_6 ?_
  refine zz_puti zd_4_2_7 zf_Layer_17 zT_1026 rfl (by decide) (fun S2 qS2 => ?_)
  have G_S2 := zz_Gm.put [] G_S1 qS2 (-2147483648) 2147483647 rfl (by decide) (by decide +kernel)
  have F_S2 := zz_fr.puts F_S1 qS2 (by decide +kernel)
  refine zz_aload_n (x := 1026) rfl zd_4_2_10 ?_
  refine zz_iload_n (x := 0) rfl zd_4_2_11 ?_
  refine zz_puti zd_4_2_12 zf_Layer_20 zT_1026 rfl (by decide) (fun S3 qS3 => ?_)
  have G_S3 := zz_Gm.put [] G_S2 qS3 (-2147483648) 2147483647 rfl (by decide) (by decide +kernel)
  have F_S3 := zz_fr.puts F_S2 qS3 (by decide +kernel)
  refine zz_aload_n (x := 1026) rfl zd_4_2_15 ?_
  refine zz_iconst zd_4_2_16 ?_
  refine zz_puti zd_4_2_17 zf_Layer_23 zT_1026 rfl (by decide) (fun S4 qS4 => ?_)
  have G_S4 := zz_Gm.put [] G_S3 qS4 (-2147483648) 2147483647 rfl (by decide) (by decide +kernel)
  have F_S4 := zz_fr.puts F_S3 qS4 (by decide +kernel)
  refine zz_aload_n (x := 1026) rfl zd_4_2_20 ?_
  refine zz_iconst zd_4_2_21 ?_
  refine zz_puti zd_4_2_22 zf_Layer_26 zT_1026 rfl (by decide) (fun S5 qS5 => ?_)
  have G_S5 := zz_Gm.put [] G_S4 qS5 (-2147483648) 2147483647 rfl (by decide) (by decide +kernel)
  have F_S5 := zz_fr.puts F_S4 qS5 (by decide +kernel)
  refine zz_aload_n (x := 1026) rfl zd_4_2_25 ?_
  refine zz_iconst zd_4_2_26 ?_
  refine zz_puti zd_4_2_27 zf_Layer_29 zT_1026 rfl (by decide) (fun S6 qS6 => ?_)
  have G_S6 := zz_Gm.put [] G_S5 qS6 (-2147483648) 2147483647 rfl (by decide) (by decide +kernel)
  have F_S6 := zz_fr.puts F_S5 qS6 (by decide +kernel)
  refine zz_aload_n (x := 1026) rfl zd_4_2_30 ?_
  refine zz_iconst zd_4_2_31 ?_
  refine zz_puti zd_4_2_32 zf_Layer_32 zT_1026 rfl (by decide) (fun S7 qS7 => ?_)
  have G_S7 := zz_Gm.put [] G_S6 qS7 (-2147483648) 2147483647 rfl (by decide) (by decide +kernel)
  have F_S7 := zz_fr.puts F_S6 qS7 (by decide +kernel)
  refine zz_aload_n (x := 1026) rfl zd_4_2_35 ?_
  refine zz_iconst zd_4_2_36 ?_
  refine zz_puti zd_4_2_37 zf_Layer_35 zT_1026 rfl (by decide) (fun S8 qS8 => ?_)
  have G_S8 := zz_Gm.put [] G_S7 qS8 (-2147483648) 2147483647 rfl (by decide) (by decide +kernel)
  have F_S8 := zz_fr.puts F_S7 qS8 (by decide +kernel)
  refine zz_aload_n (x := 1026) rfl zd_4_2_40 ?_
  refine zz_iconst zd_4_2_41 ?_
  refine zz_putz zd_4_2_42 zf_Layer_38 zT_1026 rfl (by decide) (by decide) (fun S9 qS9 => ?_)
  have G_S9 := zz_Gm.put [] G_S8 qS9 0 1 rfl (by decide) (by decide +kernel)
  have F_S9 := zz_fr.puts F_S8 qS9 (by decide +kernel)
  refine zz_aload_n (x := 1026) rfl zd_4_2_45 ?_
  refine zz_iconst zd_4_2_46 ?_
  refine zz_puti zd_4_2_47 zf_Layer_42 zT_1026 rfl (by decide) (fun S10 qS10 => ?_)
  have G_S10 := zz_Gm.put [] G_S9 qS10 (-2147483648) 2147483647 rfl (by decide) (by decide +kernel)
  have F_S10 := zz_fr.puts F_S9 qS10 (by decide +kernel)
  refine zz_aload_n (x := 1026) rfl zd_4_2_50 ?_
  refine zz_iconst zd_4_2_51 ?_
  refine zz_iconst zd_4_2_52 ?_
  refine zz_iconst zd_4_2_53 ?_
  refine zz_callVV [zi 1, zi 1, zi 1] zd_4_2_54 zk_Layer_45 zT_1026 (by decide) rfl rfl ⟨Nat.le_of_ble_eq_true rfl, Nat.le_of_ble_eq_true rfl⟩ ⟨rfl, rfl⟩ (Nat.le_of_ble_eq_true rfl) (Nat.le_of_ble_eq_true rfl) (zc_takeForm_4_3_c1026_1027 S10 (zz_Gm.sub (C1 := [1026]) (X1 := []) G_S10 (by decide +kernel) (by decide +kernel))) (fun S11 hP => ?_)
  obtain ⟨gS11, fS11, o12⟩ := hP
  have F_S11 := zz_fr.trans F_S10 fS11 (by decide +kernel) zz_nv
  have G_S11 := zz_Gm.call [] G_S10 fS11 gS11 (by decide +kernel) (by decide +kernel) (by decide +kernel) (by decide +kernel)
  refine zz_aload_n (x := 1026) rfl zd_4_2_57 ?_
  refine zz_iconst zd_4_2_58 ?_
  refine zz_puti zd_4_2_59 zf_Layer_48 zT_1026 rfl (by decide) (fun S13 qS13 => ?_)
  have G_S13 := zz_Gm.put [] G_S11 qS13 (-2147483648) 2147483647 rfl (by decide) (by decide +kernel)
  have F_S13 := zz_fr.puts F_S11 qS13 (by decide +kernel)
  refine zz_aload_n (x := 1026) rfl zd_4_2_62 ?_
  refine zz_iconst zd_4_2_63 ?_
  refine zz_puti zd_4_2_64 zf_Layer_51 zT_1026 rfl (by decide) (fun S14 qS14 => ?_)
  have G_S14 := zz_Gm.put [] G_S13 qS14 (-2147483648) 2147483647 rfl (by decide) (by decide +kernel)
  have F_S14 := zz_fr.puts F_S13 qS14 (by decide +kernel)
  have e15 : S14 1026 0 = 0 := (zz_ro qS14 (fun h => absurd h.2 (by decide)) (zz_ro qS13 (fun h => absurd h.2 (by decide)) (zz_rc fS11 rfl rfl (fun h => h) (zz_ro qS10 (fun h => absurd h.2 (by decide)) (zz_ro qS9 (fun h => absurd h.2 (by decide)) (zz_ro qS8 (fun h => absurd h.2 (by decide)) (zz_ro qS7 (fun h => absurd h.2 (by decide)) (zz_ro qS6 (fun h => absurd h.2 (by decide)) (zz_ro qS5 (fun h => absurd h.2 (by decide)) (zz_ro qS4 (fun h => absurd h.2 (by decide)) (zz_ro qS3 (fun h => absurd h.2 (by decide)) (zz_ro qS2 (fun h => absurd h.2 (by decide)) (zz_rs qS1)))))))))))))
  have e16 : S14 1026 12 = 1 := (zz_ro qS14 (fun h => absurd h.2 (by decide)) (zz_ro qS13 (fun h => absurd h.2 (by decide)) o12))
  have e17 : S14 1026 3 = 1 := (zz_ro qS14 (fun h => absurd h.2 (by decide)) (zz_ro qS13 (fun h => absurd h.2 (by decide)) (zz_rc fS11 rfl rfl (fun h => h) (zz_ro qS10 (fun h => absurd h.2 (by decide)) (zz_ro qS9 (fun h => absurd h.2 (by decide)) (zz_ro qS8 (fun h => absurd h.2 (by decide)) (zz_ro qS7 (fun h => absurd h.2 (by decide)) (zz_ro qS6 (fun h => absurd h.2 (by decide)) (zz_ro qS5 (fun h => absurd h.2 (by decide)) (zz_rs qS4))))))))))
  have e18 : S14 1026 4 = 1 := (zz_ro qS14 (fun h => absurd h.2 (by decide)) (zz_ro qS13 (fun h => absurd h.2 (by decide)) (zz_rc fS11 rfl rfl (fun h => h) (zz_ro qS10 (fun h => absurd h.2 (by decide)) (zz_ro qS9 (fun h => absurd h.2 (by decide)) (zz_ro qS8 (fun h => absurd h.2 (by decide)) (zz_ro qS7 (fun h => absurd h.2 (by decide)) (zz_ro qS6 (fun h => absurd h.2 (by decide)) (zz_rs qS5)))))))))
  exact zz_vret zd_4_2_67 rfl (Nat.le_of_ble_eq_true rfl) (Nat.le_of_ble_eq_true rfl) ⟨_, rfl, G_S14, F_S14, by omega⟩
-- TensorForge$Layer <init> ()V at 1026, 1027
abbrev zr_init_4_1_c1026_1027 : Room := { frames := 2, cells := 0, slots := 0, locals := 30 }
def zp_init_4_1_c1026_1027 (S0 : zz_S) : zz_S → Prop := fun S => zz_Gm [1026, 1026, 1026] [] S ∧ zz_fr [(1026, 0), (1026, 1), (1026, 2), (1026, 3), (1026, 4), (1026, 5), (1026, 6), (1026, 7), (1026, 8), (1026, 9), (1026, 10), (1026, 11), (1026, 12), (1026, 13), (1026, 14)] [] (fun _ _ => False) S0 S ∧ (S 1026 0 = 0 ∧ S 1026 3 = 1 ∧ S 1026 4 = 1 ∧ S 1026 12 = 1)
theorem zc_init_4_1_c1026_1027 {g : mm_G} {l : Launch} (S0 : zz_S) (G_S0 : zz_Gm [1026] [] S0) : mm_Met g l zy_init_4_1 zr_init_4_1_c1026_1027 [.ref 1026] (zz_M S0 1027) 1027 (zz_QV 1027 (zp_init_4_1_c1026_1027 S0)) := by
  refine zz_enter (by decide) (Nat.le_of_ble_eq_true rfl) (zz_less (ls1 := [some (.ref 1026)]) ⟨rfl, trivial⟩ ?_)
  have F_S0 : zz_fr [(1026, 0), (1026, 1), (1026, 2), (1026, 3), (1026, 4), (1026, 5), (1026, 6), (1026, 7), (1026, 8), (1026, 9), (1026, 10), (1026, 11), (1026, 12), (1026, 13), (1026, 14)] [] (fun _ _ => False) S0 S0 := zz_fr.refl
  refine zz_aload_n (x := 1026) rfl zd_4_1_0 ?_
  refine zz_objI zd_4_1_1 zoi_Layer_1 zoi.1 zoi.2 (Nat.le_of_ble_eq_true rfl) (Nat.le_of_ble_eq_true rfl) ?_
  refine zz_aload_n (x := 1026) rfl zd_4_1_4 ?_
  refine zz_iconst zd_4_1_5 ?_
  refine zz_iconst zd_4_1_6 ?_
  refine zz_iconst zd_4_1_7 ?_
  refine zz_callVV [zi 0, zi 0, zi 0] zd_4_1_8 zk_Layer_9 zT_1026 (by decide) rfl rfl ⟨Nat.le_of_ble_eq_true rfl, Nat.le_of_ble_eq_true rfl⟩ ⟨rfl, rfl⟩ (Nat.le_of_ble_eq_true rfl) (Nat.le_of_ble_eq_true rfl) (zc_reset_4_2_c1026_1027 S0 (zz_Gm.sub (C1 := [1026]) (X1 := []) G_S0 (by decide +kernel) (by decide +kernel))) (fun S2 hP => ?_)
  obtain ⟨gS2, fS2, o3⟩ := hP
  have F_S2 := zz_fr.trans F_S0 fS2 (by decide +kernel) zz_nv
  have G_S2 := zz_Gm.call [] G_S0 fS2 gS2 (by decide +kernel) (by decide +kernel) (by decide +kernel) (by decide +kernel)
  have g4 := trivial
  have g5 := trivial
  have g6 := trivial
  have g7 := trivial
  exact zz_vret zd_4_1_11 rfl (Nat.le_of_ble_eq_true rfl) (Nat.le_of_ble_eq_true rfl) ⟨_, rfl, G_S2, F_S2, by omega⟩
def zX_25 : List (Nat × Nat) := [(1016, 10), (1016, 11), (1015, 1)]
-- TensorForge$Layer takeForm (III)V at 1027, 1028
abbrev zr_takeForm_4_3_c1027_1028 : Room := { frames := 0, cells := 0, slots := 0, locals := 0 }
def zp_takeForm_4_3_c1027_1028 (S0 : zz_S) : zz_S → Prop := fun S => zz_Gm [1027] [] S ∧ zz_fr [(1027, 10), (1027, 11), (1027, 12)] [] (fun _ _ => False) S0 S ∧ (S 1027 12 = 1)
theorem zc_takeForm_4_3_c1027_1028 {g : mm_G} {l : Launch} (S0 : zz_S) (G_S0 : zz_Gm [1027] [] S0) : mm_Met g l zy_takeForm_4_3 zr_takeForm_4_3_c1027_1028 [.ref 1027, zi 1, zi 1, zi 1] (zz_M S0 1028) 1028 (zz_QV 1028 (zp_takeForm_4_3_c1027_1028 S0)) := by
  refine zz_enter (by decide) (Nat.le_of_ble_eq_true rfl) (zz_less (ls1 := [some (.ref 1027), some (zi 1), some (zi 1), some (zi 1)]) ⟨rfl, ⟨rfl, ⟨rfl, ⟨rfl, trivial⟩⟩⟩⟩ ?_)
  have F_S0 : zz_fr [(1027, 10), (1027, 11), (1027, 12)] [] (fun _ _ => False) S0 S0 := zz_fr.refl
  refine zz_aload_n (x := 1027) rfl zd_4_3_0 ?_
  refine zz_iload_n (x := 1) rfl zd_4_3_1 ?_
  refine zz_puti zd_4_3_2 zf_Layer_54 zT_1027 rfl (by decide) (fun S1 qS1 => ?_)
  have G_S1 := zz_Gm.put [] G_S0 qS1 (-2147483648) 2147483647 rfl (by decide) (by decide +kernel)
  have F_S1 := zz_fr.puts F_S0 qS1 (by decide +kernel)
  refine zz_aload_n (x := 1027) rfl zd_4_3_5 ?_
  refine zz_iload_n (x := 1) rfl zd_4_3_6 ?_
  refine zz_puti zd_4_3_7 zf_Layer_57 zT_1027 rfl (by decide) (fun S2 qS2 => ?_)
  have G_S2 := zz_Gm.put [] G_S1 qS2 (-2147483648) 2147483647 rfl (by decide) (by decide +kernel)
  have F_S2 := zz_fr.puts F_S1 qS2 (by decide +kernel)
  refine zz_aload_n (x := 1027) rfl zd_4_3_10 ?_
  refine zz_iload_n (x := 1) rfl zd_4_3_11 ?_
  refine zz_puti zd_4_3_12 zf_Layer_60 zT_1027 rfl (by decide) (fun S3 qS3 => ?_)
  have G_S3 := zz_Gm.put [] G_S2 qS3 (-2147483648) 2147483647 rfl (by decide) (by decide +kernel)
  have F_S3 := zz_fr.puts F_S2 qS3 (by decide +kernel)
  have e4 : S3 1027 12 = 1 := (zz_rs qS3)
  exact zz_vret zd_4_3_15 rfl (Nat.le_of_ble_eq_true rfl) (Nat.le_of_ble_eq_true rfl) ⟨_, rfl, G_S3, F_S3, by omega⟩
-- TensorForge$Layer reset (III)V at 1027, 1028
abbrev zr_reset_4_2_c1027_1028 : Room := { frames := 1, cells := 0, slots := 0, locals := 15 }
def zp_reset_4_2_c1027_1028 (S0 : zz_S) : zz_S → Prop := fun S => zz_Gm [1027, 1027] [] S ∧ zz_fr [(1027, 0), (1027, 1), (1027, 2), (1027, 3), (1027, 4), (1027, 5), (1027, 6), (1027, 7), (1027, 8), (1027, 9), (1027, 10), (1027, 11), (1027, 12), (1027, 13), (1027, 14)] [] (fun _ _ => False) S0 S ∧ (S 1027 0 = 0 ∧ S 1027 3 = 1 ∧ S 1027 4 = 1 ∧ S 1027 12 = 1)
theorem zc_reset_4_2_c1027_1028 {g : mm_G} {l : Launch} (S0 : zz_S) (G_S0 : zz_Gm [1027] [] S0) : mm_Met g l zy_reset_4_2 zr_reset_4_2_c1027_1028 [.ref 1027, zi 0, zi 0, zi 0] (zz_M S0 1028) 1028 (zz_QV 1028 (zp_reset_4_2_c1027_1028 S0)) := by
  refine zz_enter (by decide) (Nat.le_of_ble_eq_true rfl) (zz_less (ls1 := [some (.ref 1027), some (zi 0), some (zi 0), some (zi 0)]) ⟨rfl, ⟨rfl, ⟨rfl, ⟨rfl, trivial⟩⟩⟩⟩ ?_)
  have F_S0 : zz_fr [(1027, 0), (1027, 1), (1027, 2), (1027, 3), (1027, 4), (1027, 5), (1027, 6), (1027, 7), (1027, 8), (1027, 9), (1027, 10), (1027, 11), (1027, 12), (1027, 13), (1027, 14)] [] (fun _ _ => False) S0 S0 := zz_fr.refl
  refine zz_aload_n (x := 1027) rfl zd_4_2_0 ?_
  refine zz_iload_n (x := 0) rfl zd_4_2_1 ?_
  refine zz_puti zd_4_2_2 zf_Layer_13 zT_1027 rfl (by decide) (fun S1 qS1 => ?_)
  have G_S1 := zz_Gm.put [] G_S0 qS1 (-2147483648) 2147483647 rfl (by decide) (by decide +kernel)
  have F_S1 := zz_fr.puts F_S0 qS1 (by decide +kernel)
  refine zz_aload_n (x := 1027) rfl zd_4_2_5 ?_
  refine zz_iload_n (x := 0) rfl zd_4_2_6 ?_
  refine zz_puti zd_4_2_7 zf_Layer_17 zT_1027 rfl (by decide) (fun S2 qS2 => ?_)
  have G_S2 := zz_Gm.put [] G_S1 qS2 (-2147483648) 2147483647 rfl (by decide) (by decide +kernel)
  have F_S2 := zz_fr.puts F_S1 qS2 (by decide +kernel)
  refine zz_aload_n (x := 1027) rfl zd_4_2_10 ?_
  refine zz_iload_n (x := 0) rfl zd_4_2_11 ?_
  refine zz_puti zd_4_2_12 zf_Layer_20 zT_1027 rfl (by decide) (fun S3 qS3 => ?_)
  have G_S3 := zz_Gm.put [] G_S2 qS3 (-2147483648) 2147483647 rfl (by decide) (by decide +kernel)
  have F_S3 := zz_fr.puts F_S2 qS3 (by decide +kernel)
  refine zz_aload_n (x := 1027) rfl zd_4_2_15 ?_
  refine zz_iconst zd_4_2_16 ?_
  refine zz_puti zd_4_2_17 zf_Layer_23 zT_1027 rfl (by decide) (fun S4 qS4 => ?_)
  have G_S4 := zz_Gm.put [] G_S3 qS4 (-2147483648) 2147483647 rfl (by decide) (by decide +kernel)
  have F_S4 := zz_fr.puts F_S3 qS4 (by decide +kernel)
  refine zz_aload_n (x := 1027) rfl zd_4_2_20 ?_
  refine zz_iconst zd_4_2_21 ?_
  refine zz_puti zd_4_2_22 zf_Layer_26 zT_1027 rfl (by decide) (fun S5 qS5 => ?_)
  have G_S5 := zz_Gm.put [] G_S4 qS5 (-2147483648) 2147483647 rfl (by decide) (by decide +kernel)
  have F_S5 := zz_fr.puts F_S4 qS5 (by decide +kernel)
  refine zz_aload_n (x := 1027) rfl zd_4_2_25 ?_
  refine zz_iconst zd_4_2_26 ?_
  refine zz_puti zd_4_2_27 zf_Layer_29 zT_1027 rfl (by decide) (fun S6 qS6 => ?_)
  have G_S6 := zz_Gm.put [] G_S5 qS6 (-2147483648) 2147483647 rfl (by decide) (by decide +kernel)
  have F_S6 := zz_fr.puts F_S5 qS6 (by decide +kernel)
  refine zz_aload_n (x := 1027) rfl zd_4_2_30 ?_
  refine zz_iconst zd_4_2_31 ?_
  refine zz_puti zd_4_2_32 zf_Layer_32 zT_1027 rfl (by decide) (fun S7 qS7 => ?_)
  have G_S7 := zz_Gm.put [] G_S6 qS7 (-2147483648) 2147483647 rfl (by decide) (by decide +kernel)
  have F_S7 := zz_fr.puts F_S6 qS7 (by decide +kernel)
  refine zz_aload_n (x := 1027) rfl zd_4_2_35 ?_
  refine zz_iconst zd_4_2_36 ?_
  refine zz_puti zd_4_2_37 zf_Layer_35 zT_1027 rfl (by decide) (fun S8 qS8 => ?_)
  have G_S8 := zz_Gm.put [] G_S7 qS8 (-2147483648) 2147483647 rfl (by decide) (by decide +kernel)
  have F_S8 := zz_fr.puts F_S7 qS8 (by decide +kernel)
  refine zz_aload_n (x := 1027) rfl zd_4_2_40 ?_
  refine zz_iconst zd_4_2_41 ?_
  refine zz_putz zd_4_2_42 zf_Layer_38 zT_1027 rfl (by decide) (by decide) (fun S9 qS9 => ?_)
  have G_S9 := zz_Gm.put [] G_S8 qS9 0 1 rfl (by decide) (by decide +kernel)
  have F_S9 := zz_fr.puts F_S8 qS9 (by decide +kernel)
  refine zz_aload_n (x := 1027) rfl zd_4_2_45 ?_
  refine zz_iconst zd_4_2_46 ?_
  refine zz_puti zd_4_2_47 zf_Layer_42 zT_1027 rfl (by decide) (fun S10 qS10 => ?_)
  have G_S10 := zz_Gm.put [] G_S9 qS10 (-2147483648) 2147483647 rfl (by decide) (by decide +kernel)
  have F_S10 := zz_fr.puts F_S9 qS10 (by decide +kernel)
  refine zz_aload_n (x := 1027) rfl zd_4_2_50 ?_
  refine zz_iconst zd_4_2_51 ?_
  refine zz_iconst zd_4_2_52 ?_
  refine zz_iconst zd_4_2_53 ?_
  refine zz_callVV [zi 1, zi 1, zi 1] zd_4_2_54 zk_Layer_45 zT_1027 (by decide) rfl rfl ⟨Nat.le_of_ble_eq_true rfl, Nat.le_of_ble_eq_true rfl⟩ ⟨rfl, rfl⟩ (Nat.le_of_ble_eq_true rfl) (Nat.le_of_ble_eq_true rfl) (zc_takeForm_4_3_c1027_1028 S10 (zz_Gm.sub (C1 := [1027]) (X1 := []) G_S10 (by decide +kernel) (by decide +kernel))) (fun S11 hP => ?_)
  obtain ⟨gS11, fS11, o12⟩ := hP
  have F_S11 := zz_fr.trans F_S10 fS11 (by decide +kernel) zz_nv
  have G_S11 := zz_Gm.call [] G_S10 fS11 gS11 (by decide +kernel) (by decide +kernel) (by decide +kernel) (by decide +kernel)
  refine zz_aload_n (x := 1027) rfl zd_4_2_57 ?_
  refine zz_iconst zd_4_2_58 ?_
  refine zz_puti zd_4_2_59 zf_Layer_48 zT_1027 rfl (by decide) (fun S13 qS13 => ?_)
  have G_S13 := zz_Gm.put [] G_S11 qS13 (-2147483648) 2147483647 rfl (by decide) (by decide +kernel)
  have F_S13 := zz_fr.puts F_S11 qS13 (by decide +kernel)
  refine zz_aload_n (x := 1027) rfl zd_4_2_62 ?_
  refine zz_iconst zd_4_2_63 ?_
  refine zz_puti zd_4_2_64 zf_Layer_51 zT_1027 rfl (by decide) (fun S14 qS14 => ?_)
  have G_S14 := zz_Gm.put [] G_S13 qS14 (-2147483648) 2147483647 rfl (by decide) (by decide +kernel)
  have F_S14 := zz_fr.puts F_S13 qS14 (by decide +kernel)
  have e15 : S14 1027 0 = 0 := (zz_ro qS14 (fun h => absurd h.2 (by decide)) (zz_ro qS13 (fun h => absurd h.2 (by decide)) (zz_rc fS11 rfl rfl (fun h => h) (zz_ro qS10 (fun h => absurd h.2 (by decide)) (zz_ro qS9 (fun h => absurd h.2 (by decide)) (zz_ro qS8 (fun h => absurd h.2 (by decide)) (zz_ro qS7 (fun h => absurd h.2 (by decide)) (zz_ro qS6 (fun h => absurd h.2 (by decide)) (zz_ro qS5 (fun h => absurd h.2 (by decide)) (zz_ro qS4 (fun h => absurd h.2 (by decide)) (zz_ro qS3 (fun h => absurd h.2 (by decide)) (zz_ro qS2 (fun h => absurd h.2 (by decide)) (zz_rs qS1)))))))))))))
  have e16 : S14 1027 12 = 1 := (zz_ro qS14 (fun h => absurd h.2 (by decide)) (zz_ro qS13 (fun h => absurd h.2 (by decide)) o12))
  have e17 : S14 1027 3 = 1 := (zz_ro qS14 (fun h => absurd h.2 (by decide)) (zz_ro qS13 (fun h => absurd h.2 (by decide)) (zz_rc fS11 rfl rfl (fun h => h) (zz_ro qS10 (fun h => absurd h.2 (by decide)) (zz_ro qS9 (fun h => absurd h.2 (by decide)) (zz_ro qS8 (fun h => absurd h.2 (by decide)) (zz_ro qS7 (fun h => absurd h.2 (by decide)) (zz_ro qS6 (fun h => absurd h.2 (by decide)) (zz_ro qS5 (fun h => absurd h.2 (by decide)) (zz_rs qS4))))))))))
  have e18 : S14 1027 4 = 1 := (zz_ro qS14 (fun h => absurd h.2 (by decide)) (zz_ro qS13 (fun h => absurd h.2 (by decide)) (zz_rc fS11 rfl rfl (fun h => h) (zz_ro qS10 (fun h => absurd h.2 (by decide)) (zz_ro qS9 (fun h => absurd h.2 (by decide)) (zz_ro qS8 (fun h => absurd h.2 (by decide)) (zz_ro qS7 (fun h => absurd h.2 (by decide)) (zz_ro qS6 (fun h => absurd h.2 (by decide)) (zz_rs qS5)))))))))
  exact zz_vret zd_4_2_67 rfl (Nat.le_of_ble_eq_true rfl) (Nat.le_of_ble_eq_true rfl) ⟨_, rfl, G_S14, F_S14, by omega⟩
-- TensorForge$Layer <init> ()V at 1027, 1028
abbrev zr_init_4_1_c1027_1028 : Room := { frames := 2, cells := 0, slots := 0, locals := 30 }
def zp_init_4_1_c1027_1028 (S0 : zz_S) : zz_S → Prop := fun S => zz_Gm [1027, 1027, 1027] [] S ∧ zz_fr [(1027, 0), (1027, 1), (1027, 2), (1027, 3), (1027, 4), (1027, 5), (1027, 6), (1027, 7), (1027, 8), (1027, 9), (1027, 10), (1027, 11), (1027, 12), (1027, 13), (1027, 14)] [] (fun _ _ => False) S0 S ∧ (S 1027 0 = 0 ∧ S 1027 3 = 1 ∧ S 1027 4 = 1 ∧ S 1027 12 = 1)
theorem zc_init_4_1_c1027_1028 {g : mm_G} {l : Launch} (S0 : zz_S) (G_S0 : zz_Gm [1027] [] S0) : mm_Met g l zy_init_4_1 zr_init_4_1_c1027_1028 [.ref 1027] (zz_M S0 1028) 1028 (zz_QV 1028 (zp_init_4_1_c1027_1028 S0)) := by
  refine zz_enter (by decide) (Nat.le_of_ble_eq_true rfl) (zz_less (ls1 := [some (.ref 1027)]) ⟨rfl, trivial⟩ ?_)
  have F_S0 : zz_fr [(1027, 0), (1027, 1), (1027, 2), (1027, 3), (1027, 4), (1027, 5), (1027, 6), (1027, 7), (1027, 8), (1027, 9), (1027, 10), (1027, 11), (1027, 12), (1027, 13), (1027, 14)] [] (fun _ _ => False) S0 S0 := zz_fr.refl
  refine zz_aload_n (x := 1027) rfl zd_4_1_0 ?_
  refine zz_objI zd_4_1_1 zoi_Layer_1 zoi.1 zoi.2 (Nat.le_of_ble_eq_true rfl) (Nat.le_of_ble_eq_true rfl) ?_
  refine zz_aload_n (x := 1027) rfl zd_4_1_4 ?_
  refine zz_iconst zd_4_1_5 ?_
  refine zz_iconst zd_4_1_6 ?_
  refine zz_iconst zd_4_1_7 ?_
  refine zz_callVV [zi 0, zi 0, zi 0] zd_4_1_8 zk_Layer_9 zT_1027 (by decide) rfl rfl ⟨Nat.le_of_ble_eq_true rfl, Nat.le_of_ble_eq_true rfl⟩ ⟨rfl, rfl⟩ (Nat.le_of_ble_eq_true rfl) (Nat.le_of_ble_eq_true rfl) (zc_reset_4_2_c1027_1028 S0 (zz_Gm.sub (C1 := [1027]) (X1 := []) G_S0 (by decide +kernel) (by decide +kernel))) (fun S2 hP => ?_)
  obtain ⟨gS2, fS2, o3⟩ := hP
  have F_S2 := zz_fr.trans F_S0 fS2 (by decide +kernel) zz_nv
  have G_S2 := zz_Gm.call [] G_S0 fS2 gS2 (by decide +kernel) (by decide +kernel) (by decide +kernel) (by decide +kernel)
  have g4 := trivial
  have g5 := trivial
  have g6 := trivial
  have g7 := trivial
  exact zz_vret zd_4_1_11 rfl (Nat.le_of_ble_eq_true rfl) (Nat.le_of_ble_eq_true rfl) ⟨_, rfl, G_S2, F_S2, by omega⟩
-- TensorForge$Layer takeForm (III)V at 1028, 1029
abbrev zr_takeForm_4_3_c1028_1029 : Room := { frames := 0, cells := 0, slots := 0, locals := 0 }
def zp_takeForm_4_3_c1028_1029 (S0 : zz_S) : zz_S → Prop := fun S => zz_Gm [1028] [] S ∧ zz_fr [(1028, 10), (1028, 11), (1028, 12)] [] (fun _ _ => False) S0 S ∧ (S 1028 12 = 1)
theorem zc_takeForm_4_3_c1028_1029 {g : mm_G} {l : Launch} (S0 : zz_S) (G_S0 : zz_Gm [1028] [] S0) : mm_Met g l zy_takeForm_4_3 zr_takeForm_4_3_c1028_1029 [.ref 1028, zi 1, zi 1, zi 1] (zz_M S0 1029) 1029 (zz_QV 1029 (zp_takeForm_4_3_c1028_1029 S0)) := by
  refine zz_enter (by decide) (Nat.le_of_ble_eq_true rfl) (zz_less (ls1 := [some (.ref 1028), some (zi 1), some (zi 1), some (zi 1)]) ⟨rfl, ⟨rfl, ⟨rfl, ⟨rfl, trivial⟩⟩⟩⟩ ?_)
  have F_S0 : zz_fr [(1028, 10), (1028, 11), (1028, 12)] [] (fun _ _ => False) S0 S0 := zz_fr.refl
  refine zz_aload_n (x := 1028) rfl zd_4_3_0 ?_
  refine zz_iload_n (x := 1) rfl zd_4_3_1 ?_
  refine zz_puti zd_4_3_2 zf_Layer_54 zT_1028 rfl (by decide) (fun S1 qS1 => ?_)
  have G_S1 := zz_Gm.put [] G_S0 qS1 (-2147483648) 2147483647 rfl (by decide) (by decide +kernel)
  have F_S1 := zz_fr.puts F_S0 qS1 (by decide +kernel)
  refine zz_aload_n (x := 1028) rfl zd_4_3_5 ?_
  refine zz_iload_n (x := 1) rfl zd_4_3_6 ?_
  refine zz_puti zd_4_3_7 zf_Layer_57 zT_1028 rfl (by decide) (fun S2 qS2 => ?_)
  have G_S2 := zz_Gm.put [] G_S1 qS2 (-2147483648) 2147483647 rfl (by decide) (by decide +kernel)
  have F_S2 := zz_fr.puts F_S1 qS2 (by decide +kernel)
  refine zz_aload_n (x := 1028) rfl zd_4_3_10 ?_
  refine zz_iload_n (x := 1) rfl zd_4_3_11 ?_
  refine zz_puti zd_4_3_12 zf_Layer_60 zT_1028 rfl (by decide) (fun S3 qS3 => ?_)
  have G_S3 := zz_Gm.put [] G_S2 qS3 (-2147483648) 2147483647 rfl (by decide) (by decide +kernel)
  have F_S3 := zz_fr.puts F_S2 qS3 (by decide +kernel)
  have e4 : S3 1028 12 = 1 := (zz_rs qS3)
  exact zz_vret zd_4_3_15 rfl (Nat.le_of_ble_eq_true rfl) (Nat.le_of_ble_eq_true rfl) ⟨_, rfl, G_S3, F_S3, by omega⟩
-- TensorForge$Layer reset (III)V at 1028, 1029
abbrev zr_reset_4_2_c1028_1029 : Room := { frames := 1, cells := 0, slots := 0, locals := 15 }
def zp_reset_4_2_c1028_1029 (S0 : zz_S) : zz_S → Prop := fun S => zz_Gm [1028, 1028] [] S ∧ zz_fr [(1028, 0), (1028, 1), (1028, 2), (1028, 3), (1028, 4), (1028, 5), (1028, 6), (1028, 7), (1028, 8), (1028, 9), (1028, 10), (1028, 11), (1028, 12), (1028, 13), (1028, 14)] [] (fun _ _ => False) S0 S ∧ (S 1028 0 = 0 ∧ S 1028 3 = 1 ∧ S 1028 4 = 1 ∧ S 1028 12 = 1)
theorem zc_reset_4_2_c1028_1029 {g : mm_G} {l : Launch} (S0 : zz_S) (G_S0 : zz_Gm [1028] [] S0) : mm_Met g l zy_reset_4_2 zr_reset_4_2_c1028_1029 [.ref 1028, zi 0, zi 0, zi 0] (zz_M S0 1029) 1029 (zz_QV 1029 (zp_reset_4_2_c1028_1029 S0)) := by
  refine zz_enter (by decide) (Nat.le_of_ble_eq_true rfl) (zz_less (ls1 := [some (.ref 1028), some (zi 0), some (zi 0), some (zi 0)]) ⟨rfl, ⟨rfl, ⟨rfl, ⟨rfl, trivial⟩⟩⟩⟩ ?_)
  have F_S0 : zz_fr [(1028, 0), (1028, 1), (1028, 2), (1028, 3), (1028, 4), (1028, 5), (1028, 6), (1028, 7), (1028, 8), (1028, 9), (1028, 10), (1028, 11), (1028, 12), (1028, 13), (1028, 14)] [] (fun _ _ => False) S0 S0 := zz_fr.refl
  refine zz_aload_n (x := 1028) rfl zd_4_2_0 ?_
  refine zz_iload_n (x := 0) rfl zd_4_2_1 ?_
  refine zz_puti zd_4_2_2 zf_Layer_13 zT_1028 rfl (by decide) (fun S1 qS1 => ?_)
  have G_S1 := zz_Gm.put [] G_S0 qS1 (-2147483648) 2147483647 rfl (by decide) (by decide +kernel)
  have F_S1 := zz_fr.puts F_S0 qS1 (by decide +kernel)
  refine zz_aload_n (x := 1028) rfl zd_4_2_5 ?_
  refine zz_iload_n (x := 0) rfl zd_4_2_6 ?_
  refine zz_puti zd_4_2_7 zf_Layer_17 zT_1028 rfl (by decide) (fun S2 qS2 => ?_)
  have G_S2 := zz_Gm.put [] G_S1 qS2 (-2147483648) 2147483647 rfl (by decide) (by decide +kernel)
  have F_S2 := zz_fr.puts F_S1 qS2 (by decide +kernel)
  refine zz_aload_n (x := 1028) rfl zd_4_2_10 ?_
  refine zz_iload_n (x := 0) rfl zd_4_2_11 ?_
  refine zz_puti zd_4_2_12 zf_Layer_20 zT_1028 rfl (by decide) (fun S3 qS3 => ?_)
  have G_S3 := zz_Gm.put [] G_S2 qS3 (-2147483648) 2147483647 rfl (by decide) (by decide +kernel)
  have F_S3 := zz_fr.puts F_S2 qS3 (by decide +kernel)
  refine zz_aload_n (x := 1028) rfl zd_4_2_15 ?_
  refine zz_iconst zd_4_2_16 ?_
  refine zz_puti zd_4_2_17 zf_Layer_23 zT_1028 rfl (by decide) (fun S4 qS4 => ?_)
  have G_S4 := zz_Gm.put [] G_S3 qS4 (-2147483648) 2147483647 rfl (by decide) (by decide +kernel)
  have F_S4 := zz_fr.puts F_S3 qS4 (by decide +kernel)
  refine zz_aload_n (x := 1028) rfl zd_4_2_20 ?_
  refine zz_iconst zd_4_2_21 ?_
  refine zz_puti zd_4_2_22 zf_Layer_26 zT_1028 rfl (by decide) (fun S5 qS5 => ?_)
  have G_S5 := zz_Gm.put [] G_S4 qS5 (-2147483648) 2147483647 rfl (by decide) (by decide +kernel)
  have F_S5 := zz_fr.puts F_S4 qS5 (by decide +kernel)
  refine zz_aload_n (x := 1028) rfl zd_4_2_25 ?_
  refine zz_iconst zd_4_2_26 ?_
  refine zz_puti zd_4_2_27 zf_Layer_29 zT_1028 rfl (by decide) (fun S6 qS6 => ?_)
  have G_S6 := zz_Gm.put [] G_S5 qS6 (-2147483648) 2147483647 rfl (by decide) (by decide +kernel)
  have F_S6 := zz_fr.puts F_S5 qS6 (by decide +kernel)
  refine zz_aload_n (x := 1028) rfl zd_4_2_30 ?_
  refine zz_iconst zd_4_2_31 ?_
  refine zz_puti zd_4_2_32 zf_Layer_32 zT_1028 rfl (by decide) (fun S7 qS7 => ?_)
  have G_S7 := zz_Gm.put [] G_S6 qS7 (-2147483648) 2147483647 rfl (by decide) (by decide +kernel)
  have F_S7 := zz_fr.puts F_S6 qS7 (by decide +kernel)
  refine zz_aload_n (x := 1028) rfl zd_4_2_35 ?_
  refine zz_iconst zd_4_2_36 ?_
  refine zz_puti zd_4_2_37 zf_Layer_35 zT_1028 rfl (by decide) (fun S8 qS8 => ?_)
  have G_S8 := zz_Gm.put [] G_S7 qS8 (-2147483648) 2147483647 rfl (by decide) (by decide +kernel)
  have F_S8 := zz_fr.puts F_S7 qS8 (by decide +kernel)
  refine zz_aload_n (x := 1028) rfl zd_4_2_40 ?_
  refine zz_iconst zd_4_2_41 ?_
  refine zz_putz zd_4_2_42 zf_Layer_38 zT_1028 rfl (by decide) (by decide) (fun S9 qS9 => ?_)
  have G_S9 := zz_Gm.put [] G_S8 qS9 0 1 rfl (by decide) (by decide +kernel)
  have F_S9 := zz_fr.puts F_S8 qS9 (by decide +kernel)
  refine zz_aload_n (x := 1028) rfl zd_4_2_45 ?_
  refine zz_iconst zd_4_2_46 ?_
  refine zz_puti zd_4_2_47 zf_Layer_42 zT_1028 rfl (by decide) (fun S10 qS10 => ?_)
  have G_S10 := zz_Gm.put [] G_S9 qS10 (-2147483648) 2147483647 rfl (by decide) (by decide +kernel)
  have F_S10 := zz_fr.puts F_S9 qS10 (by decide +kernel)
  refine zz_aload_n (x := 1028) rfl zd_4_2_50 ?_
  refine zz_iconst zd_4_2_51 ?_
  refine zz_iconst zd_4_2_52 ?_
  refine zz_iconst zd_4_2_53 ?_
  refine zz_callVV [zi 1, zi 1, zi 1] zd_4_2_54 zk_Layer_45 zT_1028 (by decide) rfl rfl ⟨Nat.le_of_ble_eq_true rfl, Nat.le_of_ble_eq_true rfl⟩ ⟨rfl, rfl⟩ (Nat.le_of_ble_eq_true rfl) (Nat.le_of_ble_eq_true rfl) (zc_takeForm_4_3_c1028_1029 S10 (zz_Gm.sub (C1 := [1028]) (X1 := []) G_S10 (by decide +kernel) (by decide +kernel))) (fun S11 hP => ?_)
  obtain ⟨gS11, fS11, o12⟩ := hP
  have F_S11 := zz_fr.trans F_S10 fS11 (by decide +kernel) zz_nv
  have G_S11 := zz_Gm.call [] G_S10 fS11 gS11 (by decide +kernel) (by decide +kernel) (by decide +kernel) (by decide +kernel)
  refine zz_aload_n (x := 1028) rfl zd_4_2_57 ?_
  refine zz_iconst zd_4_2_58 ?_
  refine zz_puti zd_4_2_59 zf_Layer_48 zT_1028 rfl (by decide) (fun S13 qS13 => ?_)
  have G_S13 := zz_Gm.put [] G_S11 qS13 (-2147483648) 2147483647 rfl (by decide) (by decide +kernel)
  have F_S13 := zz_fr.puts F_S11 qS13 (by decide +kernel)
  refine zz_aload_n (x := 1028) rfl zd_4_2_62 ?_
  refine zz_iconst zd_4_2_63 ?_
  refine zz_puti zd_4_2_64 zf_Layer_51 zT_1028 rfl (by decide) (fun S14 qS14 => ?_)
  have G_S14 := zz_Gm.put [] G_S13 qS14 (-2147483648) 2147483647 rfl (by decide) (by decide +kernel)
  have F_S14 := zz_fr.puts F_S13 qS14 (by decide +kernel)
  have e15 : S14 1028 0 = 0 := (zz_ro qS14 (fun h => absurd h.2 (by decide)) (zz_ro qS13 (fun h => absurd h.2 (by decide)) (zz_rc fS11 rfl rfl (fun h => h) (zz_ro qS10 (fun h => absurd h.2 (by decide)) (zz_ro qS9 (fun h => absurd h.2 (by decide)) (zz_ro qS8 (fun h => absurd h.2 (by decide)) (zz_ro qS7 (fun h => absurd h.2 (by decide)) (zz_ro qS6 (fun h => absurd h.2 (by decide)) (zz_ro qS5 (fun h => absurd h.2 (by decide)) (zz_ro qS4 (fun h => absurd h.2 (by decide)) (zz_ro qS3 (fun h => absurd h.2 (by decide)) (zz_ro qS2 (fun h => absurd h.2 (by decide)) (zz_rs qS1)))))))))))))
  have e16 : S14 1028 12 = 1 := (zz_ro qS14 (fun h => absurd h.2 (by decide)) (zz_ro qS13 (fun h => absurd h.2 (by decide)) o12))
  have e17 : S14 1028 3 = 1 := (zz_ro qS14 (fun h => absurd h.2 (by decide)) (zz_ro qS13 (fun h => absurd h.2 (by decide)) (zz_rc fS11 rfl rfl (fun h => h) (zz_ro qS10 (fun h => absurd h.2 (by decide)) (zz_ro qS9 (fun h => absurd h.2 (by decide)) (zz_ro qS8 (fun h => absurd h.2 (by decide)) (zz_ro qS7 (fun h => absurd h.2 (by decide)) (zz_ro qS6 (fun h => absurd h.2 (by decide)) (zz_ro qS5 (fun h => absurd h.2 (by decide)) (zz_rs qS4))))))))))
  have e18 : S14 1028 4 = 1 := (zz_ro qS14 (fun h => absurd h.2 (by decide)) (zz_ro qS13 (fun h => absurd h.2 (by decide)) (zz_rc fS11 rfl rfl (fun h => h) (zz_ro qS10 (fun h => absurd h.2 (by decide)) (zz_ro qS9 (fun h => absurd h.2 (by decide)) (zz_ro qS8 (fun h => absurd h.2 (by decide)) (zz_ro qS7 (fun h => absurd h.2 (by decide)) (zz_ro qS6 (fun h => absurd h.2 (by decide)) (zz_rs qS5)))))))))
  exact zz_vret zd_4_2_67 rfl (Nat.le_of_ble_eq_true rfl) (Nat.le_of_ble_eq_true rfl) ⟨_, rfl, G_S14, F_S14, by omega⟩
-- TensorForge$Layer <init> ()V at 1028, 1029
abbrev zr_init_4_1_c1028_1029 : Room := { frames := 2, cells := 0, slots := 0, locals := 30 }
def zp_init_4_1_c1028_1029 (S0 : zz_S) : zz_S → Prop := fun S => zz_Gm [1028, 1028, 1028] [] S ∧ zz_fr [(1028, 0), (1028, 1), (1028, 2), (1028, 3), (1028, 4), (1028, 5), (1028, 6), (1028, 7), (1028, 8), (1028, 9), (1028, 10), (1028, 11), (1028, 12), (1028, 13), (1028, 14)] [] (fun _ _ => False) S0 S ∧ (S 1028 0 = 0 ∧ S 1028 3 = 1 ∧ S 1028 4 = 1 ∧ S 1028 12 = 1)
theorem zc_init_4_1_c1028_1029 {g : mm_G} {l : Launch} (S0 : zz_S) (G_S0 : zz_Gm [1028] [] S0) : mm_Met g l zy_init_4_1 zr_init_4_1_c1028_1029 [.ref 1028] (zz_M S0 1029) 1029 (zz_QV 1029 (zp_init_4_1_c1028_1029 S0)) := by
  refine zz_enter (by decide) (Nat.le_of_ble_eq_true rfl) (zz_less (ls1 := [some (.ref 1028)]) ⟨rfl, trivial⟩ ?_)
  have F_S0 : zz_fr [(1028, 0), (1028, 1), (1028, 2), (1028, 3), (1028, 4), (1028, 5), (1028, 6), (1028, 7), (1028, 8), (1028, 9), (1028, 10), (1028, 11), (1028, 12), (1028, 13), (1028, 14)] [] (fun _ _ => False) S0 S0 := zz_fr.refl
  refine zz_aload_n (x := 1028) rfl zd_4_1_0 ?_
  refine zz_objI zd_4_1_1 zoi_Layer_1 zoi.1 zoi.2 (Nat.le_of_ble_eq_true rfl) (Nat.le_of_ble_eq_true rfl) ?_
  refine zz_aload_n (x := 1028) rfl zd_4_1_4 ?_
  refine zz_iconst zd_4_1_5 ?_
  refine zz_iconst zd_4_1_6 ?_
  refine zz_iconst zd_4_1_7 ?_
  refine zz_callVV [zi 0, zi 0, zi 0] zd_4_1_8 zk_Layer_9 zT_1028 (by decide) rfl rfl ⟨Nat.le_of_ble_eq_true rfl, Nat.le_of_ble_eq_true rfl⟩ ⟨rfl, rfl⟩ (Nat.le_of_ble_eq_true rfl) (Nat.le_of_ble_eq_true rfl) (zc_reset_4_2_c1028_1029 S0 (zz_Gm.sub (C1 := [1028]) (X1 := []) G_S0 (by decide +kernel) (by decide +kernel))) (fun S2 hP => ?_)
  obtain ⟨gS2, fS2, o3⟩ := hP
  have F_S2 := zz_fr.trans F_S0 fS2 (by decide +kernel) zz_nv
  have G_S2 := zz_Gm.call [] G_S0 fS2 gS2 (by decide +kernel) (by decide +kernel) (by decide +kernel) (by decide +kernel)
  have g4 := trivial
  have g5 := trivial
  have g6 := trivial
  have g7 := trivial
  exact zz_vret zd_4_1_11 rfl (Nat.le_of_ble_eq_true rfl) (Nat.le_of_ble_eq_true rfl) ⟨_, rfl, G_S2, F_S2, by omega⟩
-- TensorForge$Network <init> ()V at 1015, 1016
abbrev zr_init_7_1_c1015_1016 : Room := { frames := 3, cells := 13, slots := 192, locals := 45 }
def zp_init_7_1_c1015_1016 (S0 : zz_S) : zz_S → Prop := fun S => zz_Gm [1028, 1028, 1028, 1027, 1027, 1027, 1026, 1026, 1026, 1025, 1025, 1025, 1024, 1024, 1024, 1023, 1023, 1023, 1022, 1022, 1022, 1021, 1021, 1021, 1020, 1020, 1020, 1019, 1019, 1019, 1018, 1018, 1018, 1017, 1017, 1017, 1016, 1015] [] S ∧ zz_fr [(1017, 0), (1017, 1), (1017, 2), (1017, 3), (1017, 4), (1017, 5), (1017, 6), (1017, 7), (1017, 8), (1017, 9), (1017, 10), (1017, 11), (1017, 12), (1017, 13), (1017, 14), (1018, 0), (1018, 1), (1018, 2), (1018, 3), (1018, 4), (1018, 5), (1018, 6), (1018, 7), (1018, 8), (1018, 9), (1018, 10), (1018, 11), (1018, 12), (1018, 13), (1018, 14), (1019, 0), (1019, 1), (1019, 2), (1019, 3), (1019, 4), (1019, 5), (1019, 6), (1019, 7), (1019, 8), (1019, 9), (1019, 10), (1019, 11), (1019, 12), (1019, 13), (1019, 14), (1020, 0), (1020, 1), (1020, 2), (1020, 3), (1020, 4), (1020, 5), (1020, 6), (1020, 7), (1020, 8), (1020, 9), (1020, 10), (1020, 11), (1020, 12), (1020, 13), (1020, 14), (1021, 0), (1021, 1), (1021, 2), (1021, 3), (1021, 4), (1021, 5), (1021, 6), (1021, 7), (1021, 8), (1021, 9), (1021, 10), (1021, 11), (1021, 12), (1021, 13), (1021, 14), (1022, 0), (1022, 1), (1022, 2), (1022, 3), (1022, 4), (1022, 5), (1022, 6), (1022, 7), (1022, 8), (1022, 9), (1022, 10), (1022, 11), (1022, 12), (1022, 13), (1022, 14), (1023, 0), (1023, 1), (1023, 2), (1023, 3), (1023, 4), (1023, 5), (1023, 6), (1023, 7), (1023, 8), (1023, 9), (1023, 10), (1023, 11), (1023, 12), (1023, 13), (1023, 14), (1024, 0), (1024, 1), (1024, 2), (1024, 3), (1024, 4), (1024, 5), (1024, 6), (1024, 7), (1024, 8), (1024, 9), (1024, 10), (1024, 11), (1024, 12), (1024, 13), (1024, 14), (1025, 0), (1025, 1), (1025, 2), (1025, 3), (1025, 4), (1025, 5), (1025, 6), (1025, 7), (1025, 8), (1025, 9), (1025, 10), (1025, 11), (1025, 12), (1025, 13), (1025, 14), (1026, 0), (1026, 1), (1026, 2), (1026, 3), (1026, 4), (1026, 5), (1026, 6), (1026, 7), (1026, 8), (1026, 9), (1026, 10), (1026, 11), (1026, 12), (1026, 13), (1026, 14), (1027, 0), (1027, 1), (1027, 2), (1027, 3), (1027, 4), (1027, 5), (1027, 6), (1027, 7), (1027, 8), (1027, 9), (1027, 10), (1027, 11), (1027, 12), (1027, 13), (1027, 14), (1028, 0), (1028, 1), (1028, 2), (1028, 3), (1028, 4), (1028, 5), (1028, 6), (1028, 7), (1028, 8), (1028, 9), (1028, 10), (1028, 11), (1028, 12), (1028, 13), (1028, 14)] [1015, 1016, 1017, 1018, 1019, 1020, 1021, 1022, 1023, 1024, 1025, 1026, 1027, 1028] (fun _ _ => False) S0 S ∧ (S 1015 1 = 1 ∧ S 1017 0 = 0 ∧ S 1017 3 = 1 ∧ S 1017 4 = 1 ∧ S 1017 12 = 1)
theorem zc_init_7_1_c1015_1016 {g : mm_G} {l : Launch} (S0 : zz_S) (G_S0 : zz_Gm [1015] [(1015, 0), (1015, 1)] S0) : mm_Met g l zy_init_7_1 zr_init_7_1_c1015_1016 [.ref 1015] (zz_M S0 1016) 1016 (zz_QV 1029 (zp_init_7_1_c1015_1016 S0)) := by
  refine zz_enter (by decide) (Nat.le_of_ble_eq_true rfl) (zz_less (ls1 := [some (.ref 1015)]) ⟨rfl, trivial⟩ ?_)
  have F_S0 : zz_fr [(1017, 0), (1017, 1), (1017, 2), (1017, 3), (1017, 4), (1017, 5), (1017, 6), (1017, 7), (1017, 8), (1017, 9), (1017, 10), (1017, 11), (1017, 12), (1017, 13), (1017, 14), (1018, 0), (1018, 1), (1018, 2), (1018, 3), (1018, 4), (1018, 5), (1018, 6), (1018, 7), (1018, 8), (1018, 9), (1018, 10), (1018, 11), (1018, 12), (1018, 13), (1018, 14), (1019, 0), (1019, 1), (1019, 2), (1019, 3), (1019, 4), (1019, 5), (1019, 6), (1019, 7), (1019, 8), (1019, 9), (1019, 10), (1019, 11), (1019, 12), (1019, 13), (1019, 14), (1020, 0), (1020, 1), (1020, 2), (1020, 3), (1020, 4), (1020, 5), (1020, 6), (1020, 7), (1020, 8), (1020, 9), (1020, 10), (1020, 11), (1020, 12), (1020, 13), (1020, 14), (1021, 0), (1021, 1), (1021, 2), (1021, 3), (1021, 4), (1021, 5), (1021, 6), (1021, 7), (1021, 8), (1021, 9), (1021, 10), (1021, 11), (1021, 12), (1021, 13), (1021, 14), (1022, 0), (1022, 1), (1022, 2), (1022, 3), (1022, 4), (1022, 5), (1022, 6), (1022, 7), (1022, 8), (1022, 9), (1022, 10), (1022, 11), (1022, 12), (1022, 13), (1022, 14), (1023, 0), (1023, 1), (1023, 2), (1023, 3), (1023, 4), (1023, 5), (1023, 6), (1023, 7), (1023, 8), (1023, 9), (1023, 10), (1023, 11), (1023, 12), (1023, 13), (1023, 14), (1024, 0), (1024, 1), (1024, 2), (1024, 3), (1024, 4), (1024, 5), (1024, 6), (1024, 7), (1024, 8), (1024, 9), (1024, 10), (1024, 11), (1024, 12), (1024, 13), (1024, 14), (1025, 0), (1025, 1), (1025, 2), (1025, 3), (1025, 4), (1025, 5), (1025, 6), (1025, 7), (1025, 8), (1025, 9), (1025, 10), (1025, 11), (1025, 12), (1025, 13), (1025, 14), (1026, 0), (1026, 1), (1026, 2), (1026, 3), (1026, 4), (1026, 5), (1026, 6), (1026, 7), (1026, 8), (1026, 9), (1026, 10), (1026, 11), (1026, 12), (1026, 13), (1026, 14), (1027, 0), (1027, 1), (1027, 2), (1027, 3), (1027, 4), (1027, 5), (1027, 6), (1027, 7), (1027, 8), (1027, 9), (1027, 10), (1027, 11), (1027, 12), (1027, 13), (1027, 14), (1028, 0), (1028, 1), (1028, 2), (1028, 3), (1028, 4), (1028, 5), (1028, 6), (1028, 7), (1028, 8), (1028, 9), (1028, 10), (1028, 11), (1028, 12), (1028, 13), (1028, 14)] [1015, 1016, 1017, 1018, 1019, 1020, 1021, 1022, 1023, 1024, 1025, 1026, 1027, 1028] (fun _ _ => False) S0 S0 := zz_fr.refl
  refine zz_aload_n (x := 1015) rfl zd_7_1_0 ?_
  refine zz_objI zd_7_1_1 zoi_Network_1 zoi.1 zoi.2 (Nat.le_of_ble_eq_true rfl) (Nat.le_of_ble_eq_true rfl) ?_
  refine zz_aload_n (x := 1015) rfl zd_7_1_4 ?_
  refine zz_bipush (by decide) zd_7_1_5 ?_
  refine zz_anewb (z := 12) (fun i => if i < 12 then -1 else 12 + (i : Int)) zd_7_1_7 zT_1016 rfl (mm_tb_1 42 (by decide +kernel) rfl) (fun _ _ _ h => h.2.2.2.2.2.2.2.2.2.2.1) rfl (by decide) (fun i hi => by simp only [if_pos hi]; decide) (Nat.le_of_ble_eq_true rfl) (Nat.le_of_ble_eq_true rfl) (fun S2 qS2 => ?_)
  have G_S2 := zz_Gm.nwa zX_14 G_S0 qS2 (by decide +kernel) (fun i hi => by
    by_cases h : i < 12
    · exfalso
      have h9 := (by decide +kernel : ∀ q, q < 12 → (zX_14 : List (Nat × Nat)).contains (1016, q) = true) i h
      rw [h9] at hi
      cases hi
    · simp only [if_neg h]
      exact ⟨Int.le_refl _, Int.le_refl _⟩)
  have F_S2 := zz_fr.nw F_S0 qS2 (by decide +kernel)
  refine zz_setn (n1 := 1017) (k1 := 1) (j1 := 12) rfl rfl rfl ?_
  refine zz_putrF (kd := 0) 1016 zd_7_1_10 zf_Network_11 zT_1015 rfl (by decide) (by decide) rfl (fun _ => rfl) (fun _ => rfl) rfl (fun q h => by cases h; rfl) (fun S3 qS3 => ?_)
  have G_S3 := zz_Gm.put zX_15 G_S2 qS3 1016 1016 rfl (by decide) (by decide +kernel)
  have F_S3 := zz_fr.putc F_S2 qS3 (by decide +kernel)
  refine zz_iconst zd_7_1_13 ?_
  refine zz_istore_n [some (.ref 1015), some (zi 0)] zd_7_1_14 (by decide) rfl ?_
  refine zz_iload_n (x := 0) rfl zd_7_1_15 ?_
  refine zz_bipush (by decide) zd_7_1_16 ?_
  refine zz_icmp_gt (by omega) (by omega) zd_7_1_18 (fun c4 => ?_) (fun c4 => ?_)
  · exfalso; omega
  · refine zz_aload_n (x := 1015) rfl zd_7_1_21 ?_
    have g5 := G_S3 1015 0 (by decide +kernel) (by decide +kernel)
    refine zz_getr (kd := 0) (z := 1016) zd_7_1_22 zf_Network_11 zT_1015 rfl (by decide) (Int.le_antisymm g5.2 g5.1) (by decide) 1016 rfl ?_
    refine zz_iload_n (x := 0) rfl zd_7_1_25 ?_
    refine zz_new (zz_ov [0, 0, 0, 0, 0, 0, 0, 0, 0, 0, 0, 0, 0, 0, 0]) zd_7_1_26 zn_Network_9 zT_1017 rfl (Nat.le_of_ble_eq_true rfl) (Nat.le_of_ble_eq_true rfl) (fun S6 qS6 => ?_)
    have G_S6 := zz_Gm.nwo G_S3 qS6 (by decide +kernel)
    have F_S6 := zz_fr.nw F_S3 qS6 (by decide +kernel)
    refine zz_setn (n1 := 1018) (k1 := 2) (j1 := 27) rfl rfl rfl ?_
    refine zz_dup rfl zd_7_1_29 ?_
    refine zz_callN (n1 := 1018) [] zd_7_1_30 zk_Network_15 rfl rfl ⟨Nat.le_of_ble_eq_true rfl, Nat.le_of_ble_eq_true rfl⟩ (Nat.le_of_ble_eq_true rfl) (Nat.le_of_ble_eq_true rfl) (zc_init_4_1_c1017_1018 S6 (zz_Gm.own qS6 (zz_ovG (rs := [((-2147483648), 2147483647), ((-2147483648), 2147483647), ((-2147483648), 2147483647), ((-2147483648), 2147483647), ((-2147483648), 2147483647), ((-2147483648), 2147483647), ((-2147483648), 2147483647), ((-2147483648), 2147483647), (0, 1), ((-2147483648), 2147483647), ((-2147483648), 2147483647), ((-2147483648), 2147483647), ((-2147483648), 2147483647), ((-2147483648), 2147483647), ((-2147483648), 2147483647)]) (fun _ => rfl) rfl (by decide +kernel)))) (fun S7 hP => ?_)
    obtain ⟨gS7, fS7, o8⟩ := hP
    have F_S7 := zz_fr.trans F_S6 fS7 (by decide +kernel) zz_nv
    have G_S7 := zz_Gm.call zX_15 G_S6 fS7 gS7 (by decide +kernel) (by decide +kernel) (by decide +kernel) (by decide +kernel)
    refine zz_setn (n1 := 1018) (k1 := 2) (j1 := 27) rfl rfl rfl ?_
    refine zz_aast (kd := 4) 12 zd_7_1_33 zT_1016 rfl (ci := 2) rfl zT_1017 (by decide) (by decide) (by decide) (by decide) (by decide) rfl (fun S9 qS9 => ?_)
    have G_S9 := zz_Gm.put zX_16 G_S7 qS9 12 12 rfl (by decide) (by decide +kernel)
    have F_S9 := zz_fr.putc F_S7 qS9 (by decide +kernel)
    refine zz_iinc [some (.ref 1015), some (zi 1)] zd_7_1_34 rfl rfl ?_
    refine zz_goto zd_7_1_37 ?_
    refine zz_iload_n (x := 1) rfl zd_7_1_15 ?_
    refine zz_bipush (by decide) zd_7_1_16 ?_
    refine zz_icmp_gt (by omega) (by omega) zd_7_1_18 (fun c10 => ?_) (fun c10 => ?_)
    · exfalso; omega
    · refine zz_aload_n (x := 1015) rfl zd_7_1_21 ?_
      have g11 := G_S9 1015 0 (by decide +kernel) (by decide +kernel)
      refine zz_getr (kd := 0) (z := 1016) zd_7_1_22 zf_Network_11 zT_1015 rfl (by decide) (Int.le_antisymm g11.2 g11.1) (by decide) 1016 rfl ?_
      refine zz_iload_n (x := 1) rfl zd_7_1_25 ?_
      refine zz_new (zz_ov [0, 0, 0, 0, 0, 0, 0, 0, 0, 0, 0, 0, 0, 0, 0]) zd_7_1_26 zn_Network_9 zT_1018 rfl (Nat.le_of_ble_eq_true rfl) (Nat.le_of_ble_eq_true rfl) (fun S12 qS12 => ?_)
      have G_S12 := zz_Gm.nwo G_S9 qS12 (by decide +kernel)
      have F_S12 := zz_fr.nw F_S9 qS12 (by decide +kernel)
      refine zz_setn (n1 := 1019) (k1 := 3) (j1 := 42) rfl rfl rfl ?_
      refine zz_dup rfl zd_7_1_29 ?_
      refine zz_callN (n1 := 1019) [] zd_7_1_30 zk_Network_15 rfl rfl ⟨Nat.le_of_ble_eq_true rfl, Nat.le_of_ble_eq_true rfl⟩ (Nat.le_of_ble_eq_true rfl) (Nat.le_of_ble_eq_true rfl) (zc_init_4_1_c1018_1019 S12 (zz_Gm.own qS12 (zz_ovG (rs := [((-2147483648), 2147483647), ((-2147483648), 2147483647), ((-2147483648), 2147483647), ((-2147483648), 2147483647), ((-2147483648), 2147483647), ((-2147483648), 2147483647), ((-2147483648), 2147483647), ((-2147483648), 2147483647), (0, 1), ((-2147483648), 2147483647), ((-2147483648), 2147483647), ((-2147483648), 2147483647), ((-2147483648), 2147483647), ((-2147483648), 2147483647), ((-2147483648), 2147483647)]) (fun _ => rfl) rfl (by decide +kernel)))) (fun S13 hP => ?_)
      obtain ⟨gS13, fS13, o14⟩ := hP
      have F_S13 := zz_fr.trans F_S12 fS13 (by decide +kernel) zz_nv
      have G_S13 := zz_Gm.call zX_16 G_S12 fS13 gS13 (by decide +kernel) (by decide +kernel) (by decide +kernel) (by decide +kernel)
      refine zz_setn (n1 := 1019) (k1 := 3) (j1 := 42) rfl rfl rfl ?_
      refine zz_aast (kd := 4) 13 zd_7_1_33 zT_1016 rfl (ci := 2) rfl zT_1018 (by decide) (by decide) (by decide) (by decide) (by decide) rfl (fun S15 qS15 => ?_)
      have G_S15 := zz_Gm.put zX_17 G_S13 qS15 13 13 rfl (by decide) (by decide +kernel)
      have F_S15 := zz_fr.putc F_S13 qS15 (by decide +kernel)
      refine zz_iinc [some (.ref 1015), some (zi 2)] zd_7_1_34 rfl rfl ?_
      refine zz_goto zd_7_1_37 ?_
      refine zz_iload_n (x := 2) rfl zd_7_1_15 ?_
      refine zz_bipush (by decide) zd_7_1_16 ?_
      refine zz_icmp_gt (by omega) (by omega) zd_7_1_18 (fun c16 => ?_) (fun c16 => ?_)
      · exfalso; omega
      · refine zz_aload_n (x := 1015) rfl zd_7_1_21 ?_
        have g17 := G_S15 1015 0 (by decide +kernel) (by decide +kernel)
        refine zz_getr (kd := 0) (z := 1016) zd_7_1_22 zf_Network_11 zT_1015 rfl (by decide) (Int.le_antisymm g17.2 g17.1) (by decide) 1016 rfl ?_
        refine zz_iload_n (x := 2) rfl zd_7_1_25 ?_
        refine zz_new (zz_ov [0, 0, 0, 0, 0, 0, 0, 0, 0, 0, 0, 0, 0, 0, 0]) zd_7_1_26 zn_Network_9 zT_1019 rfl (Nat.le_of_ble_eq_true rfl) (Nat.le_of_ble_eq_true rfl) (fun S18 qS18 => ?_)
        have G_S18 := zz_Gm.nwo G_S15 qS18 (by decide +kernel)
        have F_S18 := zz_fr.nw F_S15 qS18 (by decide +kernel)
        refine zz_setn (n1 := 1020) (k1 := 4) (j1 := 57) rfl rfl rfl ?_
        refine zz_dup rfl zd_7_1_29 ?_
        refine zz_callN (n1 := 1020) [] zd_7_1_30 zk_Network_15 rfl rfl ⟨Nat.le_of_ble_eq_true rfl, Nat.le_of_ble_eq_true rfl⟩ (Nat.le_of_ble_eq_true rfl) (Nat.le_of_ble_eq_true rfl) (zc_init_4_1_c1019_1020 S18 (zz_Gm.own qS18 (zz_ovG (rs := [((-2147483648), 2147483647), ((-2147483648), 2147483647), ((-2147483648), 2147483647), ((-2147483648), 2147483647), ((-2147483648), 2147483647), ((-2147483648), 2147483647), ((-2147483648), 2147483647), ((-2147483648), 2147483647), (0, 1), ((-2147483648), 2147483647), ((-2147483648), 2147483647), ((-2147483648), 2147483647), ((-2147483648), 2147483647), ((-2147483648), 2147483647), ((-2147483648), 2147483647)]) (fun _ => rfl) rfl (by decide +kernel)))) (fun S19 hP => ?_)
        obtain ⟨gS19, fS19, o20⟩ := hP
        have F_S19 := zz_fr.trans F_S18 fS19 (by decide +kernel) zz_nv
        have G_S19 := zz_Gm.call zX_17 G_S18 fS19 gS19 (by decide +kernel) (by decide +kernel) (by decide +kernel) (by decide +kernel)
        refine zz_setn (n1 := 1020) (k1 := 4) (j1 := 57) rfl rfl rfl ?_
        refine zz_aast (kd := 4) 14 zd_7_1_33 zT_1016 rfl (ci := 2) rfl zT_1019 (by decide) (by decide) (by decide) (by decide) (by decide) rfl (fun S21 qS21 => ?_)
        have G_S21 := zz_Gm.put zX_18 G_S19 qS21 14 14 rfl (by decide) (by decide +kernel)
        have F_S21 := zz_fr.putc F_S19 qS21 (by decide +kernel)
        refine zz_iinc [some (.ref 1015), some (zi 3)] zd_7_1_34 rfl rfl ?_
        refine zz_goto zd_7_1_37 ?_
        refine zz_iload_n (x := 3) rfl zd_7_1_15 ?_
        refine zz_bipush (by decide) zd_7_1_16 ?_
        refine zz_icmp_gt (by omega) (by omega) zd_7_1_18 (fun c22 => ?_) (fun c22 => ?_)
        · exfalso; omega
        · refine zz_aload_n (x := 1015) rfl zd_7_1_21 ?_
          have g23 := G_S21 1015 0 (by decide +kernel) (by decide +kernel)
          refine zz_getr (kd := 0) (z := 1016) zd_7_1_22 zf_Network_11 zT_1015 rfl (by decide) (Int.le_antisymm g23.2 g23.1) (by decide) 1016 rfl ?_
          refine zz_iload_n (x := 3) rfl zd_7_1_25 ?_
          refine zz_new (zz_ov [0, 0, 0, 0, 0, 0, 0, 0, 0, 0, 0, 0, 0, 0, 0]) zd_7_1_26 zn_Network_9 zT_1020 rfl (Nat.le_of_ble_eq_true rfl) (Nat.le_of_ble_eq_true rfl) (fun S24 qS24 => ?_)
          have G_S24 := zz_Gm.nwo G_S21 qS24 (by decide +kernel)
          have F_S24 := zz_fr.nw F_S21 qS24 (by decide +kernel)
          refine zz_setn (n1 := 1021) (k1 := 5) (j1 := 72) rfl rfl rfl ?_
          refine zz_dup rfl zd_7_1_29 ?_
          refine zz_callN (n1 := 1021) [] zd_7_1_30 zk_Network_15 rfl rfl ⟨Nat.le_of_ble_eq_true rfl, Nat.le_of_ble_eq_true rfl⟩ (Nat.le_of_ble_eq_true rfl) (Nat.le_of_ble_eq_true rfl) (zc_init_4_1_c1020_1021 S24 (zz_Gm.own qS24 (zz_ovG (rs := [((-2147483648), 2147483647), ((-2147483648), 2147483647), ((-2147483648), 2147483647), ((-2147483648), 2147483647), ((-2147483648), 2147483647), ((-2147483648), 2147483647), ((-2147483648), 2147483647), ((-2147483648), 2147483647), (0, 1), ((-2147483648), 2147483647), ((-2147483648), 2147483647), ((-2147483648), 2147483647), ((-2147483648), 2147483647), ((-2147483648), 2147483647), ((-2147483648), 2147483647)]) (fun _ => rfl) rfl (by decide +kernel)))) (fun S25 hP => ?_)
          obtain ⟨gS25, fS25, o26⟩ := hP
          have F_S25 := zz_fr.trans F_S24 fS25 (by decide +kernel) zz_nv
          have G_S25 := zz_Gm.call zX_18 G_S24 fS25 gS25 (by decide +kernel) (by decide +kernel) (by decide +kernel) (by decide +kernel)
          refine zz_setn (n1 := 1021) (k1 := 5) (j1 := 72) rfl rfl rfl ?_
          refine zz_aast (kd := 4) 15 zd_7_1_33 zT_1016 rfl (ci := 2) rfl zT_1020 (by decide) (by decide) (by decide) (by decide) (by decide) rfl (fun S27 qS27 => ?_)
          have G_S27 := zz_Gm.put zX_19 G_S25 qS27 15 15 rfl (by decide) (by decide +kernel)
          have F_S27 := zz_fr.putc F_S25 qS27 (by decide +kernel)
          refine zz_iinc [some (.ref 1015), some (zi 4)] zd_7_1_34 rfl rfl ?_
          refine zz_goto zd_7_1_37 ?_
          refine zz_iload_n (x := 4) rfl zd_7_1_15 ?_
          refine zz_bipush (by decide) zd_7_1_16 ?_
          refine zz_icmp_gt (by omega) (by omega) zd_7_1_18 (fun c28 => ?_) (fun c28 => ?_)
          · exfalso; omega
          · refine zz_aload_n (x := 1015) rfl zd_7_1_21 ?_
            have g29 := G_S27 1015 0 (by decide +kernel) (by decide +kernel)
            refine zz_getr (kd := 0) (z := 1016) zd_7_1_22 zf_Network_11 zT_1015 rfl (by decide) (Int.le_antisymm g29.2 g29.1) (by decide) 1016 rfl ?_
            refine zz_iload_n (x := 4) rfl zd_7_1_25 ?_
            refine zz_new (zz_ov [0, 0, 0, 0, 0, 0, 0, 0, 0, 0, 0, 0, 0, 0, 0]) zd_7_1_26 zn_Network_9 zT_1021 rfl (Nat.le_of_ble_eq_true rfl) (Nat.le_of_ble_eq_true rfl) (fun S30 qS30 => ?_)
            have G_S30 := zz_Gm.nwo G_S27 qS30 (by decide +kernel)
            have F_S30 := zz_fr.nw F_S27 qS30 (by decide +kernel)
            refine zz_setn (n1 := 1022) (k1 := 6) (j1 := 87) rfl rfl rfl ?_
            refine zz_dup rfl zd_7_1_29 ?_
            refine zz_callN (n1 := 1022) [] zd_7_1_30 zk_Network_15 rfl rfl ⟨Nat.le_of_ble_eq_true rfl, Nat.le_of_ble_eq_true rfl⟩ (Nat.le_of_ble_eq_true rfl) (Nat.le_of_ble_eq_true rfl) (zc_init_4_1_c1021_1022 S30 (zz_Gm.own qS30 (zz_ovG (rs := [((-2147483648), 2147483647), ((-2147483648), 2147483647), ((-2147483648), 2147483647), ((-2147483648), 2147483647), ((-2147483648), 2147483647), ((-2147483648), 2147483647), ((-2147483648), 2147483647), ((-2147483648), 2147483647), (0, 1), ((-2147483648), 2147483647), ((-2147483648), 2147483647), ((-2147483648), 2147483647), ((-2147483648), 2147483647), ((-2147483648), 2147483647), ((-2147483648), 2147483647)]) (fun _ => rfl) rfl (by decide +kernel)))) (fun S31 hP => ?_)
            obtain ⟨gS31, fS31, o32⟩ := hP
            have F_S31 := zz_fr.trans F_S30 fS31 (by decide +kernel) zz_nv
            have G_S31 := zz_Gm.call zX_19 G_S30 fS31 gS31 (by decide +kernel) (by decide +kernel) (by decide +kernel) (by decide +kernel)
            refine zz_setn (n1 := 1022) (k1 := 6) (j1 := 87) rfl rfl rfl ?_
            refine zz_aast (kd := 4) 16 zd_7_1_33 zT_1016 rfl (ci := 2) rfl zT_1021 (by decide) (by decide) (by decide) (by decide) (by decide) rfl (fun S33 qS33 => ?_)
            have G_S33 := zz_Gm.put zX_20 G_S31 qS33 16 16 rfl (by decide) (by decide +kernel)
            have F_S33 := zz_fr.putc F_S31 qS33 (by decide +kernel)
            refine zz_iinc [some (.ref 1015), some (zi 5)] zd_7_1_34 rfl rfl ?_
            refine zz_goto zd_7_1_37 ?_
            refine zz_iload_n (x := 5) rfl zd_7_1_15 ?_
            refine zz_bipush (by decide) zd_7_1_16 ?_
            refine zz_icmp_gt (by omega) (by omega) zd_7_1_18 (fun c34 => ?_) (fun c34 => ?_)
            · exfalso; omega
            · refine zz_aload_n (x := 1015) rfl zd_7_1_21 ?_
              have g35 := G_S33 1015 0 (by decide +kernel) (by decide +kernel)
              refine zz_getr (kd := 0) (z := 1016) zd_7_1_22 zf_Network_11 zT_1015 rfl (by decide) (Int.le_antisymm g35.2 g35.1) (by decide) 1016 rfl ?_
              refine zz_iload_n (x := 5) rfl zd_7_1_25 ?_
              refine zz_new (zz_ov [0, 0, 0, 0, 0, 0, 0, 0, 0, 0, 0, 0, 0, 0, 0]) zd_7_1_26 zn_Network_9 zT_1022 rfl (Nat.le_of_ble_eq_true rfl) (Nat.le_of_ble_eq_true rfl) (fun S36 qS36 => ?_)
              have G_S36 := zz_Gm.nwo G_S33 qS36 (by decide +kernel)
              have F_S36 := zz_fr.nw F_S33 qS36 (by decide +kernel)
              refine zz_setn (n1 := 1023) (k1 := 7) (j1 := 102) rfl rfl rfl ?_
              refine zz_dup rfl zd_7_1_29 ?_
              refine zz_callN (n1 := 1023) [] zd_7_1_30 zk_Network_15 rfl rfl ⟨Nat.le_of_ble_eq_true rfl, Nat.le_of_ble_eq_true rfl⟩ (Nat.le_of_ble_eq_true rfl) (Nat.le_of_ble_eq_true rfl) (zc_init_4_1_c1022_1023 S36 (zz_Gm.own qS36 (zz_ovG (rs := [((-2147483648), 2147483647), ((-2147483648), 2147483647), ((-2147483648), 2147483647), ((-2147483648), 2147483647), ((-2147483648), 2147483647), ((-2147483648), 2147483647), ((-2147483648), 2147483647), ((-2147483648), 2147483647), (0, 1), ((-2147483648), 2147483647), ((-2147483648), 2147483647), ((-2147483648), 2147483647), ((-2147483648), 2147483647), ((-2147483648), 2147483647), ((-2147483648), 2147483647)]) (fun _ => rfl) rfl (by decide +kernel)))) (fun S37 hP => ?_)
              obtain ⟨gS37, fS37, o38⟩ := hP
              have F_S37 := zz_fr.trans F_S36 fS37 (by decide +kernel) zz_nv
              have G_S37 := zz_Gm.call zX_20 G_S36 fS37 gS37 (by decide +kernel) (by decide +kernel) (by decide +kernel) (by decide +kernel)
              refine zz_setn (n1 := 1023) (k1 := 7) (j1 := 102) rfl rfl rfl ?_
              refine zz_aast (kd := 4) 17 zd_7_1_33 zT_1016 rfl (ci := 2) rfl zT_1022 (by decide) (by decide) (by decide) (by decide) (by decide) rfl (fun S39 qS39 => ?_)
              have G_S39 := zz_Gm.put zX_21 G_S37 qS39 17 17 rfl (by decide) (by decide +kernel)
              have F_S39 := zz_fr.putc F_S37 qS39 (by decide +kernel)
              refine zz_iinc [some (.ref 1015), some (zi 6)] zd_7_1_34 rfl rfl ?_
              refine zz_goto zd_7_1_37 ?_
              refine zz_iload_n (x := 6) rfl zd_7_1_15 ?_
              refine zz_bipush (by decide) zd_7_1_16 ?_
              refine zz_icmp_gt (by omega) (by omega) zd_7_1_18 (fun c40 => ?_) (fun c40 => ?_)
              · exfalso; omega
              · refine zz_aload_n (x := 1015) rfl zd_7_1_21 ?_
                have g41 := G_S39 1015 0 (by decide +kernel) (by decide +kernel)
                refine zz_getr (kd := 0) (z := 1016) zd_7_1_22 zf_Network_11 zT_1015 rfl (by decide) (Int.le_antisymm g41.2 g41.1) (by decide) 1016 rfl ?_
                refine zz_iload_n (x := 6) rfl zd_7_1_25 ?_
                refine zz_new (zz_ov [0, 0, 0, 0, 0, 0, 0, 0, 0, 0, 0, 0, 0, 0, 0]) zd_7_1_26 zn_Network_9 zT_1023 rfl (Nat.le_of_ble_eq_true rfl) (Nat.le_of_ble_eq_true rfl) (fun S42 qS42 => ?_)
                have G_S42 := zz_Gm.nwo G_S39 qS42 (by decide +kernel)
                have F_S42 := zz_fr.nw F_S39 qS42 (by decide +kernel)
                refine zz_setn (n1 := 1024) (k1 := 8) (j1 := 117) rfl rfl rfl ?_
                refine zz_dup rfl zd_7_1_29 ?_
                refine zz_callN (n1 := 1024) [] zd_7_1_30 zk_Network_15 rfl rfl ⟨Nat.le_of_ble_eq_true rfl, Nat.le_of_ble_eq_true rfl⟩ (Nat.le_of_ble_eq_true rfl) (Nat.le_of_ble_eq_true rfl) (zc_init_4_1_c1023_1024 S42 (zz_Gm.own qS42 (zz_ovG (rs := [((-2147483648), 2147483647), ((-2147483648), 2147483647), ((-2147483648), 2147483647), ((-2147483648), 2147483647), ((-2147483648), 2147483647), ((-2147483648), 2147483647), ((-2147483648), 2147483647), ((-2147483648), 2147483647), (0, 1), ((-2147483648), 2147483647), ((-2147483648), 2147483647), ((-2147483648), 2147483647), ((-2147483648), 2147483647), ((-2147483648), 2147483647), ((-2147483648), 2147483647)]) (fun _ => rfl) rfl (by decide +kernel)))) (fun S43 hP => ?_)
                obtain ⟨gS43, fS43, o44⟩ := hP
                have F_S43 := zz_fr.trans F_S42 fS43 (by decide +kernel) zz_nv
                have G_S43 := zz_Gm.call zX_21 G_S42 fS43 gS43 (by decide +kernel) (by decide +kernel) (by decide +kernel) (by decide +kernel)
                refine zz_setn (n1 := 1024) (k1 := 8) (j1 := 117) rfl rfl rfl ?_
                refine zz_aast (kd := 4) 18 zd_7_1_33 zT_1016 rfl (ci := 2) rfl zT_1023 (by decide) (by decide) (by decide) (by decide) (by decide) rfl (fun S45 qS45 => ?_)
                have G_S45 := zz_Gm.put zX_22 G_S43 qS45 18 18 rfl (by decide) (by decide +kernel)
                have F_S45 := zz_fr.putc F_S43 qS45 (by decide +kernel)
                refine zz_iinc [some (.ref 1015), some (zi 7)] zd_7_1_34 rfl rfl ?_
                refine zz_goto zd_7_1_37 ?_
                refine zz_iload_n (x := 7) rfl zd_7_1_15 ?_
                refine zz_bipush (by decide) zd_7_1_16 ?_
                refine zz_icmp_gt (by omega) (by omega) zd_7_1_18 (fun c46 => ?_) (fun c46 => ?_)
                · exfalso; omega
                · refine zz_aload_n (x := 1015) rfl zd_7_1_21 ?_
                  have g47 := G_S45 1015 0 (by decide +kernel) (by decide +kernel)
                  refine zz_getr (kd := 0) (z := 1016) zd_7_1_22 zf_Network_11 zT_1015 rfl (by decide) (Int.le_antisymm g47.2 g47.1) (by decide) 1016 rfl ?_
                  refine zz_iload_n (x := 7) rfl zd_7_1_25 ?_
                  refine zz_new (zz_ov [0, 0, 0, 0, 0, 0, 0, 0, 0, 0, 0, 0, 0, 0, 0]) zd_7_1_26 zn_Network_9 zT_1024 rfl (Nat.le_of_ble_eq_true rfl) (Nat.le_of_ble_eq_true rfl) (fun S48 qS48 => ?_)
                  have G_S48 := zz_Gm.nwo G_S45 qS48 (by decide +kernel)
                  have F_S48 := zz_fr.nw F_S45 qS48 (by decide +kernel)
                  refine zz_setn (n1 := 1025) (k1 := 9) (j1 := 132) rfl rfl rfl ?_
                  refine zz_dup rfl zd_7_1_29 ?_
                  refine zz_callN (n1 := 1025) [] zd_7_1_30 zk_Network_15 rfl rfl ⟨Nat.le_of_ble_eq_true rfl, Nat.le_of_ble_eq_true rfl⟩ (Nat.le_of_ble_eq_true rfl) (Nat.le_of_ble_eq_true rfl) (zc_init_4_1_c1024_1025 S48 (zz_Gm.own qS48 (zz_ovG (rs := [((-2147483648), 2147483647), ((-2147483648), 2147483647), ((-2147483648), 2147483647), ((-2147483648), 2147483647), ((-2147483648), 2147483647), ((-2147483648), 2147483647), ((-2147483648), 2147483647), ((-2147483648), 2147483647), (0, 1), ((-2147483648), 2147483647), ((-2147483648), 2147483647), ((-2147483648), 2147483647), ((-2147483648), 2147483647), ((-2147483648), 2147483647), ((-2147483648), 2147483647)]) (fun _ => rfl) rfl (by decide +kernel)))) (fun S49 hP => ?_)
                  obtain ⟨gS49, fS49, o50⟩ := hP
                  have F_S49 := zz_fr.trans F_S48 fS49 (by decide +kernel) zz_nv
                  have G_S49 := zz_Gm.call zX_22 G_S48 fS49 gS49 (by decide +kernel) (by decide +kernel) (by decide +kernel) (by decide +kernel)
                  refine zz_setn (n1 := 1025) (k1 := 9) (j1 := 132) rfl rfl rfl ?_
                  refine zz_aast (kd := 4) 19 zd_7_1_33 zT_1016 rfl (ci := 2) rfl zT_1024 (by decide) (by decide) (by decide) (by decide) (by decide) rfl (fun S51 qS51 => ?_)
                  have G_S51 := zz_Gm.put zX_23 G_S49 qS51 19 19 rfl (by decide) (by decide +kernel)
                  have F_S51 := zz_fr.putc F_S49 qS51 (by decide +kernel)
                  refine zz_iinc [some (.ref 1015), some (zi 8)] zd_7_1_34 rfl rfl ?_
                  refine zz_goto zd_7_1_37 ?_
                  refine zz_iload_n (x := 8) rfl zd_7_1_15 ?_
                  refine zz_bipush (by decide) zd_7_1_16 ?_
                  refine zz_icmp_gt (by omega) (by omega) zd_7_1_18 (fun c52 => ?_) (fun c52 => ?_)
                  · exfalso; omega
                  · refine zz_aload_n (x := 1015) rfl zd_7_1_21 ?_
                    have g53 := G_S51 1015 0 (by decide +kernel) (by decide +kernel)
                    refine zz_getr (kd := 0) (z := 1016) zd_7_1_22 zf_Network_11 zT_1015 rfl (by decide) (Int.le_antisymm g53.2 g53.1) (by decide) 1016 rfl ?_
                    refine zz_iload_n (x := 8) rfl zd_7_1_25 ?_
                    refine zz_new (zz_ov [0, 0, 0, 0, 0, 0, 0, 0, 0, 0, 0, 0, 0, 0, 0]) zd_7_1_26 zn_Network_9 zT_1025 rfl (Nat.le_of_ble_eq_true rfl) (Nat.le_of_ble_eq_true rfl) (fun S54 qS54 => ?_)
                    have G_S54 := zz_Gm.nwo G_S51 qS54 (by decide +kernel)
                    have F_S54 := zz_fr.nw F_S51 qS54 (by decide +kernel)
                    refine zz_setn (n1 := 1026) (k1 := 10) (j1 := 147) rfl rfl rfl ?_
                    refine zz_dup rfl zd_7_1_29 ?_
                    refine zz_callN (n1 := 1026) [] zd_7_1_30 zk_Network_15 rfl rfl ⟨Nat.le_of_ble_eq_true rfl, Nat.le_of_ble_eq_true rfl⟩ (Nat.le_of_ble_eq_true rfl) (Nat.le_of_ble_eq_true rfl) (zc_init_4_1_c1025_1026 S54 (zz_Gm.own qS54 (zz_ovG (rs := [((-2147483648), 2147483647), ((-2147483648), 2147483647), ((-2147483648), 2147483647), ((-2147483648), 2147483647), ((-2147483648), 2147483647), ((-2147483648), 2147483647), ((-2147483648), 2147483647), ((-2147483648), 2147483647), (0, 1), ((-2147483648), 2147483647), ((-2147483648), 2147483647), ((-2147483648), 2147483647), ((-2147483648), 2147483647), ((-2147483648), 2147483647), ((-2147483648), 2147483647)]) (fun _ => rfl) rfl (by decide +kernel)))) (fun S55 hP => ?_)
                    obtain ⟨gS55, fS55, o56⟩ := hP
                    have F_S55 := zz_fr.trans F_S54 fS55 (by decide +kernel) zz_nv
                    have G_S55 := zz_Gm.call zX_23 G_S54 fS55 gS55 (by decide +kernel) (by decide +kernel) (by decide +kernel) (by decide +kernel)
                    refine zz_setn (n1 := 1026) (k1 := 10) (j1 := 147) rfl rfl rfl ?_
                    refine zz_aast (kd := 4) 20 zd_7_1_33 zT_1016 rfl (ci := 2) rfl zT_1025 (by decide) (by decide) (by decide) (by decide) (by decide) rfl (fun S57 qS57 => ?_)
                    have G_S57 := zz_Gm.put zX_24 G_S55 qS57 20 20 rfl (by decide) (by decide +kernel)
                    have F_S57 := zz_fr.putc F_S55 qS57 (by decide +kernel)
                    refine zz_iinc [some (.ref 1015), some (zi 9)] zd_7_1_34 rfl rfl ?_
                    refine zz_goto zd_7_1_37 ?_
                    refine zz_iload_n (x := 9) rfl zd_7_1_15 ?_
                    refine zz_bipush (by decide) zd_7_1_16 ?_
                    refine zz_icmp_gt (by omega) (by omega) zd_7_1_18 (fun c58 => ?_) (fun c58 => ?_)
                    · exfalso; omega
                    · refine zz_aload_n (x := 1015) rfl zd_7_1_21 ?_
                      have g59 := G_S57 1015 0 (by decide +kernel) (by decide +kernel)
                      refine zz_getr (kd := 0) (z := 1016) zd_7_1_22 zf_Network_11 zT_1015 rfl (by decide) (Int.le_antisymm g59.2 g59.1) (by decide) 1016 rfl ?_
                      refine zz_iload_n (x := 9) rfl zd_7_1_25 ?_
                      refine zz_new (zz_ov [0, 0, 0, 0, 0, 0, 0, 0, 0, 0, 0, 0, 0, 0, 0]) zd_7_1_26 zn_Network_9 zT_1026 rfl (Nat.le_of_ble_eq_true rfl) (Nat.le_of_ble_eq_true rfl) (fun S60 qS60 => ?_)
                      have G_S60 := zz_Gm.nwo G_S57 qS60 (by decide +kernel)
                      have F_S60 := zz_fr.nw F_S57 qS60 (by decide +kernel)
                      refine zz_setn (n1 := 1027) (k1 := 11) (j1 := 162) rfl rfl rfl ?_
                      refine zz_dup rfl zd_7_1_29 ?_
                      refine zz_callN (n1 := 1027) [] zd_7_1_30 zk_Network_15 rfl rfl ⟨Nat.le_of_ble_eq_true rfl, Nat.le_of_ble_eq_true rfl⟩ (Nat.le_of_ble_eq_true rfl) (Nat.le_of_ble_eq_true rfl) (zc_init_4_1_c1026_1027 S60 (zz_Gm.own qS60 (zz_ovG (rs := [((-2147483648), 2147483647), ((-2147483648), 2147483647), ((-2147483648), 2147483647), ((-2147483648), 2147483647), ((-2147483648), 2147483647), ((-2147483648), 2147483647), ((-2147483648), 2147483647), ((-2147483648), 2147483647), (0, 1), ((-2147483648), 2147483647), ((-2147483648), 2147483647), ((-2147483648), 2147483647), ((-2147483648), 2147483647), ((-2147483648), 2147483647), ((-2147483648), 2147483647)]) (fun _ => rfl) rfl (by decide +kernel)))) (fun S61 hP => ?_)
                      obtain ⟨gS61, fS61, o62⟩ := hP
                      have F_S61 := zz_fr.trans F_S60 fS61 (by decide +kernel) zz_nv
                      have G_S61 := zz_Gm.call zX_24 G_S60 fS61 gS61 (by decide +kernel) (by decide +kernel) (by decide +kernel) (by decide +kernel)
                      refine zz_setn (n1 := 1027) (k1 := 11) (j1 := 162) rfl rfl rfl ?_
                      refine zz_aast (kd := 4) 21 zd_7_1_33 zT_1016 rfl (ci := 2) rfl zT_1026 (by decide) (by decide) (by decide) (by decide) (by decide) rfl (fun S63 qS63 => ?_)
                      have G_S63 := zz_Gm.put zX_25 G_S61 qS63 21 21 rfl (by decide) (by decide +kernel)
                      have F_S63 := zz_fr.putc F_S61 qS63 (by decide +kernel)
                      refine zz_iinc [some (.ref 1015), some (zi 10)] zd_7_1_34 rfl rfl ?_
                      refine zz_goto zd_7_1_37 ?_
                      refine zz_iload_n (x := 10) rfl zd_7_1_15 ?_
                      refine zz_bipush (by decide) zd_7_1_16 ?_
                      refine zz_icmp_gt (by omega) (by omega) zd_7_1_18 (fun c64 => ?_) (fun c64 => ?_)
                      · exfalso; omega
                      · refine zz_aload_n (x := 1015) rfl zd_7_1_21 ?_
                        have g65 := G_S63 1015 0 (by decide +kernel) (by decide +kernel)
                        refine zz_getr (kd := 0) (z := 1016) zd_7_1_22 zf_Network_11 zT_1015 rfl (by decide) (Int.le_antisymm g65.2 g65.1) (by decide) 1016 rfl ?_
                        refine zz_iload_n (x := 10) rfl zd_7_1_25 ?_
                        refine zz_new (zz_ov [0, 0, 0, 0, 0, 0, 0, 0, 0, 0, 0, 0, 0, 0, 0]) zd_7_1_26 zn_Network_9 zT_1027 rfl (Nat.le_of_ble_eq_true rfl) (Nat.le_of_ble_eq_true rfl) (fun S66 qS66 => ?_)
                        have G_S66 := zz_Gm.nwo G_S63 qS66 (by decide +kernel)
                        have F_S66 := zz_fr.nw F_S63 qS66 (by decide +kernel)
                        refine zz_setn (n1 := 1028) (k1 := 12) (j1 := 177) rfl rfl rfl ?_
                        refine zz_dup rfl zd_7_1_29 ?_
                        refine zz_callN (n1 := 1028) [] zd_7_1_30 zk_Network_15 rfl rfl ⟨Nat.le_of_ble_eq_true rfl, Nat.le_of_ble_eq_true rfl⟩ (Nat.le_of_ble_eq_true rfl) (Nat.le_of_ble_eq_true rfl) (zc_init_4_1_c1027_1028 S66 (zz_Gm.own qS66 (zz_ovG (rs := [((-2147483648), 2147483647), ((-2147483648), 2147483647), ((-2147483648), 2147483647), ((-2147483648), 2147483647), ((-2147483648), 2147483647), ((-2147483648), 2147483647), ((-2147483648), 2147483647), ((-2147483648), 2147483647), (0, 1), ((-2147483648), 2147483647), ((-2147483648), 2147483647), ((-2147483648), 2147483647), ((-2147483648), 2147483647), ((-2147483648), 2147483647), ((-2147483648), 2147483647)]) (fun _ => rfl) rfl (by decide +kernel)))) (fun S67 hP => ?_)
                        obtain ⟨gS67, fS67, o68⟩ := hP
                        have F_S67 := zz_fr.trans F_S66 fS67 (by decide +kernel) zz_nv
                        have G_S67 := zz_Gm.call zX_25 G_S66 fS67 gS67 (by decide +kernel) (by decide +kernel) (by decide +kernel) (by decide +kernel)
                        refine zz_setn (n1 := 1028) (k1 := 12) (j1 := 177) rfl rfl rfl ?_
                        refine zz_aast (kd := 4) 22 zd_7_1_33 zT_1016 rfl (ci := 2) rfl zT_1027 (by decide) (by decide) (by decide) (by decide) (by decide) rfl (fun S69 qS69 => ?_)
                        have G_S69 := zz_Gm.put [(1016, 11), (1015, 1)] G_S67 qS69 22 22 rfl (by decide) (by decide +kernel)
                        have F_S69 := zz_fr.putc F_S67 qS69 (by decide +kernel)
                        refine zz_iinc [some (.ref 1015), some (zi 11)] zd_7_1_34 rfl rfl ?_
                        refine zz_goto zd_7_1_37 ?_
                        refine zz_iload_n (x := 11) rfl zd_7_1_15 ?_
                        refine zz_bipush (by decide) zd_7_1_16 ?_
                        refine zz_icmp_gt (by omega) (by omega) zd_7_1_18 (fun c70 => ?_) (fun c70 => ?_)
                        · exfalso; omega
                        · refine zz_aload_n (x := 1015) rfl zd_7_1_21 ?_
                          have g71 := G_S69 1015 0 (by decide +kernel) (by decide +kernel)
                          refine zz_getr (kd := 0) (z := 1016) zd_7_1_22 zf_Network_11 zT_1015 rfl (by decide) (Int.le_antisymm g71.2 g71.1) (by decide) 1016 rfl ?_
                          refine zz_iload_n (x := 11) rfl zd_7_1_25 ?_
                          refine zz_new (zz_ov [0, 0, 0, 0, 0, 0, 0, 0, 0, 0, 0, 0, 0, 0, 0]) zd_7_1_26 zn_Network_9 zT_1028 rfl (Nat.le_of_ble_eq_true rfl) (Nat.le_of_ble_eq_true rfl) (fun S72 qS72 => ?_)
                          have G_S72 := zz_Gm.nwo G_S69 qS72 (by decide +kernel)
                          have F_S72 := zz_fr.nw F_S69 qS72 (by decide +kernel)
                          refine zz_setn (n1 := 1029) (k1 := 13) (j1 := 192) rfl rfl rfl ?_
                          refine zz_dup rfl zd_7_1_29 ?_
                          refine zz_callN (n1 := 1029) [] zd_7_1_30 zk_Network_15 rfl rfl ⟨Nat.le_of_ble_eq_true rfl, Nat.le_of_ble_eq_true rfl⟩ (Nat.le_of_ble_eq_true rfl) (Nat.le_of_ble_eq_true rfl) (zc_init_4_1_c1028_1029 S72 (zz_Gm.own qS72 (zz_ovG (rs := [((-2147483648), 2147483647), ((-2147483648), 2147483647), ((-2147483648), 2147483647), ((-2147483648), 2147483647), ((-2147483648), 2147483647), ((-2147483648), 2147483647), ((-2147483648), 2147483647), ((-2147483648), 2147483647), (0, 1), ((-2147483648), 2147483647), ((-2147483648), 2147483647), ((-2147483648), 2147483647), ((-2147483648), 2147483647), ((-2147483648), 2147483647), ((-2147483648), 2147483647)]) (fun _ => rfl) rfl (by decide +kernel)))) (fun S73 hP => ?_)
                          obtain ⟨gS73, fS73, o74⟩ := hP
                          have F_S73 := zz_fr.trans F_S72 fS73 (by decide +kernel) zz_nv
                          have G_S73 := zz_Gm.call [(1016, 11), (1015, 1)] G_S72 fS73 gS73 (by decide +kernel) (by decide +kernel) (by decide +kernel) (by decide +kernel)
                          refine zz_setn (n1 := 1029) (k1 := 13) (j1 := 192) rfl rfl rfl ?_
                          refine zz_aast (kd := 4) 23 zd_7_1_33 zT_1016 rfl (ci := 2) rfl zT_1028 (by decide) (by decide) (by decide) (by decide) (by decide) rfl (fun S75 qS75 => ?_)
                          have G_S75 := zz_Gm.put [(1015, 1)] G_S73 qS75 23 23 rfl (by decide) (by decide +kernel)
                          have F_S75 := zz_fr.putc F_S73 qS75 (by decide +kernel)
                          refine zz_iinc [some (.ref 1015), some (zi 12)] zd_7_1_34 rfl rfl ?_
                          refine zz_goto zd_7_1_37 ?_
                          refine zz_iload_n (x := 12) rfl zd_7_1_15 ?_
                          refine zz_bipush (by decide) zd_7_1_16 ?_
                          refine zz_icmp_gt (by omega) (by omega) zd_7_1_18 (fun c76 => ?_) (fun c76 => ?_)
                          · refine zz_aload_n (x := 1015) rfl zd_7_1_40 ?_
                            refine zz_iconst zd_7_1_41 ?_
                            refine zz_puti zd_7_1_42 zf_Network_16 zT_1015 rfl (by decide) (fun S77 qS77 => ?_)
                            have G_S77 := zz_Gm.put [] G_S75 qS77 1 11 rfl (by decide) (by decide +kernel)
                            have F_S77 := zz_fr.putc F_S75 qS77 (by decide +kernel)
                            have e78 : S77 1015 1 = 1 := (zz_rs qS77)
                            have g79 := trivial
                            have e80 : S77 1017 0 = S7 1017 0 := (zz_ro qS77 (fun h => absurd h.1 (by decide)) (zz_ro qS75 (fun h => absurd h.1 (by decide)) (zz_rc fS73 rfl rfl (fun h => h) (zz_nwo qS72 (by decide) (zz_ro qS69 (fun h => absurd h.1 (by decide)) (zz_rc fS67 rfl rfl (fun h => h) (zz_nwo qS66 (by decide) (zz_ro qS63 (fun h => absurd h.1 (by decide)) (zz_rc fS61 rfl rfl (fun h => h) (zz_nwo qS60 (by decide) (zz_ro qS57 (fun h => absurd h.1 (by decide)) (zz_rc fS55 rfl rfl (fun h => h) (zz_nwo qS54 (by decide) (zz_ro qS51 (fun h => absurd h.1 (by decide)) (zz_rc fS49 rfl rfl (fun h => h) (zz_nwo qS48 (by decide) (zz_ro qS45 (fun h => absurd h.1 (by decide)) (zz_rc fS43 rfl rfl (fun h => h) (zz_nwo qS42 (by decide) (zz_ro qS39 (fun h => absurd h.1 (by decide)) (zz_rc fS37 rfl rfl (fun h => h) (zz_nwo qS36 (by decide) (zz_ro qS33 (fun h => absurd h.1 (by decide)) (zz_rc fS31 rfl rfl (fun h => h) (zz_nwo qS30 (by decide) (zz_ro qS27 (fun h => absurd h.1 (by decide)) (zz_rc fS25 rfl rfl (fun h => h) (zz_nwo qS24 (by decide) (zz_ro qS21 (fun h => absurd h.1 (by decide)) (zz_rc fS19 rfl rfl (fun h => h) (zz_nwo qS18 (by decide) (zz_ro qS15 (fun h => absurd h.1 (by decide)) (zz_rc fS13 rfl rfl (fun h => h) (zz_nwo qS12 (by decide) (zz_ro qS9 (fun h => absurd h.1 (by decide)) rfl)))))))))))))))))))))))))))))))))))
                            have g81 := trivial
                            have e82 : S77 1017 12 = S7 1017 12 := (zz_ro qS77 (fun h => absurd h.1 (by decide)) (zz_ro qS75 (fun h => absurd h.1 (by decide)) (zz_rc fS73 rfl rfl (fun h => h) (zz_nwo qS72 (by decide) (zz_ro qS69 (fun h => absurd h.1 (by decide)) (zz_rc fS67 rfl rfl (fun h => h) (zz_nwo qS66 (by decide) (zz_ro qS63 (fun h => absurd h.1 (by decide)) (zz_rc fS61 rfl rfl (fun h => h) (zz_nwo qS60 (by decide) (zz_ro qS57 (fun h => absurd h.1 (by decide)) (zz_rc fS55 rfl rfl (fun h => h) (zz_nwo qS54 (by decide) (zz_ro qS51 (fun h => absurd h.1 (by decide)) (zz_rc fS49 rfl rfl (fun h => h) (zz_nwo qS48 (by decide) (zz_ro qS45 (fun h => absurd h.1 (by decide)) (zz_rc fS43 rfl rfl (fun h => h) (zz_nwo qS42 (by decide) (zz_ro qS39 (fun h => absurd h.1 (by decide)) (zz_rc fS37 rfl rfl (fun h => h) (zz_nwo qS36 (by decide) (zz_ro qS33 (fun h => absurd h.1 (by decide)) (zz_rc fS31 rfl rfl (fun h => h) (zz_nwo qS30 (by decide) (zz_ro qS27 (fun h => absurd h.1 (by decide)) (zz_rc fS25 rfl rfl (fun h => h) (zz_nwo qS24 (by decide) (zz_ro qS21 (fun h => absurd h.1 (by decide)) (zz_rc fS19 rfl rfl (fun h => h) (zz_nwo qS18 (by decide) (zz_ro qS15 (fun h => absurd h.1 (by decide)) (zz_rc fS13 rfl rfl (fun h => h) (zz_nwo qS12 (by decide) (zz_ro qS9 (fun h => absurd h.1 (by decide)) rfl)))))))))))))))))))))))))))))))))))
                            have g83 := trivial
                            have e84 : S77 1017 3 = S7 1017 3 := (zz_ro qS77 (fun h => absurd h.1 (by decide)) (zz_ro qS75 (fun h => absurd h.1 (by decide)) (zz_rc fS73 rfl rfl (fun h => h) (zz_nwo qS72 (by decide) (zz_ro qS69 (fun h => absurd h.1 (by decide)) (zz_rc fS67 rfl rfl (fun h => h) (zz_nwo qS66 (by decide) (zz_ro qS63 (fun h => absurd h.1 (by decide)) (zz_rc fS61 rfl rfl (fun h => h) (zz_nwo qS60 (by decide) (zz_ro qS57 (fun h => absurd h.1 (by decide)) (zz_rc fS55 rfl rfl (fun h => h) (zz_nwo qS54 (by decide) (zz_ro qS51 (fun h => absurd h.1 (by decide)) (zz_rc fS49 rfl rfl (fun h => h) (zz_nwo qS48 (by decide) (zz_ro qS45 (fun h => absurd h.1 (by decide)) (zz_rc fS43 rfl rfl (fun h => h) (zz_nwo qS42 (by decide) (zz_ro qS39 (fun h => absurd h.1 (by decide)) (zz_rc fS37 rfl rfl (fun h => h) (zz_nwo qS36 (by decide) (zz_ro qS33 (fun h => absurd h.1 (by decide)) (zz_rc fS31 rfl rfl (fun h => h) (zz_nwo qS30 (by decide) (zz_ro qS27 (fun h => absurd h.1 (by decide)) (zz_rc fS25 rfl rfl (fun h => h) (zz_nwo qS24 (by decide) (zz_ro qS21 (fun h => absurd h.1 (by decide)) (zz_rc fS19 rfl rfl (fun h => h) (zz_nwo qS18 (by decide) (zz_ro qS15 (fun h => absurd h.1 (by decide)) (zz_rc fS13 rfl rfl (fun h => h) (zz_nwo qS12 (by decide) (zz_ro qS9 (fun h => absurd h.1 (by decide)) rfl)))))))))))))))))))))))))))))))))))
                            have g85 := trivial
                            have e86 : S77 1017 4 = S7 1017 4 := (zz_ro qS77 (fun h => absurd h.1 (by decide)) (zz_ro qS75 (fun h => absurd h.1 (by decide)) (zz_rc fS73 rfl rfl (fun h => h) (zz_nwo qS72 (by decide) (zz_ro qS69 (fun h => absurd h.1 (by decide)) (zz_rc fS67 rfl rfl (fun h => h) (zz_nwo qS66 (by decide) (zz_ro qS63 (fun h => absurd h.1 (by decide)) (zz_rc fS61 rfl rfl (fun h => h) (zz_nwo qS60 (by decide) (zz_ro qS57 (fun h => absurd h.1 (by decide)) (zz_rc fS55 rfl rfl (fun h => h) (zz_nwo qS54 (by decide) (zz_ro qS51 (fun h => absurd h.1 (by decide)) (zz_rc fS49 rfl rfl (fun h => h) (zz_nwo qS48 (by decide) (zz_ro qS45 (fun h => absurd h.1 (by decide)) (zz_rc fS43 rfl rfl (fun h => h) (zz_nwo qS42 (by decide) (zz_ro qS39 (fun h => absurd h.1 (by decide)) (zz_rc fS37 rfl rfl (fun h => h) (zz_nwo qS36 (by decide) (zz_ro qS33 (fun h => absurd h.1 (by decide)) (zz_rc fS31 rfl rfl (fun h => h) (zz_nwo qS30 (by decide) (zz_ro qS27 (fun h => absurd h.1 (by decide)) (zz_rc fS25 rfl rfl (fun h => h) (zz_nwo qS24 (by decide) (zz_ro qS21 (fun h => absurd h.1 (by decide)) (zz_rc fS19 rfl rfl (fun h => h) (zz_nwo qS18 (by decide) (zz_ro qS15 (fun h => absurd h.1 (by decide)) (zz_rc fS13 rfl rfl (fun h => h) (zz_nwo qS12 (by decide) (zz_ro qS9 (fun h => absurd h.1 (by decide)) rfl)))))))))))))))))))))))))))))))))))
                            exact zz_vret zd_7_1_45 rfl (Nat.le_of_ble_eq_true rfl) (Nat.le_of_ble_eq_true rfl) ⟨_, rfl, G_S77, F_S77, by omega⟩
                          · exfalso; omega
theorem zf_TF_16 : mm_Fl "TensorForge" 16 0 8 (.object "TensorForge$Network") false := ⟨R_TF, F_TF, 12, t_TF, rfl, i_TF, by decide, mm_tb_1 448 (by decide +kernel) rfl, rfl, t_TF_ok, n_TF, rfl, by decide +kernel⟩
def zX_26 : List (Nat × Nat) := [(1000, 0), (1000, 1), (1000, 2), (1000, 3), (1000, 4), (1000, 5), (1000, 6), (1000, 9), (1000, 10)]
theorem zf_TF_19 : mm_Fl "TensorForge" 19 0 9 (.array .long) false := ⟨R_TF, F_TF, 12, t_TF, rfl, i_TF, by decide, mm_tb_1 449 (by decide +kernel) rfl, rfl, t_TF_ok, n_TF, rfl, by decide +kernel⟩
def zX_27 : List (Nat × Nat) := [(1000, 0), (1000, 1), (1000, 2), (1000, 3), (1000, 4), (1000, 5), (1000, 6), (1000, 10)]
theorem zf_TF_23 : mm_Fl "TensorForge" 23 0 10 (.array .long) false := ⟨R_TF, F_TF, 12, t_TF, rfl, i_TF, by decide, mm_tb_1 450 (by decide +kernel) rfl, rfl, t_TF_ok, n_TF, rfl, by decide +kernel⟩
def zX_28 : List (Nat × Nat) := [(1000, 0), (1000, 1), (1000, 2), (1000, 3), (1000, 4), (1000, 5), (1000, 6)]
theorem zf_TF_26 : mm_Fl "TensorForge" 26 0 11 .int false := ⟨R_TF, F_TF, 12, t_TF, rfl, i_TF, by decide, mm_tb_1 451 (by decide +kernel) rfl, rfl, t_TF_ok, n_TF, rfl, by decide +kernel⟩
theorem zn_TF_30 : mm_Nl "TensorForge" 30 3 14 [.null, .null, .null, .null, .null, .null, .int 0, .int 0, .int 0, .int 0, .int 0, .int 0, .int 0, .int 0] := ⟨R_Machine, F_Machine, t_Machine, rfl, i_Machine, t_Machine_ok, mm_tb_1 154 (by decide +kernel) rfl, mm_tb_1 155 (by decide +kernel) rfl, mm_tb_1 4 (by decide +kernel) rfl, fun q hq => by rcases (by omega : q = 0 ∨ q = 1 ∨ q = 2 ∨ q = 3 ∨ q = 4 ∨ q = 5 ∨ q = 6 ∨ q = 7 ∨ q = 8 ∨ q = 9 ∨ q = 10 ∨ q = 11 ∨ q = 12 ∨ q = 13) with rfl | rfl | rfl | rfl | rfl | rfl | rfl | rfl | rfl | rfl | rfl | rfl | rfl | rfl <;> rfl, fun _ => rfl⟩
abbrev zy_init_6_1 : mm_Y := (⟨"TensorForge$Machine", "<init>", "()V"⟩, prog_6_method_1_code, 1, none)
theorem zyw_init_6_1 : mm_Yw zy_init_6_1 0 := ⟨mm_tb_1 158 (by decide +kernel) rfl, mm_tb_1 4 (by decide +kernel) rfl, ⟨by decide, by decide⟩, by decide +kernel⟩
theorem zk_TF_32 : mm_Il "TensorForge" 32 0 zy_init_6_1 := ⟨zyw_init_6_1, mm_tb_1 156 (by decide +kernel) rfl, mm_tb_1 157 (by decide +kernel) rfl, rfl, rfl⟩
theorem zoi_Machine_1 : Cond.methodLink "TensorForge$Machine" 1 Lib.objectInit ∈ mm_tb := mm_tb_1 159 (by decide +kernel) rfl
theorem zs_Machine_7 : Cond.fieldLink "TensorForge$Machine" 7 "TensorForge$Reaches" "SIZES" "[I" ∈ mm_tb := mm_tb_1 160 (by decide +kernel) rfl
theorem zz_sta0 {i : Int} (h : 0 ≤ i ∧ i < 5) : ∃ z : Int, (256 ≤ z ∧ z ≤ 4096) ∧ ([4096, 512, 512, 256, 256] : List Int32).getD i.toNat 0 = Int32.ofInt z := by
  have : i = 0 ∨ i = 1 ∨ i = 2 ∨ i = 3 ∨ i = 4 := by omega
  rcases this with rfl | rfl | rfl | rfl | rfl
  · exact ⟨4096, by decide, by decide⟩
  · exact ⟨512, by decide, by decide⟩
  · exact ⟨512, by decide, by decide⟩
  · exact ⟨256, by decide, by decide⟩
  · exact ⟨256, by decide, by decide⟩
def zX_29 : List (Nat × Nat) := [(1031, 0), (1031, 1), (1031, 2), (1031, 3), (1031, 4), (1031, 5), (1031, 6)]
theorem zf_Machine_13 : mm_Fl "TensorForge$Machine" 13 3 0 (.array .byte) true := ⟨R_Machine, F_Machine, 14, t_Machine, rfl, i_Machine, by decide, mm_tb_1 184 (by decide +kernel) rfl, rfl, t_Machine_ok, n_Machine, rfl, by decide +kernel⟩
def zX_30 : List (Nat × Nat) := [(1031, 1), (1031, 2), (1031, 3), (1031, 4), (1031, 5), (1031, 6)]
theorem zf_Machine_19 : mm_Fl "TensorForge$Machine" 19 3 1 (.array .byte) true := ⟨R_Machine, F_Machine, 14, t_Machine, rfl, i_Machine, by decide, mm_tb_1 186 (by decide +kernel) rfl, rfl, t_Machine_ok, n_Machine, rfl, by decide +kernel⟩
def zX_31 : List (Nat × Nat) := [(1031, 2), (1031, 3), (1031, 4), (1031, 5), (1031, 6)]
theorem zf_Machine_22 : mm_Fl "TensorForge$Machine" 22 3 2 (.array .byte) true := ⟨R_Machine, F_Machine, 14, t_Machine, rfl, i_Machine, by decide, mm_tb_1 187 (by decide +kernel) rfl, rfl, t_Machine_ok, n_Machine, rfl, by decide +kernel⟩
def zX_32 : List (Nat × Nat) := [(1031, 3), (1031, 4), (1031, 5), (1031, 6)]
theorem zf_Machine_25 : mm_Fl "TensorForge$Machine" 25 3 3 (.array .int) true := ⟨R_Machine, F_Machine, 14, t_Machine, rfl, i_Machine, by decide, mm_tb_1 188 (by decide +kernel) rfl, rfl, t_Machine_ok, n_Machine, rfl, by decide +kernel⟩
def zX_33 : List (Nat × Nat) := [(1031, 4), (1031, 5), (1031, 6)]
theorem zf_Machine_28 : mm_Fl "TensorForge$Machine" 28 3 4 (.array .byte) true := ⟨R_Machine, F_Machine, 14, t_Machine, rfl, i_Machine, by decide, mm_tb_1 189 (by decide +kernel) rfl, rfl, t_Machine_ok, n_Machine, rfl, by decide +kernel⟩
theorem zn_Machine_8 : mm_Nl "TensorForge$Machine" 8 4 4 [.null, .null, .null, .null] := ⟨R_Reaches, F_Reaches, t_Reaches, rfl, i_Reaches, t_Reaches_ok, mm_tb_1 162 (by decide +kernel) rfl, mm_tb_1 163 (by decide +kernel) rfl, mm_tb_1 5 (by decide +kernel) rfl, fun q hq => by rcases (by omega : q = 0 ∨ q = 1 ∨ q = 2 ∨ q = 3) with rfl | rfl | rfl | rfl <;> rfl, fun _ => rfl⟩
abbrev zy_init_9_1 : mm_Y := (⟨"TensorForge$Reaches", "<init>", "()V"⟩, prog_9_method_1_code, 1, none)
theorem zyw_init_9_1 : mm_Yw zy_init_9_1 0 := ⟨mm_tb_1 166 (by decide +kernel) rfl, mm_tb_1 5 (by decide +kernel) rfl, ⟨by decide, by decide⟩, by decide +kernel⟩
theorem zk_Machine_31 : mm_Il "TensorForge$Machine" 31 0 zy_init_9_1 := ⟨zyw_init_9_1, mm_tb_1 164 (by decide +kernel) rfl, mm_tb_1 165 (by decide +kernel) rfl, rfl, rfl⟩
theorem zoi_Reaches_3 : Cond.methodLink "TensorForge$Reaches" 3 Lib.objectInit ∈ mm_tb := mm_tb_1 167 (by decide +kernel) rfl
def zX_34 : List (Nat × Nat) := [(1037, 0), (1037, 1), (1037, 2), (1037, 3)]
theorem zf_Reaches_11 : mm_Fl "TensorForge$Reaches" 11 4 0 (.array .int) true := ⟨R_Reaches, F_Reaches, 4, t_Reaches, rfl, i_Reaches, by decide, mm_tb_1 168 (by decide +kernel) rfl, rfl, t_Reaches_ok, n_Reaches, rfl, by decide +kernel⟩
def zX_35 : List (Nat × Nat) := [(1037, 1), (1037, 2), (1037, 3)]
theorem zf_Reaches_15 : mm_Fl "TensorForge$Reaches" 15 4 1 (.array .int) true := ⟨R_Reaches, F_Reaches, 4, t_Reaches, rfl, i_Reaches, by decide, mm_tb_1 169 (by decide +kernel) rfl, rfl, t_Reaches_ok, n_Reaches, rfl, by decide +kernel⟩
theorem zf_Reaches_18 : mm_Fl "TensorForge$Reaches" 18 4 2 (.array .int) true := ⟨R_Reaches, F_Reaches, 4, t_Reaches, rfl, i_Reaches, by decide, mm_tb_1 170 (by decide +kernel) rfl, rfl, t_Reaches_ok, n_Reaches, rfl, by decide +kernel⟩
theorem zf_Reaches_21 : mm_Fl "TensorForge$Reaches" 21 4 3 (.array .int) true := ⟨R_Reaches, F_Reaches, 4, t_Reaches, rfl, i_Reaches, by decide, mm_tb_1 171 (by decide +kernel) rfl, rfl, t_Reaches_ok, n_Reaches, rfl, by decide +kernel⟩
theorem zg_1_1_23 : zq_at zy_init_1_1.2.1 23 181 ∧ zq_at zy_init_1_1.2.1 24 0 ∧ zq_at zy_init_1_1.2.1 25 16 ∧ zq_at zy_init_1_1.2.1 26 42 ∧ zq_at zy_init_1_1.2.1 27 17 ∧ zq_at zy_init_1_1.2.1 28 2 ∧ zq_at zy_init_1_1.2.1 29 88 ∧ zq_at zy_init_1_1.2.1 30 188 ∧ zq_at zy_init_1_1.2.1 31 11 ∧ zq_at zy_init_1_1.2.1 32 181 ∧ zq_at zy_init_1_1.2.1 33 0 ∧ zq_at zy_init_1_1.2.1 34 19 ∧ zq_at zy_init_1_1.2.1 35 42 ∧ zq_at zy_init_1_1.2.1 36 17 ∧ zq_at zy_init_1_1.2.1 37 2 ∧ zq_at zy_init_1_1.2.1 38 88 ∧ zq_at zy_init_1_1.2.1 39 188 ∧ zq_at zy_init_1_1.2.1 40 11 ∧ zq_at zy_init_1_1.2.1 41 181 ∧ zq_at zy_init_1_1.2.1 42 0 ∧ zq_at zy_init_1_1.2.1 43 23 ∧ zq_at zy_init_1_1.2.1 44 42 ∧ zq_at zy_init_1_1.2.1 45 3 := by decide +kernel
theorem zd_1_1_23 : zz_D zy_init_1_1 23 (.putfield 16) 3 26 := ⟨zq_181 zg_1_1_23.1 zg_1_1_23.2.1 zg_1_1_23.2.2.1 rfl, rfl⟩
theorem zd_1_1_26 : zz_D zy_init_1_1 26 (.aload_n 0) 1 27 := ⟨zq_42 zg_1_1_23.2.2.2.1, rfl⟩
theorem zd_1_1_27 : zz_D zy_init_1_1 27 (.sipush 600) 3 30 := ⟨zq_17 zg_1_1_23.2.2.2.2.1 zg_1_1_23.2.2.2.2.2.1 zg_1_1_23.2.2.2.2.2.2.1 (by decide), rfl⟩
theorem zd_1_1_30 : zz_D zy_init_1_1 30 (.newarray .long) 2 32 := ⟨zq_188_11 zg_1_1_23.2.2.2.2.2.2.2.1 zg_1_1_23.2.2.2.2.2.2.2.2.1, rfl⟩
theorem zd_1_1_32 : zz_D zy_init_1_1 32 (.putfield 19) 3 35 := ⟨zq_181 zg_1_1_23.2.2.2.2.2.2.2.2.2.1 zg_1_1_23.2.2.2.2.2.2.2.2.2.2.1 zg_1_1_23.2.2.2.2.2.2.2.2.2.2.2.1 rfl, rfl⟩
theorem zd_1_1_35 : zz_D zy_init_1_1 35 (.aload_n 0) 1 36 := ⟨zq_42 zg_1_1_23.2.2.2.2.2.2.2.2.2.2.2.2.1, rfl⟩
theorem zd_1_1_36 : zz_D zy_init_1_1 36 (.sipush 600) 3 39 := ⟨zq_17 zg_1_1_23.2.2.2.2.2.2.2.2.2.2.2.2.2.1 zg_1_1_23.2.2.2.2.2.2.2.2.2.2.2.2.2.2.1 zg_1_1_23.2.2.2.2.2.2.2.2.2.2.2.2.2.2.2.1 (by decide), rfl⟩
theorem zd_1_1_39 : zz_D zy_init_1_1 39 (.newarray .long) 2 41 := ⟨zq_188_11 zg_1_1_23.2.2.2.2.2.2.2.2.2.2.2.2.2.2.2.2.1 zg_1_1_23.2.2.2.2.2.2.2.2.2.2.2.2.2.2.2.2.2.1, rfl⟩
theorem zd_1_1_41 : zz_D zy_init_1_1 41 (.putfield 23) 3 44 := ⟨zq_181 zg_1_1_23.2.2.2.2.2.2.2.2.2.2.2.2.2.2.2.2.2.2.1 zg_1_1_23.2.2.2.2.2.2.2.2.2.2.2.2.2.2.2.2.2.2.2.1 zg_1_1_23.2.2.2.2.2.2.2.2.2.2.2.2.2.2.2.2.2.2.2.2.1 rfl, rfl⟩
theorem zd_1_1_44 : zz_D zy_init_1_1 44 (.aload_n 0) 1 45 := ⟨zq_42 zg_1_1_23.2.2.2.2.2.2.2.2.2.2.2.2.2.2.2.2.2.2.2.2.2.1, rfl⟩
theorem zd_1_1_45 : zz_D zy_init_1_1 45 (.iconst 0) 1 46 := ⟨zq_3 zg_1_1_23.2.2.2.2.2.2.2.2.2.2.2.2.2.2.2.2.2.2.2.2.2.2, rfl⟩
theorem zg_1_1_46 : zq_at zy_init_1_1.2.1 46 181 ∧ zq_at zy_init_1_1.2.1 47 0 ∧ zq_at zy_init_1_1.2.1 48 26 ∧ zq_at zy_init_1_1.2.1 49 42 ∧ zq_at zy_init_1_1.2.1 50 187 ∧ zq_at zy_init_1_1.2.1 51 0 ∧ zq_at zy_init_1_1.2.1 52 30 ∧ zq_at zy_init_1_1.2.1 53 89 ∧ zq_at zy_init_1_1.2.1 54 183 ∧ zq_at zy_init_1_1.2.1 55 0 ∧ zq_at zy_init_1_1.2.1 56 32 := by decide +kernel
theorem zd_1_1_46 : zz_D zy_init_1_1 46 (.putfield 26) 3 49 := ⟨zq_181 zg_1_1_46.1 zg_1_1_46.2.1 zg_1_1_46.2.2.1 rfl, rfl⟩
theorem zd_1_1_49 : zz_D zy_init_1_1 49 (.aload_n 0) 1 50 := ⟨zq_42 zg_1_1_46.2.2.2.1, rfl⟩
theorem zd_1_1_50 : zz_D zy_init_1_1 50 (.new 30) 3 53 := ⟨zq_187 zg_1_1_46.2.2.2.2.1 zg_1_1_46.2.2.2.2.2.1 zg_1_1_46.2.2.2.2.2.2.1 rfl, rfl⟩
theorem zd_1_1_53 : zz_D zy_init_1_1 53 (.dup) 1 54 := ⟨zq_89 zg_1_1_46.2.2.2.2.2.2.2.1, rfl⟩
theorem zd_1_1_54 : zz_D zy_init_1_1 54 (.invokespecial 32) 3 57 := ⟨zq_183 zg_1_1_46.2.2.2.2.2.2.2.2.1 zg_1_1_46.2.2.2.2.2.2.2.2.2.1 zg_1_1_46.2.2.2.2.2.2.2.2.2.2 rfl, rfl⟩
theorem zg_6_1_0 : zq_at zy_init_6_1.2.1 0 42 ∧ zq_at zy_init_6_1.2.1 1 183 ∧ zq_at zy_init_6_1.2.1 2 0 ∧ zq_at zy_init_6_1.2.1 3 1 ∧ zq_at zy_init_6_1.2.1 4 42 ∧ zq_at zy_init_6_1.2.1 5 178 ∧ zq_at zy_init_6_1.2.1 6 0 ∧ zq_at zy_init_6_1.2.1 7 7 ∧ zq_at zy_init_6_1.2.1 8 3 ∧ zq_at zy_init_6_1.2.1 9 46 ∧ zq_at zy_init_6_1.2.1 10 188 ∧ zq_at zy_init_6_1.2.1 11 8 ∧ zq_at zy_init_6_1.2.1 12 181 ∧ zq_at zy_init_6_1.2.1 13 0 ∧ zq_at zy_init_6_1.2.1 14 13 ∧ zq_at zy_init_6_1.2.1 15 42 ∧ zq_at zy_init_6_1.2.1 16 178 ∧ zq_at zy_init_6_1.2.1 17 0 ∧ zq_at zy_init_6_1.2.1 18 7 ∧ zq_at zy_init_6_1.2.1 19 4 ∧ zq_at zy_init_6_1.2.1 20 46 ∧ zq_at zy_init_6_1.2.1 21 188 ∧ zq_at zy_init_6_1.2.1 22 8 := by decide +kernel
theorem zd_6_1_0 : zz_D zy_init_6_1 0 (.aload_n 0) 1 1 := ⟨zq_42 zg_6_1_0.1, rfl⟩
theorem zd_6_1_1 : zz_D zy_init_6_1 1 (.invokespecial 1) 3 4 := ⟨zq_183 zg_6_1_0.2.1 zg_6_1_0.2.2.1 zg_6_1_0.2.2.2.1 rfl, rfl⟩
theorem zd_6_1_4 : zz_D zy_init_6_1 4 (.aload_n 0) 1 5 := ⟨zq_42 zg_6_1_0.2.2.2.2.1, rfl⟩
theorem zd_6_1_5 : zz_D zy_init_6_1 5 (.getstatic 7) 3 8 := ⟨zq_178 zg_6_1_0.2.2.2.2.2.1 zg_6_1_0.2.2.2.2.2.2.1 zg_6_1_0.2.2.2.2.2.2.2.1 rfl, rfl⟩
theorem zd_6_1_8 : zz_D zy_init_6_1 8 (.iconst 0) 1 9 := ⟨zq_3 zg_6_1_0.2.2.2.2.2.2.2.2.1, rfl⟩
theorem zd_6_1_9 : zz_D zy_init_6_1 9 (.iaload) 1 10 := ⟨zq_46 zg_6_1_0.2.2.2.2.2.2.2.2.2.1, rfl⟩
theorem zd_6_1_10 : zz_D zy_init_6_1 10 (.newarray .byte) 2 12 := ⟨zq_188_8 zg_6_1_0.2.2.2.2.2.2.2.2.2.2.1 zg_6_1_0.2.2.2.2.2.2.2.2.2.2.2.1, rfl⟩
theorem zd_6_1_12 : zz_D zy_init_6_1 12 (.putfield 13) 3 15 := ⟨zq_181 zg_6_1_0.2.2.2.2.2.2.2.2.2.2.2.2.1 zg_6_1_0.2.2.2.2.2.2.2.2.2.2.2.2.2.1 zg_6_1_0.2.2.2.2.2.2.2.2.2.2.2.2.2.2.1 rfl, rfl⟩
theorem zd_6_1_15 : zz_D zy_init_6_1 15 (.aload_n 0) 1 16 := ⟨zq_42 zg_6_1_0.2.2.2.2.2.2.2.2.2.2.2.2.2.2.2.1, rfl⟩
theorem zd_6_1_16 : zz_D zy_init_6_1 16 (.getstatic 7) 3 19 := ⟨zq_178 zg_6_1_0.2.2.2.2.2.2.2.2.2.2.2.2.2.2.2.2.1 zg_6_1_0.2.2.2.2.2.2.2.2.2.2.2.2.2.2.2.2.2.1 zg_6_1_0.2.2.2.2.2.2.2.2.2.2.2.2.2.2.2.2.2.2.1 rfl, rfl⟩
theorem zd_6_1_19 : zz_D zy_init_6_1 19 (.iconst 1) 1 20 := ⟨zq_4 zg_6_1_0.2.2.2.2.2.2.2.2.2.2.2.2.2.2.2.2.2.2.2.1, rfl⟩
theorem zd_6_1_20 : zz_D zy_init_6_1 20 (.iaload) 1 21 := ⟨zq_46 zg_6_1_0.2.2.2.2.2.2.2.2.2.2.2.2.2.2.2.2.2.2.2.2.1, rfl⟩
theorem zd_6_1_21 : zz_D zy_init_6_1 21 (.newarray .byte) 2 23 := ⟨zq_188_8 zg_6_1_0.2.2.2.2.2.2.2.2.2.2.2.2.2.2.2.2.2.2.2.2.2.1 zg_6_1_0.2.2.2.2.2.2.2.2.2.2.2.2.2.2.2.2.2.2.2.2.2.2, rfl⟩
theorem zg_6_1_23 : zq_at zy_init_6_1.2.1 23 181 ∧ zq_at zy_init_6_1.2.1 24 0 ∧ zq_at zy_init_6_1.2.1 25 19 ∧ zq_at zy_init_6_1.2.1 26 42 ∧ zq_at zy_init_6_1.2.1 27 178 ∧ zq_at zy_init_6_1.2.1 28 0 ∧ zq_at zy_init_6_1.2.1 29 7 ∧ zq_at zy_init_6_1.2.1 30 5 ∧ zq_at zy_init_6_1.2.1 31 46 ∧ zq_at zy_init_6_1.2.1 32 188 ∧ zq_at zy_init_6_1.2.1 33 8 ∧ zq_at zy_init_6_1.2.1 34 181 ∧ zq_at zy_init_6_1.2.1 35 0 ∧ zq_at zy_init_6_1.2.1 36 22 ∧ zq_at zy_init_6_1.2.1 37 42 ∧ zq_at zy_init_6_1.2.1 38 178 ∧ zq_at zy_init_6_1.2.1 39 0 ∧ zq_at zy_init_6_1.2.1 40 7 ∧ zq_at zy_init_6_1.2.1 41 6 ∧ zq_at zy_init_6_1.2.1 42 46 ∧ zq_at zy_init_6_1.2.1 43 188 ∧ zq_at zy_init_6_1.2.1 44 10 := by decide +kernel
theorem zd_6_1_23 : zz_D zy_init_6_1 23 (.putfield 19) 3 26 := ⟨zq_181 zg_6_1_23.1 zg_6_1_23.2.1 zg_6_1_23.2.2.1 rfl, rfl⟩
theorem zd_6_1_26 : zz_D zy_init_6_1 26 (.aload_n 0) 1 27 := ⟨zq_42 zg_6_1_23.2.2.2.1, rfl⟩
theorem zd_6_1_27 : zz_D zy_init_6_1 27 (.getstatic 7) 3 30 := ⟨zq_178 zg_6_1_23.2.2.2.2.1 zg_6_1_23.2.2.2.2.2.1 zg_6_1_23.2.2.2.2.2.2.1 rfl, rfl⟩
theorem zd_6_1_30 : zz_D zy_init_6_1 30 (.iconst 2) 1 31 := ⟨zq_5 zg_6_1_23.2.2.2.2.2.2.2.1, rfl⟩
theorem zd_6_1_31 : zz_D zy_init_6_1 31 (.iaload) 1 32 := ⟨zq_46 zg_6_1_23.2.2.2.2.2.2.2.2.1, rfl⟩
theorem zd_6_1_32 : zz_D zy_init_6_1 32 (.newarray .byte) 2 34 := ⟨zq_188_8 zg_6_1_23.2.2.2.2.2.2.2.2.2.1 zg_6_1_23.2.2.2.2.2.2.2.2.2.2.1, rfl⟩
theorem zd_6_1_34 : zz_D zy_init_6_1 34 (.putfield 22) 3 37 := ⟨zq_181 zg_6_1_23.2.2.2.2.2.2.2.2.2.2.2.1 zg_6_1_23.2.2.2.2.2.2.2.2.2.2.2.2.1 zg_6_1_23.2.2.2.2.2.2.2.2.2.2.2.2.2.1 rfl, rfl⟩
theorem zd_6_1_37 : zz_D zy_init_6_1 37 (.aload_n 0) 1 38 := ⟨zq_42 zg_6_1_23.2.2.2.2.2.2.2.2.2.2.2.2.2.2.1, rfl⟩
theorem zd_6_1_38 : zz_D zy_init_6_1 38 (.getstatic 7) 3 41 := ⟨zq_178 zg_6_1_23.2.2.2.2.2.2.2.2.2.2.2.2.2.2.2.1 zg_6_1_23.2.2.2.2.2.2.2.2.2.2.2.2.2.2.2.2.1 zg_6_1_23.2.2.2.2.2.2.2.2.2.2.2.2.2.2.2.2.2.1 rfl, rfl⟩
theorem zd_6_1_41 : zz_D zy_init_6_1 41 (.iconst 3) 1 42 := ⟨zq_6 zg_6_1_23.2.2.2.2.2.2.2.2.2.2.2.2.2.2.2.2.2.2.1, rfl⟩
theorem zd_6_1_42 : zz_D zy_init_6_1 42 (.iaload) 1 43 := ⟨zq_46 zg_6_1_23.2.2.2.2.2.2.2.2.2.2.2.2.2.2.2.2.2.2.2.1, rfl⟩
theorem zd_6_1_43 : zz_D zy_init_6_1 43 (.newarray .int) 2 45 := ⟨zq_188_10 zg_6_1_23.2.2.2.2.2.2.2.2.2.2.2.2.2.2.2.2.2.2.2.2.1 zg_6_1_23.2.2.2.2.2.2.2.2.2.2.2.2.2.2.2.2.2.2.2.2.2, rfl⟩
theorem zg_6_1_45 : zq_at zy_init_6_1.2.1 45 181 ∧ zq_at zy_init_6_1.2.1 46 0 ∧ zq_at zy_init_6_1.2.1 47 25 ∧ zq_at zy_init_6_1.2.1 48 42 ∧ zq_at zy_init_6_1.2.1 49 178 ∧ zq_at zy_init_6_1.2.1 50 0 ∧ zq_at zy_init_6_1.2.1 51 7 ∧ zq_at zy_init_6_1.2.1 52 7 ∧ zq_at zy_init_6_1.2.1 53 46 ∧ zq_at zy_init_6_1.2.1 54 188 ∧ zq_at zy_init_6_1.2.1 55 8 ∧ zq_at zy_init_6_1.2.1 56 181 ∧ zq_at zy_init_6_1.2.1 57 0 ∧ zq_at zy_init_6_1.2.1 58 28 ∧ zq_at zy_init_6_1.2.1 59 42 ∧ zq_at zy_init_6_1.2.1 60 187 ∧ zq_at zy_init_6_1.2.1 61 0 ∧ zq_at zy_init_6_1.2.1 62 8 ∧ zq_at zy_init_6_1.2.1 63 89 ∧ zq_at zy_init_6_1.2.1 64 183 ∧ zq_at zy_init_6_1.2.1 65 0 ∧ zq_at zy_init_6_1.2.1 66 31 := by decide +kernel
theorem zd_6_1_45 : zz_D zy_init_6_1 45 (.putfield 25) 3 48 := ⟨zq_181 zg_6_1_45.1 zg_6_1_45.2.1 zg_6_1_45.2.2.1 rfl, rfl⟩
theorem zd_6_1_48 : zz_D zy_init_6_1 48 (.aload_n 0) 1 49 := ⟨zq_42 zg_6_1_45.2.2.2.1, rfl⟩
theorem zd_6_1_49 : zz_D zy_init_6_1 49 (.getstatic 7) 3 52 := ⟨zq_178 zg_6_1_45.2.2.2.2.1 zg_6_1_45.2.2.2.2.2.1 zg_6_1_45.2.2.2.2.2.2.1 rfl, rfl⟩
theorem zd_6_1_52 : zz_D zy_init_6_1 52 (.iconst 4) 1 53 := ⟨zq_7 zg_6_1_45.2.2.2.2.2.2.2.1, rfl⟩
theorem zd_6_1_53 : zz_D zy_init_6_1 53 (.iaload) 1 54 := ⟨zq_46 zg_6_1_45.2.2.2.2.2.2.2.2.1, rfl⟩
theorem zd_6_1_54 : zz_D zy_init_6_1 54 (.newarray .byte) 2 56 := ⟨zq_188_8 zg_6_1_45.2.2.2.2.2.2.2.2.2.1 zg_6_1_45.2.2.2.2.2.2.2.2.2.2.1, rfl⟩
theorem zd_6_1_56 : zz_D zy_init_6_1 56 (.putfield 28) 3 59 := ⟨zq_181 zg_6_1_45.2.2.2.2.2.2.2.2.2.2.2.1 zg_6_1_45.2.2.2.2.2.2.2.2.2.2.2.2.1 zg_6_1_45.2.2.2.2.2.2.2.2.2.2.2.2.2.1 rfl, rfl⟩
theorem zd_6_1_59 : zz_D zy_init_6_1 59 (.aload_n 0) 1 60 := ⟨zq_42 zg_6_1_45.2.2.2.2.2.2.2.2.2.2.2.2.2.2.1, rfl⟩
theorem zd_6_1_60 : zz_D zy_init_6_1 60 (.new 8) 3 63 := ⟨zq_187 zg_6_1_45.2.2.2.2.2.2.2.2.2.2.2.2.2.2.2.1 zg_6_1_45.2.2.2.2.2.2.2.2.2.2.2.2.2.2.2.2.1 zg_6_1_45.2.2.2.2.2.2.2.2.2.2.2.2.2.2.2.2.2.1 rfl, rfl⟩
theorem zd_6_1_63 : zz_D zy_init_6_1 63 (.dup) 1 64 := ⟨zq_89 zg_6_1_45.2.2.2.2.2.2.2.2.2.2.2.2.2.2.2.2.2.2.1, rfl⟩
theorem zd_6_1_64 : zz_D zy_init_6_1 64 (.invokespecial 31) 3 67 := ⟨zq_183 zg_6_1_45.2.2.2.2.2.2.2.2.2.2.2.2.2.2.2.2.2.2.2.1 zg_6_1_45.2.2.2.2.2.2.2.2.2.2.2.2.2.2.2.2.2.2.2.2.1 zg_6_1_45.2.2.2.2.2.2.2.2.2.2.2.2.2.2.2.2.2.2.2.2.2 rfl, rfl⟩
theorem zg_9_1_0 : zq_at zy_init_9_1.2.1 0 42 ∧ zq_at zy_init_9_1.2.1 1 183 ∧ zq_at zy_init_9_1.2.1 2 0 ∧ zq_at zy_init_9_1.2.1 3 3 ∧ zq_at zy_init_9_1.2.1 4 42 ∧ zq_at zy_init_9_1.2.1 5 8 ∧ zq_at zy_init_9_1.2.1 6 188 ∧ zq_at zy_init_9_1.2.1 7 10 ∧ zq_at zy_init_9_1.2.1 8 181 ∧ zq_at zy_init_9_1.2.1 9 0 ∧ zq_at zy_init_9_1.2.1 10 11 ∧ zq_at zy_init_9_1.2.1 11 42 ∧ zq_at zy_init_9_1.2.1 12 8 ∧ zq_at zy_init_9_1.2.1 13 188 ∧ zq_at zy_init_9_1.2.1 14 10 ∧ zq_at zy_init_9_1.2.1 15 181 ∧ zq_at zy_init_9_1.2.1 16 0 ∧ zq_at zy_init_9_1.2.1 17 15 ∧ zq_at zy_init_9_1.2.1 18 42 ∧ zq_at zy_init_9_1.2.1 19 8 ∧ zq_at zy_init_9_1.2.1 20 188 ∧ zq_at zy_init_9_1.2.1 21 10 := by decide +kernel
theorem zd_9_1_0 : zz_D zy_init_9_1 0 (.aload_n 0) 1 1 := ⟨zq_42 zg_9_1_0.1, rfl⟩
theorem zd_9_1_1 : zz_D zy_init_9_1 1 (.invokespecial 3) 3 4 := ⟨zq_183 zg_9_1_0.2.1 zg_9_1_0.2.2.1 zg_9_1_0.2.2.2.1 rfl, rfl⟩
theorem zd_9_1_4 : zz_D zy_init_9_1 4 (.aload_n 0) 1 5 := ⟨zq_42 zg_9_1_0.2.2.2.2.1, rfl⟩
theorem zd_9_1_5 : zz_D zy_init_9_1 5 (.iconst 5) 1 6 := ⟨zq_8 zg_9_1_0.2.2.2.2.2.1, rfl⟩
theorem zd_9_1_6 : zz_D zy_init_9_1 6 (.newarray .int) 2 8 := ⟨zq_188_10 zg_9_1_0.2.2.2.2.2.2.1 zg_9_1_0.2.2.2.2.2.2.2.1, rfl⟩
theorem zd_9_1_8 : zz_D zy_init_9_1 8 (.putfield 11) 3 11 := ⟨zq_181 zg_9_1_0.2.2.2.2.2.2.2.2.1 zg_9_1_0.2.2.2.2.2.2.2.2.2.1 zg_9_1_0.2.2.2.2.2.2.2.2.2.2.1 rfl, rfl⟩
theorem zd_9_1_11 : zz_D zy_init_9_1 11 (.aload_n 0) 1 12 := ⟨zq_42 zg_9_1_0.2.2.2.2.2.2.2.2.2.2.2.1, rfl⟩
theorem zd_9_1_12 : zz_D zy_init_9_1 12 (.iconst 5) 1 13 := ⟨zq_8 zg_9_1_0.2.2.2.2.2.2.2.2.2.2.2.2.1, rfl⟩
theorem zd_9_1_13 : zz_D zy_init_9_1 13 (.newarray .int) 2 15 := ⟨zq_188_10 zg_9_1_0.2.2.2.2.2.2.2.2.2.2.2.2.2.1 zg_9_1_0.2.2.2.2.2.2.2.2.2.2.2.2.2.2.1, rfl⟩
theorem zd_9_1_15 : zz_D zy_init_9_1 15 (.putfield 15) 3 18 := ⟨zq_181 zg_9_1_0.2.2.2.2.2.2.2.2.2.2.2.2.2.2.2.1 zg_9_1_0.2.2.2.2.2.2.2.2.2.2.2.2.2.2.2.2.1 zg_9_1_0.2.2.2.2.2.2.2.2.2.2.2.2.2.2.2.2.2.1 rfl, rfl⟩
theorem zd_9_1_18 : zz_D zy_init_9_1 18 (.aload_n 0) 1 19 := ⟨zq_42 zg_9_1_0.2.2.2.2.2.2.2.2.2.2.2.2.2.2.2.2.2.2.1, rfl⟩
theorem zd_9_1_19 : zz_D zy_init_9_1 19 (.iconst 5) 1 20 := ⟨zq_8 zg_9_1_0.2.2.2.2.2.2.2.2.2.2.2.2.2.2.2.2.2.2.2.1, rfl⟩
theorem zd_9_1_20 : zz_D zy_init_9_1 20 (.newarray .int) 2 22 := ⟨zq_188_10 zg_9_1_0.2.2.2.2.2.2.2.2.2.2.2.2.2.2.2.2.2.2.2.2.1 zg_9_1_0.2.2.2.2.2.2.2.2.2.2.2.2.2.2.2.2.2.2.2.2.2, rfl⟩
theorem zg_9_1_22 : zq_at zy_init_9_1.2.1 22 181 ∧ zq_at zy_init_9_1.2.1 23 0 ∧ zq_at zy_init_9_1.2.1 24 18 ∧ zq_at zy_init_9_1.2.1 25 42 ∧ zq_at zy_init_9_1.2.1 26 8 ∧ zq_at zy_init_9_1.2.1 27 188 ∧ zq_at zy_init_9_1.2.1 28 10 ∧ zq_at zy_init_9_1.2.1 29 181 ∧ zq_at zy_init_9_1.2.1 30 0 ∧ zq_at zy_init_9_1.2.1 31 21 ∧ zq_at zy_init_9_1.2.1 32 177 := by decide +kernel
theorem zd_9_1_22 : zz_D zy_init_9_1 22 (.putfield 18) 3 25 := ⟨zq_181 zg_9_1_22.1 zg_9_1_22.2.1 zg_9_1_22.2.2.1 rfl, rfl⟩
theorem zd_9_1_25 : zz_D zy_init_9_1 25 (.aload_n 0) 1 26 := ⟨zq_42 zg_9_1_22.2.2.2.1, rfl⟩
theorem zd_9_1_26 : zz_D zy_init_9_1 26 (.iconst 5) 1 27 := ⟨zq_8 zg_9_1_22.2.2.2.2.1, rfl⟩
theorem zd_9_1_27 : zz_D zy_init_9_1 27 (.newarray .int) 2 29 := ⟨zq_188_10 zg_9_1_22.2.2.2.2.2.1 zg_9_1_22.2.2.2.2.2.2.1, rfl⟩
theorem zd_9_1_29 : zz_D zy_init_9_1 29 (.putfield 21) 3 32 := ⟨zq_181 zg_9_1_22.2.2.2.2.2.2.2.1 zg_9_1_22.2.2.2.2.2.2.2.2.1 zg_9_1_22.2.2.2.2.2.2.2.2.2.1 rfl, rfl⟩
theorem zd_9_1_32 : zz_D zy_init_9_1 32 (.return_) 1 33 := ⟨zq_177 zg_9_1_22.2.2.2.2.2.2.2.2.2.2, rfl⟩
-- TensorForge$Reaches <init> ()V at 1037, 1038
abbrev zr_init_9_1_c1037_1038 : Room := { frames := 1, cells := 4, slots := 20, locals := 12 }
def zp_init_9_1_c1037_1038 (S0 : zz_S) : zz_S → Prop := fun S => zz_Gm [1041, 1040, 1039, 1038, 1037] [] S ∧ zz_fr [] [1037, 1038, 1039, 1040, 1041] (fun _ _ => False) S0 S
theorem zc_init_9_1_c1037_1038 {g : mm_G} {l : Launch} (S0 : zz_S) (G_S0 : zz_Gm [1037] zX_34 S0) : mm_Met g l zy_init_9_1 zr_init_9_1_c1037_1038 [.ref 1037] (zz_M S0 1038) 1038 (zz_QV 1042 (zp_init_9_1_c1037_1038 S0)) := by
  refine zz_enter (by decide) (Nat.le_of_ble_eq_true rfl) (zz_less (ls1 := [some (.ref 1037)]) ⟨rfl, trivial⟩ ?_)
  have F_S0 : zz_fr [] [1037, 1038, 1039, 1040, 1041] (fun _ _ => False) S0 S0 := zz_fr.refl
  refine zz_aload_n (x := 1037) rfl zd_9_1_0 ?_
  refine zz_objI zd_9_1_1 zoi_Reaches_3 zoi.1 zoi.2 (Nat.le_of_ble_eq_true rfl) (Nat.le_of_ble_eq_true rfl) ?_
  refine zz_aload_n (x := 1037) rfl zd_9_1_4 ?_
  refine zz_iconst zd_9_1_5 ?_
  refine zz_newa (z := 5) (fun _ => 0) zd_9_1_6 zT_1038 rfl (mm_tb_1 183 (by decide +kernel) rfl) rfl (by decide) (by decide) (fun _ => rfl) (fun _ => rfl) (fun _ h => by cases h) (Nat.le_of_ble_eq_true rfl) (Nat.le_of_ble_eq_true rfl) (fun S2 qS2 => ?_)
  have G_S2 := zz_Gm.nwa zX_34 G_S0 qS2 (by decide +kernel) (fun i _ => ⟨(by decide : ((-2147483648) : Int) ≤ 0), (by decide : (0 : Int) ≤ 2147483647)⟩)
  have F_S2 := zz_fr.nw F_S0 qS2 (by decide +kernel)
  refine zz_setn (n1 := 1039) (k1 := 1) (j1 := 5) rfl rfl rfl ?_
  refine zz_putrF (kd := 0) 1038 zd_9_1_8 zf_Reaches_11 zT_1037 rfl (by decide) (by decide) rfl (fun _ => rfl) (fun _ => rfl) rfl (fun q h => by cases h; rfl) (fun S3 qS3 => ?_)
  have G_S3 := zz_Gm.put zX_35 G_S2 qS3 1038 1038 rfl (by decide) (by decide +kernel)
  have F_S3 := zz_fr.putc F_S2 qS3 (by decide +kernel)
  refine zz_aload_n (x := 1037) rfl zd_9_1_11 ?_
  refine zz_iconst zd_9_1_12 ?_
  refine zz_newa (z := 5) (fun _ => 0) zd_9_1_13 zT_1039 rfl (mm_tb_1 183 (by decide +kernel) rfl) rfl (by decide) (by decide) (fun _ => rfl) (fun _ => rfl) (fun _ h => by cases h) (Nat.le_of_ble_eq_true rfl) (Nat.le_of_ble_eq_true rfl) (fun S4 qS4 => ?_)
  have G_S4 := zz_Gm.nwa zX_35 G_S3 qS4 (by decide +kernel) (fun i _ => ⟨(by decide : ((-2147483648) : Int) ≤ 0), (by decide : (0 : Int) ≤ 2147483647)⟩)
  have F_S4 := zz_fr.nw F_S3 qS4 (by decide +kernel)
  refine zz_setn (n1 := 1040) (k1 := 2) (j1 := 10) rfl rfl rfl ?_
  refine zz_putrF (kd := 0) 1039 zd_9_1_15 zf_Reaches_15 zT_1037 rfl (by decide) (by decide) rfl (fun _ => rfl) (fun _ => rfl) rfl (fun q h => by cases h; rfl) (fun S5 qS5 => ?_)
  have G_S5 := zz_Gm.put [(1037, 2), (1037, 3)] G_S4 qS5 1039 1039 rfl (by decide) (by decide +kernel)
  have F_S5 := zz_fr.putc F_S4 qS5 (by decide +kernel)
  refine zz_aload_n (x := 1037) rfl zd_9_1_18 ?_
  refine zz_iconst zd_9_1_19 ?_
  refine zz_newa (z := 5) (fun _ => 0) zd_9_1_20 zT_1040 rfl (mm_tb_1 183 (by decide +kernel) rfl) rfl (by decide) (by decide) (fun _ => rfl) (fun _ => rfl) (fun _ h => by cases h) (Nat.le_of_ble_eq_true rfl) (Nat.le_of_ble_eq_true rfl) (fun S6 qS6 => ?_)
  have G_S6 := zz_Gm.nwa [(1037, 2), (1037, 3)] G_S5 qS6 (by decide +kernel) (fun i _ => ⟨(by decide : ((-2147483648) : Int) ≤ 0), (by decide : (0 : Int) ≤ 2147483647)⟩)
  have F_S6 := zz_fr.nw F_S5 qS6 (by decide +kernel)
  refine zz_setn (n1 := 1041) (k1 := 3) (j1 := 15) rfl rfl rfl ?_
  refine zz_putrF (kd := 0) 1040 zd_9_1_22 zf_Reaches_18 zT_1037 rfl (by decide) (by decide) rfl (fun _ => rfl) (fun _ => rfl) rfl (fun q h => by cases h; rfl) (fun S7 qS7 => ?_)
  have G_S7 := zz_Gm.put [(1037, 3)] G_S6 qS7 1040 1040 rfl (by decide) (by decide +kernel)
  have F_S7 := zz_fr.putc F_S6 qS7 (by decide +kernel)
  refine zz_aload_n (x := 1037) rfl zd_9_1_25 ?_
  refine zz_iconst zd_9_1_26 ?_
  refine zz_newa (z := 5) (fun _ => 0) zd_9_1_27 zT_1041 rfl (mm_tb_1 183 (by decide +kernel) rfl) rfl (by decide) (by decide) (fun _ => rfl) (fun _ => rfl) (fun _ h => by cases h) (Nat.le_of_ble_eq_true rfl) (Nat.le_of_ble_eq_true rfl) (fun S8 qS8 => ?_)
  have G_S8 := zz_Gm.nwa [(1037, 3)] G_S7 qS8 (by decide +kernel) (fun i _ => ⟨(by decide : ((-2147483648) : Int) ≤ 0), (by decide : (0 : Int) ≤ 2147483647)⟩)
  have F_S8 := zz_fr.nw F_S7 qS8 (by decide +kernel)
  refine zz_setn (n1 := 1042) (k1 := 4) (j1 := 20) rfl rfl rfl ?_
  refine zz_putrF (kd := 0) 1041 zd_9_1_29 zf_Reaches_21 zT_1037 rfl (by decide) (by decide) rfl (fun _ => rfl) (fun _ => rfl) rfl (fun q h => by cases h; rfl) (fun S9 qS9 => ?_)
  have G_S9 := zz_Gm.put [] G_S8 qS9 1041 1041 rfl (by decide) (by decide +kernel)
  have F_S9 := zz_fr.putc F_S8 qS9 (by decide +kernel)
  exact zz_vret zd_9_1_32 rfl (Nat.le_of_ble_eq_true rfl) (Nat.le_of_ble_eq_true rfl) ⟨_, rfl, G_S9, F_S9⟩
theorem zf_Machine_32 : mm_Fl "TensorForge$Machine" 32 3 5 (.object "TensorForge$Reaches") true := ⟨R_Machine, F_Machine, 14, t_Machine, rfl, i_Machine, by decide, mm_tb_1 190 (by decide +kernel) rfl, rfl, t_Machine_ok, n_Machine, rfl, by decide +kernel⟩
theorem zf_Machine_36 : mm_Fl "TensorForge$Machine" 36 3 6 .int false := ⟨R_Machine, F_Machine, 14, t_Machine, rfl, i_Machine, by decide, mm_tb_1 191 (by decide +kernel) rfl, rfl, t_Machine_ok, n_Machine, rfl, by decide +kernel⟩
theorem zg_6_1_67 : zq_at zy_init_6_1.2.1 67 181 ∧ zq_at zy_init_6_1.2.1 68 0 ∧ zq_at zy_init_6_1.2.1 69 32 ∧ zq_at zy_init_6_1.2.1 70 42 ∧ zq_at zy_init_6_1.2.1 71 5 ∧ zq_at zy_init_6_1.2.1 72 181 ∧ zq_at zy_init_6_1.2.1 73 0 ∧ zq_at zy_init_6_1.2.1 74 36 ∧ zq_at zy_init_6_1.2.1 75 177 := by decide +kernel
theorem zd_6_1_67 : zz_D zy_init_6_1 67 (.putfield 32) 3 70 := ⟨zq_181 zg_6_1_67.1 zg_6_1_67.2.1 zg_6_1_67.2.2.1 rfl, rfl⟩
theorem zd_6_1_70 : zz_D zy_init_6_1 70 (.aload_n 0) 1 71 := ⟨zq_42 zg_6_1_67.2.2.2.1, rfl⟩
theorem zd_6_1_71 : zz_D zy_init_6_1 71 (.iconst 2) 1 72 := ⟨zq_5 zg_6_1_67.2.2.2.2.1, rfl⟩
theorem zd_6_1_72 : zz_D zy_init_6_1 72 (.putfield 36) 3 75 := ⟨zq_181 zg_6_1_67.2.2.2.2.2.1 zg_6_1_67.2.2.2.2.2.2.1 zg_6_1_67.2.2.2.2.2.2.2.1 rfl, rfl⟩
theorem zd_6_1_75 : zz_D zy_init_6_1 75 (.return_) 1 76 := ⟨zq_177 zg_6_1_67.2.2.2.2.2.2.2.2, rfl⟩
-- TensorForge$Machine <init> ()V at 1031, 1032
abbrev zr_init_6_1_c1031_1032 : Room := { frames := 2, cells := 10, slots := 5656, locals := 26 }
def zp_init_6_1_c1031_1032 (S0 : zz_S) : zz_S → Prop := fun S => zz_Gm [1041, 1040, 1039, 1038, 1037, 1036, 1035, 1034, 1033, 1032, 1031] [] S ∧ zz_fr [] [1031, 1032, 1033, 1034, 1035, 1036, 1037, 1038, 1039, 1040, 1041] (fun _ _ => False) S0 S ∧ (S 1031 6 = 2)
theorem zc_init_6_1_c1031_1032 {g : mm_G} {l : Launch} (S0 : zz_S) (G_S0 : zz_Gm [1031] zX_29 S0) : mm_Met g l zy_init_6_1 zr_init_6_1_c1031_1032 [.ref 1031] (zz_M S0 1032) 1032 (zz_QV 1042 (zp_init_6_1_c1031_1032 S0)) := by
  refine zz_enter (by decide) (Nat.le_of_ble_eq_true rfl) (zz_less (ls1 := [some (.ref 1031)]) ⟨rfl, trivial⟩ ?_)
  have F_S0 : zz_fr [] [1031, 1032, 1033, 1034, 1035, 1036, 1037, 1038, 1039, 1040, 1041] (fun _ _ => False) S0 S0 := zz_fr.refl
  refine zz_aload_n (x := 1031) rfl zd_6_1_0 ?_
  refine zz_objI zd_6_1_1 zoi_Machine_1 zoi.1 zoi.2 (Nat.le_of_ble_eq_true rfl) (Nat.le_of_ble_eq_true rfl) ?_
  refine zz_aload_n (x := 1031) rfl zd_6_1_4 ?_
  refine zz_gets (q0 := 0) zd_6_1_5 rfl (by decide) zs_Machine_7 ?_
  refine zz_iconst zd_6_1_8 ?_
  refine zz_tiald 4096 zd_6_1_9 rfl (by decide) rfl (by decide) (by decide) rfl ?_
  refine zz_newa (z := 4096) (fun _ => 0) zd_6_1_10 zT_1032 rfl (mm_tb_1 182 (by decide +kernel) rfl) rfl (by decide) (by decide) (fun _ => rfl) (fun _ => rfl) (fun _ h => by cases h) (Nat.le_of_ble_eq_true rfl) (Nat.le_of_ble_eq_true rfl) (fun S2 qS2 => ?_)
  have G_S2 := zz_Gm.nwa zX_29 G_S0 qS2 (by decide +kernel) (fun i _ => ⟨(by decide : ((-128) : Int) ≤ 0), (by decide : (0 : Int) ≤ 127)⟩)
  have F_S2 := zz_fr.nw F_S0 qS2 (by decide +kernel)
  refine zz_setn (n1 := 1033) (k1 := 1) (j1 := 4096) rfl rfl rfl ?_
  refine zz_putrF (kd := 0) 1032 zd_6_1_12 zf_Machine_13 zT_1031 rfl (by decide) (by decide) rfl (fun _ => rfl) (fun _ => rfl) rfl (fun q h => by cases h; rfl) (fun S3 qS3 => ?_)
  have G_S3 := zz_Gm.put zX_30 G_S2 qS3 1032 1032 rfl (by decide) (by decide +kernel)
  have F_S3 := zz_fr.putc F_S2 qS3 (by decide +kernel)
  refine zz_aload_n (x := 1031) rfl zd_6_1_15 ?_
  refine zz_gets (q0 := 0) zd_6_1_16 rfl (by decide) zs_Machine_7 ?_
  refine zz_iconst zd_6_1_19 ?_
  refine zz_tiald 512 zd_6_1_20 rfl (by decide) rfl (by decide) (by decide) rfl ?_
  refine zz_newa (z := 512) (fun _ => 0) zd_6_1_21 zT_1033 rfl (mm_tb_1 182 (by decide +kernel) rfl) rfl (by decide) (by decide) (fun _ => rfl) (fun _ => rfl) (fun _ h => by cases h) (Nat.le_of_ble_eq_true rfl) (Nat.le_of_ble_eq_true rfl) (fun S4 qS4 => ?_)
  have G_S4 := zz_Gm.nwa zX_30 G_S3 qS4 (by decide +kernel) (fun i _ => ⟨(by decide : ((-128) : Int) ≤ 0), (by decide : (0 : Int) ≤ 127)⟩)
  have F_S4 := zz_fr.nw F_S3 qS4 (by decide +kernel)
  refine zz_setn (n1 := 1034) (k1 := 2) (j1 := 4608) rfl rfl rfl ?_
  refine zz_putrF (kd := 0) 1033 zd_6_1_23 zf_Machine_19 zT_1031 rfl (by decide) (by decide) rfl (fun _ => rfl) (fun _ => rfl) rfl (fun q h => by cases h; rfl) (fun S5 qS5 => ?_)
  have G_S5 := zz_Gm.put zX_31 G_S4 qS5 1033 1033 rfl (by decide) (by decide +kernel)
  have F_S5 := zz_fr.putc F_S4 qS5 (by decide +kernel)
  refine zz_aload_n (x := 1031) rfl zd_6_1_26 ?_
  refine zz_gets (q0 := 0) zd_6_1_27 rfl (by decide) zs_Machine_7 ?_
  refine zz_iconst zd_6_1_30 ?_
  refine zz_tiald 512 zd_6_1_31 rfl (by decide) rfl (by decide) (by decide) rfl ?_
  refine zz_newa (z := 512) (fun _ => 0) zd_6_1_32 zT_1034 rfl (mm_tb_1 182 (by decide +kernel) rfl) rfl (by decide) (by decide) (fun _ => rfl) (fun _ => rfl) (fun _ h => by cases h) (Nat.le_of_ble_eq_true rfl) (Nat.le_of_ble_eq_true rfl) (fun S6 qS6 => ?_)
  have G_S6 := zz_Gm.nwa zX_31 G_S5 qS6 (by decide +kernel) (fun i _ => ⟨(by decide : ((-128) : Int) ≤ 0), (by decide : (0 : Int) ≤ 127)⟩)
  have F_S6 := zz_fr.nw F_S5 qS6 (by decide +kernel)
  refine zz_setn (n1 := 1035) (k1 := 3) (j1 := 5120) rfl rfl rfl ?_
  refine zz_putrF (kd := 0) 1034 zd_6_1_34 zf_Machine_22 zT_1031 rfl (by decide) (by decide) rfl (fun _ => rfl) (fun _ => rfl) rfl (fun q h => by cases h; rfl) (fun S7 qS7 => ?_)
  have G_S7 := zz_Gm.put zX_32 G_S6 qS7 1034 1034 rfl (by decide) (by decide +kernel)
  have F_S7 := zz_fr.putc F_S6 qS7 (by decide +kernel)
  refine zz_aload_n (x := 1031) rfl zd_6_1_37 ?_
  refine zz_gets (q0 := 0) zd_6_1_38 rfl (by decide) zs_Machine_7 ?_
  refine zz_iconst zd_6_1_41 ?_
  refine zz_tiald 256 zd_6_1_42 rfl (by decide) rfl (by decide) (by decide) rfl ?_
  refine zz_newa (z := 256) (fun _ => 0) zd_6_1_43 zT_1035 rfl (mm_tb_1 183 (by decide +kernel) rfl) rfl (by decide) (by decide) (fun _ => rfl) (fun _ => rfl) (fun _ h => by cases h) (Nat.le_of_ble_eq_true rfl) (Nat.le_of_ble_eq_true rfl) (fun S8 qS8 => ?_)
  have G_S8 := zz_Gm.nwa zX_32 G_S7 qS8 (by decide +kernel) (fun i _ => ⟨(by decide : ((-2147483648) : Int) ≤ 0), (by decide : (0 : Int) ≤ 2147483647)⟩)
  have F_S8 := zz_fr.nw F_S7 qS8 (by decide +kernel)
  refine zz_setn (n1 := 1036) (k1 := 4) (j1 := 5376) rfl rfl rfl ?_
  refine zz_putrF (kd := 0) 1035 zd_6_1_45 zf_Machine_25 zT_1031 rfl (by decide) (by decide) rfl (fun _ => rfl) (fun _ => rfl) rfl (fun q h => by cases h; rfl) (fun S9 qS9 => ?_)
  have G_S9 := zz_Gm.put zX_33 G_S8 qS9 1035 1035 rfl (by decide) (by decide +kernel)
  have F_S9 := zz_fr.putc F_S8 qS9 (by decide +kernel)
  refine zz_aload_n (x := 1031) rfl zd_6_1_48 ?_
  refine zz_gets (q0 := 0) zd_6_1_49 rfl (by decide) zs_Machine_7 ?_
  refine zz_iconst zd_6_1_52 ?_
  refine zz_tiald 256 zd_6_1_53 rfl (by decide) rfl (by decide) (by decide) rfl ?_
  refine zz_newa (z := 256) (fun _ => 0) zd_6_1_54 zT_1036 rfl (mm_tb_1 182 (by decide +kernel) rfl) rfl (by decide) (by decide) (fun _ => rfl) (fun _ => rfl) (fun _ h => by cases h) (Nat.le_of_ble_eq_true rfl) (Nat.le_of_ble_eq_true rfl) (fun S10 qS10 => ?_)
  have G_S10 := zz_Gm.nwa zX_33 G_S9 qS10 (by decide +kernel) (fun i _ => ⟨(by decide : ((-128) : Int) ≤ 0), (by decide : (0 : Int) ≤ 127)⟩)
  have F_S10 := zz_fr.nw F_S9 qS10 (by decide +kernel)
  refine zz_setn (n1 := 1037) (k1 := 5) (j1 := 5632) rfl rfl rfl ?_
  refine zz_putrF (kd := 0) 1036 zd_6_1_56 zf_Machine_28 zT_1031 rfl (by decide) (by decide) rfl (fun _ => rfl) (fun _ => rfl) rfl (fun q h => by cases h; rfl) (fun S11 qS11 => ?_)
  have G_S11 := zz_Gm.put [(1031, 5), (1031, 6)] G_S10 qS11 1036 1036 rfl (by decide) (by decide +kernel)
  have F_S11 := zz_fr.putc F_S10 qS11 (by decide +kernel)
  refine zz_aload_n (x := 1031) rfl zd_6_1_59 ?_
  refine zz_new (zz_ov [(-1), (-1), (-1), (-1)]) zd_6_1_60 zn_Machine_8 zT_1037 rfl (Nat.le_of_ble_eq_true rfl) (Nat.le_of_ble_eq_true rfl) (fun S12 qS12 => ?_)
  have G_S12 := zz_Gm.nwo G_S11 qS12 (by decide +kernel)
  have F_S12 := zz_fr.nw F_S11 qS12 (by decide +kernel)
  refine zz_setn (n1 := 1038) (k1 := 6) (j1 := 5636) rfl rfl rfl ?_
  refine zz_dup rfl zd_6_1_63 ?_
  refine zz_callN (n1 := 1042) [] zd_6_1_64 zk_Machine_31 rfl rfl ⟨Nat.le_of_ble_eq_true rfl, Nat.le_of_ble_eq_true rfl⟩ (Nat.le_of_ble_eq_true rfl) (Nat.le_of_ble_eq_true rfl) (zc_init_9_1_c1037_1038 S12 (zz_Gm.own qS12 (zz_ovG (rs := [(1038, 1038), (1039, 1039), (1040, 1040), (1041, 1041)]) (fun _ => rfl) rfl (by decide +kernel)))) (fun S13 hP => ?_)
  obtain ⟨gS13, fS13⟩ := hP
  have F_S13 := zz_fr.trans F_S12 fS13 (by decide +kernel) zz_nv
  have G_S13 := zz_Gm.call [(1031, 5), (1031, 6)] G_S12 fS13 gS13 (by decide +kernel) (by decide +kernel) (by decide +kernel) (by decide +kernel)
  refine zz_setn (n1 := 1042) (k1 := 10) (j1 := 5656) rfl rfl rfl ?_
  refine zz_putrF (kd := 3) 4 zd_6_1_67 zf_Machine_32 zT_1031 rfl (by decide) (by decide) rfl (fun _ => rfl) (fun _ => rfl) rfl (fun q h => by cases h; rfl) (fun S14 qS14 => ?_)
  have G_S14 := zz_Gm.put [(1031, 6)] G_S13 qS14 4 4 rfl (by decide) (by decide +kernel)
  have F_S14 := zz_fr.putc F_S13 qS14 (by decide +kernel)
  refine zz_aload_n (x := 1031) rfl zd_6_1_70 ?_
  refine zz_iconst zd_6_1_71 ?_
  refine zz_puti zd_6_1_72 zf_Machine_36 zT_1031 rfl (by decide) (fun S15 qS15 => ?_)
  have G_S15 := zz_Gm.put [] G_S14 qS15 2 8 rfl (by decide) (by decide +kernel)
  have F_S15 := zz_fr.putc F_S14 qS15 (by decide +kernel)
  have e16 : S15 1031 6 = 2 := (zz_rs qS15)
  exact zz_vret zd_6_1_75 rfl (Nat.le_of_ble_eq_true rfl) (Nat.le_of_ble_eq_true rfl) ⟨_, rfl, G_S15, F_S15, by omega⟩
theorem zf_TF_33 : mm_Fl "TensorForge" 33 0 0 (.object "TensorForge$Machine") true := ⟨R_TF, F_TF, 12, t_TF, rfl, i_TF, by decide, mm_tb_1 440 (by decide +kernel) rfl, rfl, t_TF_ok, n_TF, rfl, by decide +kernel⟩
def zX_36 : List (Nat × Nat) := [(1000, 1), (1000, 2), (1000, 3), (1000, 4), (1000, 5), (1000, 6)]
theorem zn_TF_37 : mm_Nl "TensorForge" 37 5 10 [.null, .null, .null, .null, .null, .null, .null, .null, .null, .int 0] := ⟨R_Run, F_Run, t_Run, rfl, i_Run, t_Run_ok, mm_tb_1 230 (by decide +kernel) rfl, mm_tb_1 231 (by decide +kernel) rfl, mm_tb_1 6 (by decide +kernel) rfl, fun q hq => by rcases (by omega : q = 0 ∨ q = 1 ∨ q = 2 ∨ q = 3 ∨ q = 4 ∨ q = 5 ∨ q = 6 ∨ q = 7 ∨ q = 8 ∨ q = 9) with rfl | rfl | rfl | rfl | rfl | rfl | rfl | rfl | rfl | rfl <;> rfl, fun _ => rfl⟩
abbrev zy_init_10_1 : mm_Y := (⟨"TensorForge$Run", "<init>", "(LTensorForge$Machine;)V"⟩, prog_10_method_1_code, 3, none)
theorem zyw_init_10_1 : mm_Yw zy_init_10_1 1 := ⟨mm_tb_1 234 (by decide +kernel) rfl, mm_tb_1 6 (by decide +kernel) rfl, ⟨by decide, by decide⟩, by decide +kernel⟩
theorem zk_TF_39 : mm_Il "TensorForge" 39 1 zy_init_10_1 := ⟨zyw_init_10_1, mm_tb_1 232 (by decide +kernel) rfl, mm_tb_1 233 (by decide +kernel) rfl, rfl, rfl⟩
theorem zoi_Run_3 : Cond.methodLink "TensorForge$Run" 3 Lib.objectInit ∈ mm_tb := mm_tb_1 235 (by decide +kernel) rfl
theorem zf_Run_9 : mm_Fl "TensorForge$Run" 9 5 0 (.object "TensorForge$Machine") true := ⟨R_Run, F_Run, 10, t_Run, rfl, i_Run, by decide, mm_tb_1 239 (by decide +kernel) rfl, rfl, t_Run_ok, n_Run, rfl, by decide +kernel⟩
def zX_37 : List (Nat × Nat) := [(1042, 1), (1042, 2), (1042, 3), (1042, 4), (1042, 5), (1042, 6), (1042, 7), (1042, 8)]
theorem zf_Run_15 : mm_Fl "TensorForge$Run" 15 5 1 (.array .int) true := ⟨R_Run, F_Run, 10, t_Run, rfl, i_Run, by decide, mm_tb_1 240 (by decide +kernel) rfl, rfl, t_Run_ok, n_Run, rfl, by decide +kernel⟩
def zX_38 : List (Nat × Nat) := [(1042, 2), (1042, 3), (1042, 4), (1042, 5), (1042, 6), (1042, 7), (1042, 8)]
theorem zf_Run_19 : mm_Fl "TensorForge$Run" 19 5 2 (.array .long) true := ⟨R_Run, F_Run, 10, t_Run, rfl, i_Run, by decide, mm_tb_1 242 (by decide +kernel) rfl, rfl, t_Run_ok, n_Run, rfl, by decide +kernel⟩
def zX_39 : List (Nat × Nat) := [(1042, 3), (1042, 4), (1042, 5), (1042, 6), (1042, 7), (1042, 8)]
theorem zf_Run_23 : mm_Fl "TensorForge$Run" 23 5 3 (.array .int) true := ⟨R_Run, F_Run, 10, t_Run, rfl, i_Run, by decide, mm_tb_1 244 (by decide +kernel) rfl, rfl, t_Run_ok, n_Run, rfl, by decide +kernel⟩
def zX_40 : List (Nat × Nat) := [(1042, 4), (1042, 5), (1042, 6), (1042, 7), (1042, 8)]
theorem zf_Run_26 : mm_Fl "TensorForge$Run" 26 5 4 (.array .int) true := ⟨R_Run, F_Run, 10, t_Run, rfl, i_Run, by decide, mm_tb_1 246 (by decide +kernel) rfl, rfl, t_Run_ok, n_Run, rfl, by decide +kernel⟩
def zX_41 : List (Nat × Nat) := [(1042, 5), (1042, 6), (1042, 7), (1042, 8)]
theorem zf_Run_29 : mm_Fl "TensorForge$Run" 29 5 5 (.array .int) true := ⟨R_Run, F_Run, 10, t_Run, rfl, i_Run, by decide, mm_tb_1 248 (by decide +kernel) rfl, rfl, t_Run_ok, n_Run, rfl, by decide +kernel⟩
def zX_42 : List (Nat × Nat) := [(1042, 6), (1042, 7), (1042, 8)]
theorem zf_Run_32 : mm_Fl "TensorForge$Run" 32 5 6 (.array .int) true := ⟨R_Run, F_Run, 10, t_Run, rfl, i_Run, by decide, mm_tb_1 249 (by decide +kernel) rfl, rfl, t_Run_ok, n_Run, rfl, by decide +kernel⟩
def zX_43 : List (Nat × Nat) := [(1049, 0), (1049, 1), (1049, 2), (1042, 7), (1042, 8)]
theorem zf_Run_37 : mm_Fl "TensorForge$Run" 37 5 7 (.array (.object "TensorForge$Reaches")) true := ⟨R_Run, F_Run, 10, t_Run, rfl, i_Run, by decide, mm_tb_1 250 (by decide +kernel) rfl, rfl, t_Run_ok, n_Run, rfl, by decide +kernel⟩
def zX_44 : List (Nat × Nat) := [(1049, 0), (1049, 1), (1049, 2), (1042, 8)]
theorem zn_Run_35 : mm_Nl "TensorForge$Run" 35 4 4 [.null, .null, .null, .null] := ⟨R_Reaches, F_Reaches, t_Reaches, rfl, i_Reaches, t_Reaches_ok, mm_tb_1 236 (by decide +kernel) rfl, mm_tb_1 163 (by decide +kernel) rfl, mm_tb_1 5 (by decide +kernel) rfl, fun q hq => by rcases (by omega : q = 0 ∨ q = 1 ∨ q = 2 ∨ q = 3) with rfl | rfl | rfl | rfl <;> rfl, fun _ => rfl⟩
theorem zk_Run_41 : mm_Il "TensorForge$Run" 41 0 zy_init_9_1 := ⟨zyw_init_9_1, mm_tb_1 238 (by decide +kernel) rfl, mm_tb_1 165 (by decide +kernel) rfl, rfl, rfl⟩
def zX_45 : List (Nat × Nat) := [(1050, 0), (1050, 1), (1050, 2), (1050, 3)]
def zX_46 : List (Nat × Nat) := [(1050, 1), (1050, 2), (1050, 3)]
theorem zg_1_1_57 : zq_at zy_init_1_1.2.1 57 181 ∧ zq_at zy_init_1_1.2.1 58 0 ∧ zq_at zy_init_1_1.2.1 59 33 ∧ zq_at zy_init_1_1.2.1 60 42 ∧ zq_at zy_init_1_1.2.1 61 187 ∧ zq_at zy_init_1_1.2.1 62 0 ∧ zq_at zy_init_1_1.2.1 63 37 ∧ zq_at zy_init_1_1.2.1 64 89 ∧ zq_at zy_init_1_1.2.1 65 42 ∧ zq_at zy_init_1_1.2.1 66 180 ∧ zq_at zy_init_1_1.2.1 67 0 ∧ zq_at zy_init_1_1.2.1 68 33 ∧ zq_at zy_init_1_1.2.1 69 183 ∧ zq_at zy_init_1_1.2.1 70 0 ∧ zq_at zy_init_1_1.2.1 71 39 := by decide +kernel
theorem zd_1_1_57 : zz_D zy_init_1_1 57 (.putfield 33) 3 60 := ⟨zq_181 zg_1_1_57.1 zg_1_1_57.2.1 zg_1_1_57.2.2.1 rfl, rfl⟩
theorem zd_1_1_60 : zz_D zy_init_1_1 60 (.aload_n 0) 1 61 := ⟨zq_42 zg_1_1_57.2.2.2.1, rfl⟩
theorem zd_1_1_61 : zz_D zy_init_1_1 61 (.new 37) 3 64 := ⟨zq_187 zg_1_1_57.2.2.2.2.1 zg_1_1_57.2.2.2.2.2.1 zg_1_1_57.2.2.2.2.2.2.1 rfl, rfl⟩
theorem zd_1_1_64 : zz_D zy_init_1_1 64 (.dup) 1 65 := ⟨zq_89 zg_1_1_57.2.2.2.2.2.2.2.1, rfl⟩
theorem zd_1_1_65 : zz_D zy_init_1_1 65 (.aload_n 0) 1 66 := ⟨zq_42 zg_1_1_57.2.2.2.2.2.2.2.2.1, rfl⟩
theorem zd_1_1_66 : zz_D zy_init_1_1 66 (.getfield 33) 3 69 := ⟨zq_180 zg_1_1_57.2.2.2.2.2.2.2.2.2.1 zg_1_1_57.2.2.2.2.2.2.2.2.2.2.1 zg_1_1_57.2.2.2.2.2.2.2.2.2.2.2.1 rfl, rfl⟩
theorem zd_1_1_69 : zz_D zy_init_1_1 69 (.invokespecial 39) 3 72 := ⟨zq_183 zg_1_1_57.2.2.2.2.2.2.2.2.2.2.2.2.1 zg_1_1_57.2.2.2.2.2.2.2.2.2.2.2.2.2.1 zg_1_1_57.2.2.2.2.2.2.2.2.2.2.2.2.2.2 rfl, rfl⟩
theorem zg_10_1_0 : zq_at zy_init_10_1.2.1 0 42 ∧ zq_at zy_init_10_1.2.1 1 183 ∧ zq_at zy_init_10_1.2.1 2 0 ∧ zq_at zy_init_10_1.2.1 3 3 ∧ zq_at zy_init_10_1.2.1 4 42 ∧ zq_at zy_init_10_1.2.1 5 43 ∧ zq_at zy_init_10_1.2.1 6 181 ∧ zq_at zy_init_10_1.2.1 7 0 ∧ zq_at zy_init_10_1.2.1 8 9 ∧ zq_at zy_init_10_1.2.1 9 42 ∧ zq_at zy_init_10_1.2.1 10 16 ∧ zq_at zy_init_10_1.2.1 11 10 ∧ zq_at zy_init_10_1.2.1 12 188 ∧ zq_at zy_init_10_1.2.1 13 10 ∧ zq_at zy_init_10_1.2.1 14 181 ∧ zq_at zy_init_10_1.2.1 15 0 ∧ zq_at zy_init_10_1.2.1 16 15 ∧ zq_at zy_init_10_1.2.1 17 42 ∧ zq_at zy_init_10_1.2.1 18 17 ∧ zq_at zy_init_10_1.2.1 19 2 ∧ zq_at zy_init_10_1.2.1 20 88 ∧ zq_at zy_init_10_1.2.1 21 188 ∧ zq_at zy_init_10_1.2.1 22 11 := by decide +kernel
theorem zd_10_1_0 : zz_D zy_init_10_1 0 (.aload_n 0) 1 1 := ⟨zq_42 zg_10_1_0.1, rfl⟩
theorem zd_10_1_1 : zz_D zy_init_10_1 1 (.invokespecial 3) 3 4 := ⟨zq_183 zg_10_1_0.2.1 zg_10_1_0.2.2.1 zg_10_1_0.2.2.2.1 rfl, rfl⟩
theorem zd_10_1_4 : zz_D zy_init_10_1 4 (.aload_n 0) 1 5 := ⟨zq_42 zg_10_1_0.2.2.2.2.1, rfl⟩
theorem zd_10_1_5 : zz_D zy_init_10_1 5 (.aload_n 1) 1 6 := ⟨zq_43 zg_10_1_0.2.2.2.2.2.1, rfl⟩
theorem zd_10_1_6 : zz_D zy_init_10_1 6 (.putfield 9) 3 9 := ⟨zq_181 zg_10_1_0.2.2.2.2.2.2.1 zg_10_1_0.2.2.2.2.2.2.2.1 zg_10_1_0.2.2.2.2.2.2.2.2.1 rfl, rfl⟩
theorem zd_10_1_9 : zz_D zy_init_10_1 9 (.aload_n 0) 1 10 := ⟨zq_42 zg_10_1_0.2.2.2.2.2.2.2.2.2.1, rfl⟩
theorem zd_10_1_10 : zz_D zy_init_10_1 10 (.bipush 10) 2 12 := ⟨zq_16 zg_10_1_0.2.2.2.2.2.2.2.2.2.2.1 zg_10_1_0.2.2.2.2.2.2.2.2.2.2.2.1 (by decide), rfl⟩
theorem zd_10_1_12 : zz_D zy_init_10_1 12 (.newarray .int) 2 14 := ⟨zq_188_10 zg_10_1_0.2.2.2.2.2.2.2.2.2.2.2.2.1 zg_10_1_0.2.2.2.2.2.2.2.2.2.2.2.2.2.1, rfl⟩
theorem zd_10_1_14 : zz_D zy_init_10_1 14 (.putfield 15) 3 17 := ⟨zq_181 zg_10_1_0.2.2.2.2.2.2.2.2.2.2.2.2.2.2.1 zg_10_1_0.2.2.2.2.2.2.2.2.2.2.2.2.2.2.2.1 zg_10_1_0.2.2.2.2.2.2.2.2.2.2.2.2.2.2.2.2.1 rfl, rfl⟩
theorem zd_10_1_17 : zz_D zy_init_10_1 17 (.aload_n 0) 1 18 := ⟨zq_42 zg_10_1_0.2.2.2.2.2.2.2.2.2.2.2.2.2.2.2.2.2.1, rfl⟩
theorem zd_10_1_18 : zz_D zy_init_10_1 18 (.sipush 600) 3 21 := ⟨zq_17 zg_10_1_0.2.2.2.2.2.2.2.2.2.2.2.2.2.2.2.2.2.2.1 zg_10_1_0.2.2.2.2.2.2.2.2.2.2.2.2.2.2.2.2.2.2.2.1 zg_10_1_0.2.2.2.2.2.2.2.2.2.2.2.2.2.2.2.2.2.2.2.2.1 (by decide), rfl⟩
theorem zd_10_1_21 : zz_D zy_init_10_1 21 (.newarray .long) 2 23 := ⟨zq_188_11 zg_10_1_0.2.2.2.2.2.2.2.2.2.2.2.2.2.2.2.2.2.2.2.2.2.1 zg_10_1_0.2.2.2.2.2.2.2.2.2.2.2.2.2.2.2.2.2.2.2.2.2.2, rfl⟩
theorem zg_10_1_23 : zq_at zy_init_10_1.2.1 23 181 ∧ zq_at zy_init_10_1.2.1 24 0 ∧ zq_at zy_init_10_1.2.1 25 19 ∧ zq_at zy_init_10_1.2.1 26 42 ∧ zq_at zy_init_10_1.2.1 27 17 ∧ zq_at zy_init_10_1.2.1 28 2 ∧ zq_at zy_init_10_1.2.1 29 88 ∧ zq_at zy_init_10_1.2.1 30 188 ∧ zq_at zy_init_10_1.2.1 31 10 ∧ zq_at zy_init_10_1.2.1 32 181 ∧ zq_at zy_init_10_1.2.1 33 0 ∧ zq_at zy_init_10_1.2.1 34 23 ∧ zq_at zy_init_10_1.2.1 35 42 ∧ zq_at zy_init_10_1.2.1 36 17 ∧ zq_at zy_init_10_1.2.1 37 2 ∧ zq_at zy_init_10_1.2.1 38 88 ∧ zq_at zy_init_10_1.2.1 39 188 ∧ zq_at zy_init_10_1.2.1 40 10 ∧ zq_at zy_init_10_1.2.1 41 181 ∧ zq_at zy_init_10_1.2.1 42 0 ∧ zq_at zy_init_10_1.2.1 43 26 ∧ zq_at zy_init_10_1.2.1 44 42 ∧ zq_at zy_init_10_1.2.1 45 6 := by decide +kernel
theorem zd_10_1_23 : zz_D zy_init_10_1 23 (.putfield 19) 3 26 := ⟨zq_181 zg_10_1_23.1 zg_10_1_23.2.1 zg_10_1_23.2.2.1 rfl, rfl⟩
theorem zd_10_1_26 : zz_D zy_init_10_1 26 (.aload_n 0) 1 27 := ⟨zq_42 zg_10_1_23.2.2.2.1, rfl⟩
theorem zd_10_1_27 : zz_D zy_init_10_1 27 (.sipush 600) 3 30 := ⟨zq_17 zg_10_1_23.2.2.2.2.1 zg_10_1_23.2.2.2.2.2.1 zg_10_1_23.2.2.2.2.2.2.1 (by decide), rfl⟩
theorem zd_10_1_30 : zz_D zy_init_10_1 30 (.newarray .int) 2 32 := ⟨zq_188_10 zg_10_1_23.2.2.2.2.2.2.2.1 zg_10_1_23.2.2.2.2.2.2.2.2.1, rfl⟩
theorem zd_10_1_32 : zz_D zy_init_10_1 32 (.putfield 23) 3 35 := ⟨zq_181 zg_10_1_23.2.2.2.2.2.2.2.2.2.1 zg_10_1_23.2.2.2.2.2.2.2.2.2.2.1 zg_10_1_23.2.2.2.2.2.2.2.2.2.2.2.1 rfl, rfl⟩
theorem zd_10_1_35 : zz_D zy_init_10_1 35 (.aload_n 0) 1 36 := ⟨zq_42 zg_10_1_23.2.2.2.2.2.2.2.2.2.2.2.2.1, rfl⟩
theorem zd_10_1_36 : zz_D zy_init_10_1 36 (.sipush 600) 3 39 := ⟨zq_17 zg_10_1_23.2.2.2.2.2.2.2.2.2.2.2.2.2.1 zg_10_1_23.2.2.2.2.2.2.2.2.2.2.2.2.2.2.1 zg_10_1_23.2.2.2.2.2.2.2.2.2.2.2.2.2.2.2.1 (by decide), rfl⟩
theorem zd_10_1_39 : zz_D zy_init_10_1 39 (.newarray .int) 2 41 := ⟨zq_188_10 zg_10_1_23.2.2.2.2.2.2.2.2.2.2.2.2.2.2.2.2.1 zg_10_1_23.2.2.2.2.2.2.2.2.2.2.2.2.2.2.2.2.2.1, rfl⟩
theorem zd_10_1_41 : zz_D zy_init_10_1 41 (.putfield 26) 3 44 := ⟨zq_181 zg_10_1_23.2.2.2.2.2.2.2.2.2.2.2.2.2.2.2.2.2.2.1 zg_10_1_23.2.2.2.2.2.2.2.2.2.2.2.2.2.2.2.2.2.2.2.1 zg_10_1_23.2.2.2.2.2.2.2.2.2.2.2.2.2.2.2.2.2.2.2.2.1 rfl, rfl⟩
theorem zd_10_1_44 : zz_D zy_init_10_1 44 (.aload_n 0) 1 45 := ⟨zq_42 zg_10_1_23.2.2.2.2.2.2.2.2.2.2.2.2.2.2.2.2.2.2.2.2.2.1, rfl⟩
theorem zd_10_1_45 : zz_D zy_init_10_1 45 (.iconst 3) 1 46 := ⟨zq_6 zg_10_1_23.2.2.2.2.2.2.2.2.2.2.2.2.2.2.2.2.2.2.2.2.2.2, rfl⟩
theorem zg_10_1_46 : zq_at zy_init_10_1.2.1 46 188 ∧ zq_at zy_init_10_1.2.1 47 10 ∧ zq_at zy_init_10_1.2.1 48 181 ∧ zq_at zy_init_10_1.2.1 49 0 ∧ zq_at zy_init_10_1.2.1 50 29 ∧ zq_at zy_init_10_1.2.1 51 42 ∧ zq_at zy_init_10_1.2.1 52 6 ∧ zq_at zy_init_10_1.2.1 53 188 ∧ zq_at zy_init_10_1.2.1 54 10 ∧ zq_at zy_init_10_1.2.1 55 181 ∧ zq_at zy_init_10_1.2.1 56 0 ∧ zq_at zy_init_10_1.2.1 57 32 ∧ zq_at zy_init_10_1.2.1 58 42 ∧ zq_at zy_init_10_1.2.1 59 6 ∧ zq_at zy_init_10_1.2.1 60 189 ∧ zq_at zy_init_10_1.2.1 61 0 ∧ zq_at zy_init_10_1.2.1 62 35 ∧ zq_at zy_init_10_1.2.1 63 181 ∧ zq_at zy_init_10_1.2.1 64 0 ∧ zq_at zy_init_10_1.2.1 65 37 ∧ zq_at zy_init_10_1.2.1 66 3 ∧ zq_at zy_init_10_1.2.1 67 61 ∧ zq_at zy_init_10_1.2.1 68 28 ∧ zq_at zy_init_10_1.2.1 69 6 := by decide +kernel
theorem zd_10_1_46 : zz_D zy_init_10_1 46 (.newarray .int) 2 48 := ⟨zq_188_10 zg_10_1_46.1 zg_10_1_46.2.1, rfl⟩
theorem zd_10_1_48 : zz_D zy_init_10_1 48 (.putfield 29) 3 51 := ⟨zq_181 zg_10_1_46.2.2.1 zg_10_1_46.2.2.2.1 zg_10_1_46.2.2.2.2.1 rfl, rfl⟩
theorem zd_10_1_51 : zz_D zy_init_10_1 51 (.aload_n 0) 1 52 := ⟨zq_42 zg_10_1_46.2.2.2.2.2.1, rfl⟩
theorem zd_10_1_52 : zz_D zy_init_10_1 52 (.iconst 3) 1 53 := ⟨zq_6 zg_10_1_46.2.2.2.2.2.2.1, rfl⟩
theorem zd_10_1_53 : zz_D zy_init_10_1 53 (.newarray .int) 2 55 := ⟨zq_188_10 zg_10_1_46.2.2.2.2.2.2.2.1 zg_10_1_46.2.2.2.2.2.2.2.2.1, rfl⟩
theorem zd_10_1_55 : zz_D zy_init_10_1 55 (.putfield 32) 3 58 := ⟨zq_181 zg_10_1_46.2.2.2.2.2.2.2.2.2.1 zg_10_1_46.2.2.2.2.2.2.2.2.2.2.1 zg_10_1_46.2.2.2.2.2.2.2.2.2.2.2.1 rfl, rfl⟩
theorem zd_10_1_58 : zz_D zy_init_10_1 58 (.aload_n 0) 1 59 := ⟨zq_42 zg_10_1_46.2.2.2.2.2.2.2.2.2.2.2.2.1, rfl⟩
theorem zd_10_1_59 : zz_D zy_init_10_1 59 (.iconst 3) 1 60 := ⟨zq_6 zg_10_1_46.2.2.2.2.2.2.2.2.2.2.2.2.2.1, rfl⟩
theorem zd_10_1_60 : zz_D zy_init_10_1 60 (.anewarray 35) 3 63 := ⟨zq_189 zg_10_1_46.2.2.2.2.2.2.2.2.2.2.2.2.2.2.1 zg_10_1_46.2.2.2.2.2.2.2.2.2.2.2.2.2.2.2.1 zg_10_1_46.2.2.2.2.2.2.2.2.2.2.2.2.2.2.2.2.1 rfl, rfl⟩
theorem zd_10_1_63 : zz_D zy_init_10_1 63 (.putfield 37) 3 66 := ⟨zq_181 zg_10_1_46.2.2.2.2.2.2.2.2.2.2.2.2.2.2.2.2.2.1 zg_10_1_46.2.2.2.2.2.2.2.2.2.2.2.2.2.2.2.2.2.2.1 zg_10_1_46.2.2.2.2.2.2.2.2.2.2.2.2.2.2.2.2.2.2.2.1 rfl, rfl⟩
theorem zd_10_1_66 : zz_D zy_init_10_1 66 (.iconst 0) 1 67 := ⟨zq_3 zg_10_1_46.2.2.2.2.2.2.2.2.2.2.2.2.2.2.2.2.2.2.2.2.1, rfl⟩
theorem zd_10_1_67 : zz_D zy_init_10_1 67 (.istore_n 2) 1 68 := ⟨zq_61 zg_10_1_46.2.2.2.2.2.2.2.2.2.2.2.2.2.2.2.2.2.2.2.2.2.1, rfl⟩
theorem zd_10_1_68 : zz_D zy_init_10_1 68 (.iload_n 2) 1 69 := ⟨zq_28 zg_10_1_46.2.2.2.2.2.2.2.2.2.2.2.2.2.2.2.2.2.2.2.2.2.2.1, rfl⟩
theorem zd_10_1_69 : zz_D zy_init_10_1 69 (.iconst 3) 1 70 := ⟨zq_6 zg_10_1_46.2.2.2.2.2.2.2.2.2.2.2.2.2.2.2.2.2.2.2.2.2.2.2, rfl⟩
theorem zg_10_1_70 : zq_at zy_init_10_1.2.1 70 162 ∧ zq_at zy_init_10_1.2.1 71 0 ∧ zq_at zy_init_10_1.2.1 72 22 ∧ zq_at zy_init_10_1.2.1 73 42 ∧ zq_at zy_init_10_1.2.1 74 180 ∧ zq_at zy_init_10_1.2.1 75 0 ∧ zq_at zy_init_10_1.2.1 76 37 ∧ zq_at zy_init_10_1.2.1 77 28 ∧ zq_at zy_init_10_1.2.1 78 187 ∧ zq_at zy_init_10_1.2.1 79 0 ∧ zq_at zy_init_10_1.2.1 80 35 ∧ zq_at zy_init_10_1.2.1 81 89 ∧ zq_at zy_init_10_1.2.1 82 183 ∧ zq_at zy_init_10_1.2.1 83 0 ∧ zq_at zy_init_10_1.2.1 84 41 := by decide +kernel
theorem zd_10_1_70 : zz_B zy_init_10_1 70 (Instr.if_icmp .ge) 92 73 := ⟨22, zq_162 zg_10_1_70.1 zg_10_1_70.2.1 zg_10_1_70.2.2.1 (by decide), rfl, rfl⟩
theorem zd_10_1_73 : zz_D zy_init_10_1 73 (.aload_n 0) 1 74 := ⟨zq_42 zg_10_1_70.2.2.2.1, rfl⟩
theorem zd_10_1_74 : zz_D zy_init_10_1 74 (.getfield 37) 3 77 := ⟨zq_180 zg_10_1_70.2.2.2.2.1 zg_10_1_70.2.2.2.2.2.1 zg_10_1_70.2.2.2.2.2.2.1 rfl, rfl⟩
theorem zd_10_1_77 : zz_D zy_init_10_1 77 (.iload_n 2) 1 78 := ⟨zq_28 zg_10_1_70.2.2.2.2.2.2.2.1, rfl⟩
theorem zd_10_1_78 : zz_D zy_init_10_1 78 (.new 35) 3 81 := ⟨zq_187 zg_10_1_70.2.2.2.2.2.2.2.2.1 zg_10_1_70.2.2.2.2.2.2.2.2.2.1 zg_10_1_70.2.2.2.2.2.2.2.2.2.2.1 rfl, rfl⟩
theorem zd_10_1_81 : zz_D zy_init_10_1 81 (.dup) 1 82 := ⟨zq_89 zg_10_1_70.2.2.2.2.2.2.2.2.2.2.2.1, rfl⟩
theorem zd_10_1_82 : zz_D zy_init_10_1 82 (.invokespecial 41) 3 85 := ⟨zq_183 zg_10_1_70.2.2.2.2.2.2.2.2.2.2.2.2.1 zg_10_1_70.2.2.2.2.2.2.2.2.2.2.2.2.2.1 zg_10_1_70.2.2.2.2.2.2.2.2.2.2.2.2.2.2 rfl, rfl⟩
-- TensorForge$Reaches <init> ()V at 1050, 1051
abbrev zr_init_9_1_c1050_1051 : Room := { frames := 1, cells := 4, slots := 20, locals := 12 }
def zp_init_9_1_c1050_1051 (S0 : zz_S) : zz_S → Prop := fun S => zz_Gm [1054, 1053, 1052, 1051, 1050] [] S ∧ zz_fr [] [1050, 1051, 1052, 1053, 1054] (fun _ _ => False) S0 S
theorem zc_init_9_1_c1050_1051 {g : mm_G} {l : Launch} (S0 : zz_S) (G_S0 : zz_Gm [1050] zX_45 S0) : mm_Met g l zy_init_9_1 zr_init_9_1_c1050_1051 [.ref 1050] (zz_M S0 1051) 1051 (zz_QV 1055 (zp_init_9_1_c1050_1051 S0)) := by
  refine zz_enter (by decide) (Nat.le_of_ble_eq_true rfl) (zz_less (ls1 := [some (.ref 1050)]) ⟨rfl, trivial⟩ ?_)
  have F_S0 : zz_fr [] [1050, 1051, 1052, 1053, 1054] (fun _ _ => False) S0 S0 := zz_fr.refl
  refine zz_aload_n (x := 1050) rfl zd_9_1_0 ?_
  refine zz_objI zd_9_1_1 zoi_Reaches_3 zoi.1 zoi.2 (Nat.le_of_ble_eq_true rfl) (Nat.le_of_ble_eq_true rfl) ?_
  refine zz_aload_n (x := 1050) rfl zd_9_1_4 ?_
  refine zz_iconst zd_9_1_5 ?_
  refine zz_newa (z := 5) (fun _ => 0) zd_9_1_6 zT_1051 rfl (mm_tb_1 183 (by decide +kernel) rfl) rfl (by decide) (by decide) (fun _ => rfl) (fun _ => rfl) (fun _ h => by cases h) (Nat.le_of_ble_eq_true rfl) (Nat.le_of_ble_eq_true rfl) (fun S2 qS2 => ?_)
  have G_S2 := zz_Gm.nwa zX_45 G_S0 qS2 (by decide +kernel) (fun i _ => ⟨(by decide : ((-2147483648) : Int) ≤ 0), (by decide : (0 : Int) ≤ 2147483647)⟩)
  have F_S2 := zz_fr.nw F_S0 qS2 (by decide +kernel)
  refine zz_setn (n1 := 1052) (k1 := 1) (j1 := 5) rfl rfl rfl ?_
  refine zz_putrF (kd := 0) 1051 zd_9_1_8 zf_Reaches_11 zT_1050 rfl (by decide) (by decide) rfl (fun _ => rfl) (fun _ => rfl) rfl (fun q h => by cases h; rfl) (fun S3 qS3 => ?_)
  have G_S3 := zz_Gm.put zX_46 G_S2 qS3 1051 1051 rfl (by decide) (by decide +kernel)
  have F_S3 := zz_fr.putc F_S2 qS3 (by decide +kernel)
  refine zz_aload_n (x := 1050) rfl zd_9_1_11 ?_
  refine zz_iconst zd_9_1_12 ?_
  refine zz_newa (z := 5) (fun _ => 0) zd_9_1_13 zT_1052 rfl (mm_tb_1 183 (by decide +kernel) rfl) rfl (by decide) (by decide) (fun _ => rfl) (fun _ => rfl) (fun _ h => by cases h) (Nat.le_of_ble_eq_true rfl) (Nat.le_of_ble_eq_true rfl) (fun S4 qS4 => ?_)
  have G_S4 := zz_Gm.nwa zX_46 G_S3 qS4 (by decide +kernel) (fun i _ => ⟨(by decide : ((-2147483648) : Int) ≤ 0), (by decide : (0 : Int) ≤ 2147483647)⟩)
  have F_S4 := zz_fr.nw F_S3 qS4 (by decide +kernel)
  refine zz_setn (n1 := 1053) (k1 := 2) (j1 := 10) rfl rfl rfl ?_
  refine zz_putrF (kd := 0) 1052 zd_9_1_15 zf_Reaches_15 zT_1050 rfl (by decide) (by decide) rfl (fun _ => rfl) (fun _ => rfl) rfl (fun q h => by cases h; rfl) (fun S5 qS5 => ?_)
  have G_S5 := zz_Gm.put [(1050, 2), (1050, 3)] G_S4 qS5 1052 1052 rfl (by decide) (by decide +kernel)
  have F_S5 := zz_fr.putc F_S4 qS5 (by decide +kernel)
  refine zz_aload_n (x := 1050) rfl zd_9_1_18 ?_
  refine zz_iconst zd_9_1_19 ?_
  refine zz_newa (z := 5) (fun _ => 0) zd_9_1_20 zT_1053 rfl (mm_tb_1 183 (by decide +kernel) rfl) rfl (by decide) (by decide) (fun _ => rfl) (fun _ => rfl) (fun _ h => by cases h) (Nat.le_of_ble_eq_true rfl) (Nat.le_of_ble_eq_true rfl) (fun S6 qS6 => ?_)
  have G_S6 := zz_Gm.nwa [(1050, 2), (1050, 3)] G_S5 qS6 (by decide +kernel) (fun i _ => ⟨(by decide : ((-2147483648) : Int) ≤ 0), (by decide : (0 : Int) ≤ 2147483647)⟩)
  have F_S6 := zz_fr.nw F_S5 qS6 (by decide +kernel)
  refine zz_setn (n1 := 1054) (k1 := 3) (j1 := 15) rfl rfl rfl ?_
  refine zz_putrF (kd := 0) 1053 zd_9_1_22 zf_Reaches_18 zT_1050 rfl (by decide) (by decide) rfl (fun _ => rfl) (fun _ => rfl) rfl (fun q h => by cases h; rfl) (fun S7 qS7 => ?_)
  have G_S7 := zz_Gm.put [(1050, 3)] G_S6 qS7 1053 1053 rfl (by decide) (by decide +kernel)
  have F_S7 := zz_fr.putc F_S6 qS7 (by decide +kernel)
  refine zz_aload_n (x := 1050) rfl zd_9_1_25 ?_
  refine zz_iconst zd_9_1_26 ?_
  refine zz_newa (z := 5) (fun _ => 0) zd_9_1_27 zT_1054 rfl (mm_tb_1 183 (by decide +kernel) rfl) rfl (by decide) (by decide) (fun _ => rfl) (fun _ => rfl) (fun _ h => by cases h) (Nat.le_of_ble_eq_true rfl) (Nat.le_of_ble_eq_true rfl) (fun S8 qS8 => ?_)
  have G_S8 := zz_Gm.nwa [(1050, 3)] G_S7 qS8 (by decide +kernel) (fun i _ => ⟨(by decide : ((-2147483648) : Int) ≤ 0), (by decide : (0 : Int) ≤ 2147483647)⟩)
  have F_S8 := zz_fr.nw F_S7 qS8 (by decide +kernel)
  refine zz_setn (n1 := 1055) (k1 := 4) (j1 := 20) rfl rfl rfl ?_
  refine zz_putrF (kd := 0) 1054 zd_9_1_29 zf_Reaches_21 zT_1050 rfl (by decide) (by decide) rfl (fun _ => rfl) (fun _ => rfl) rfl (fun q h => by cases h; rfl) (fun S9 qS9 => ?_)
  have G_S9 := zz_Gm.put [] G_S8 qS9 1054 1054 rfl (by decide) (by decide +kernel)
  have F_S9 := zz_fr.putc F_S8 qS9 (by decide +kernel)
  exact zz_vret zd_9_1_32 rfl (Nat.le_of_ble_eq_true rfl) (Nat.le_of_ble_eq_true rfl) ⟨_, rfl, G_S9, F_S9⟩
def zX_47 : List (Nat × Nat) := [(1049, 1), (1049, 2), (1042, 8)]
def zX_48 : List (Nat × Nat) := [(1055, 0), (1055, 1), (1055, 2), (1055, 3)]
def zX_49 : List (Nat × Nat) := [(1055, 1), (1055, 2), (1055, 3)]
theorem zg_10_1_85 : zq_at zy_init_10_1.2.1 85 83 ∧ zq_at zy_init_10_1.2.1 86 132 ∧ zq_at zy_init_10_1.2.1 87 2 ∧ zq_at zy_init_10_1.2.1 88 1 ∧ zq_at zy_init_10_1.2.1 89 167 ∧ zq_at zy_init_10_1.2.1 90 255 ∧ zq_at zy_init_10_1.2.1 91 235 := by decide +kernel
theorem zd_10_1_85 : zz_D zy_init_10_1 85 (.aastore) 1 86 := ⟨zq_83 zg_10_1_85.1, rfl⟩
theorem zd_10_1_86 : zz_D zy_init_10_1 86 (.iinc 2 1) 3 89 := ⟨zq_132 zg_10_1_85.2.1 zg_10_1_85.2.2.1 zg_10_1_85.2.2.2.1 (by decide), rfl⟩
theorem zd_10_1_89 : zz_B zy_init_10_1 89 Instr.goto 68 92 := ⟨(-21), zq_167 zg_10_1_85.2.2.2.2.1 zg_10_1_85.2.2.2.2.2.1 zg_10_1_85.2.2.2.2.2.2 (by decide), rfl, rfl⟩
-- TensorForge$Reaches <init> ()V at 1055, 1056
abbrev zr_init_9_1_c1055_1056 : Room := { frames := 1, cells := 4, slots := 20, locals := 12 }
def zp_init_9_1_c1055_1056 (S0 : zz_S) : zz_S → Prop := fun S => zz_Gm [1059, 1058, 1057, 1056, 1055] [] S ∧ zz_fr [] [1055, 1056, 1057, 1058, 1059] (fun _ _ => False) S0 S
theorem zc_init_9_1_c1055_1056 {g : mm_G} {l : Launch} (S0 : zz_S) (G_S0 : zz_Gm [1055] zX_48 S0) : mm_Met g l zy_init_9_1 zr_init_9_1_c1055_1056 [.ref 1055] (zz_M S0 1056) 1056 (zz_QV 1060 (zp_init_9_1_c1055_1056 S0)) := by
  refine zz_enter (by decide) (Nat.le_of_ble_eq_true rfl) (zz_less (ls1 := [some (.ref 1055)]) ⟨rfl, trivial⟩ ?_)
  have F_S0 : zz_fr [] [1055, 1056, 1057, 1058, 1059] (fun _ _ => False) S0 S0 := zz_fr.refl
  refine zz_aload_n (x := 1055) rfl zd_9_1_0 ?_
  refine zz_objI zd_9_1_1 zoi_Reaches_3 zoi.1 zoi.2 (Nat.le_of_ble_eq_true rfl) (Nat.le_of_ble_eq_true rfl) ?_
  refine zz_aload_n (x := 1055) rfl zd_9_1_4 ?_
  refine zz_iconst zd_9_1_5 ?_
  refine zz_newa (z := 5) (fun _ => 0) zd_9_1_6 zT_1056 rfl (mm_tb_1 183 (by decide +kernel) rfl) rfl (by decide) (by decide) (fun _ => rfl) (fun _ => rfl) (fun _ h => by cases h) (Nat.le_of_ble_eq_true rfl) (Nat.le_of_ble_eq_true rfl) (fun S2 qS2 => ?_)
  have G_S2 := zz_Gm.nwa zX_48 G_S0 qS2 (by decide +kernel) (fun i _ => ⟨(by decide : ((-2147483648) : Int) ≤ 0), (by decide : (0 : Int) ≤ 2147483647)⟩)
  have F_S2 := zz_fr.nw F_S0 qS2 (by decide +kernel)
  refine zz_setn (n1 := 1057) (k1 := 1) (j1 := 5) rfl rfl rfl ?_
  refine zz_putrF (kd := 0) 1056 zd_9_1_8 zf_Reaches_11 zT_1055 rfl (by decide) (by decide) rfl (fun _ => rfl) (fun _ => rfl) rfl (fun q h => by cases h; rfl) (fun S3 qS3 => ?_)
  have G_S3 := zz_Gm.put zX_49 G_S2 qS3 1056 1056 rfl (by decide) (by decide +kernel)
  have F_S3 := zz_fr.putc F_S2 qS3 (by decide +kernel)
  refine zz_aload_n (x := 1055) rfl zd_9_1_11 ?_
  refine zz_iconst zd_9_1_12 ?_
  refine zz_newa (z := 5) (fun _ => 0) zd_9_1_13 zT_1057 rfl (mm_tb_1 183 (by decide +kernel) rfl) rfl (by decide) (by decide) (fun _ => rfl) (fun _ => rfl) (fun _ h => by cases h) (Nat.le_of_ble_eq_true rfl) (Nat.le_of_ble_eq_true rfl) (fun S4 qS4 => ?_)
  have G_S4 := zz_Gm.nwa zX_49 G_S3 qS4 (by decide +kernel) (fun i _ => ⟨(by decide : ((-2147483648) : Int) ≤ 0), (by decide : (0 : Int) ≤ 2147483647)⟩)
  have F_S4 := zz_fr.nw F_S3 qS4 (by decide +kernel)
  refine zz_setn (n1 := 1058) (k1 := 2) (j1 := 10) rfl rfl rfl ?_
  refine zz_putrF (kd := 0) 1057 zd_9_1_15 zf_Reaches_15 zT_1055 rfl (by decide) (by decide) rfl (fun _ => rfl) (fun _ => rfl) rfl (fun q h => by cases h; rfl) (fun S5 qS5 => ?_)
  have G_S5 := zz_Gm.put [(1055, 2), (1055, 3)] G_S4 qS5 1057 1057 rfl (by decide) (by decide +kernel)
  have F_S5 := zz_fr.putc F_S4 qS5 (by decide +kernel)
  refine zz_aload_n (x := 1055) rfl zd_9_1_18 ?_
  refine zz_iconst zd_9_1_19 ?_
  refine zz_newa (z := 5) (fun _ => 0) zd_9_1_20 zT_1058 rfl (mm_tb_1 183 (by decide +kernel) rfl) rfl (by decide) (by decide) (fun _ => rfl) (fun _ => rfl) (fun _ h => by cases h) (Nat.le_of_ble_eq_true rfl) (Nat.le_of_ble_eq_true rfl) (fun S6 qS6 => ?_)
  have G_S6 := zz_Gm.nwa [(1055, 2), (1055, 3)] G_S5 qS6 (by decide +kernel) (fun i _ => ⟨(by decide : ((-2147483648) : Int) ≤ 0), (by decide : (0 : Int) ≤ 2147483647)⟩)
  have F_S6 := zz_fr.nw F_S5 qS6 (by decide +kernel)
  refine zz_setn (n1 := 1059) (k1 := 3) (j1 := 15) rfl rfl rfl ?_
  refine zz_putrF (kd := 0) 1058 zd_9_1_22 zf_Reaches_18 zT_1055 rfl (by decide) (by decide) rfl (fun _ => rfl) (fun _ => rfl) rfl (fun q h => by cases h; rfl) (fun S7 qS7 => ?_)
  have G_S7 := zz_Gm.put [(1055, 3)] G_S6 qS7 1058 1058 rfl (by decide) (by decide +kernel)
  have F_S7 := zz_fr.putc F_S6 qS7 (by decide +kernel)
  refine zz_aload_n (x := 1055) rfl zd_9_1_25 ?_
  refine zz_iconst zd_9_1_26 ?_
  refine zz_newa (z := 5) (fun _ => 0) zd_9_1_27 zT_1059 rfl (mm_tb_1 183 (by decide +kernel) rfl) rfl (by decide) (by decide) (fun _ => rfl) (fun _ => rfl) (fun _ h => by cases h) (Nat.le_of_ble_eq_true rfl) (Nat.le_of_ble_eq_true rfl) (fun S8 qS8 => ?_)
  have G_S8 := zz_Gm.nwa [(1055, 3)] G_S7 qS8 (by decide +kernel) (fun i _ => ⟨(by decide : ((-2147483648) : Int) ≤ 0), (by decide : (0 : Int) ≤ 2147483647)⟩)
  have F_S8 := zz_fr.nw F_S7 qS8 (by decide +kernel)
  refine zz_setn (n1 := 1060) (k1 := 4) (j1 := 20) rfl rfl rfl ?_
  refine zz_putrF (kd := 0) 1059 zd_9_1_29 zf_Reaches_21 zT_1055 rfl (by decide) (by decide) rfl (fun _ => rfl) (fun _ => rfl) rfl (fun q h => by cases h; rfl) (fun S9 qS9 => ?_)
  have G_S9 := zz_Gm.put [] G_S8 qS9 1059 1059 rfl (by decide) (by decide +kernel)
  have F_S9 := zz_fr.putc F_S8 qS9 (by decide +kernel)
  exact zz_vret zd_9_1_32 rfl (Nat.le_of_ble_eq_true rfl) (Nat.le_of_ble_eq_true rfl) ⟨_, rfl, G_S9, F_S9⟩
def zX_50 : List (Nat × Nat) := [(1060, 0), (1060, 1), (1060, 2), (1060, 3)]
def zX_51 : List (Nat × Nat) := [(1060, 1), (1060, 2), (1060, 3)]
-- TensorForge$Reaches <init> ()V at 1060, 1061
abbrev zr_init_9_1_c1060_1061 : Room := { frames := 1, cells := 4, slots := 20, locals := 12 }
def zp_init_9_1_c1060_1061 (S0 : zz_S) : zz_S → Prop := fun S => zz_Gm [1064, 1063, 1062, 1061, 1060] [] S ∧ zz_fr [] [1060, 1061, 1062, 1063, 1064] (fun _ _ => False) S0 S
theorem zc_init_9_1_c1060_1061 {g : mm_G} {l : Launch} (S0 : zz_S) (G_S0 : zz_Gm [1060] zX_50 S0) : mm_Met g l zy_init_9_1 zr_init_9_1_c1060_1061 [.ref 1060] (zz_M S0 1061) 1061 (zz_QV 1065 (zp_init_9_1_c1060_1061 S0)) := by
  refine zz_enter (by decide) (Nat.le_of_ble_eq_true rfl) (zz_less (ls1 := [some (.ref 1060)]) ⟨rfl, trivial⟩ ?_)
  have F_S0 : zz_fr [] [1060, 1061, 1062, 1063, 1064] (fun _ _ => False) S0 S0 := zz_fr.refl
  refine zz_aload_n (x := 1060) rfl zd_9_1_0 ?_
  refine zz_objI zd_9_1_1 zoi_Reaches_3 zoi.1 zoi.2 (Nat.le_of_ble_eq_true rfl) (Nat.le_of_ble_eq_true rfl) ?_
  refine zz_aload_n (x := 1060) rfl zd_9_1_4 ?_
  refine zz_iconst zd_9_1_5 ?_
  refine zz_newa (z := 5) (fun _ => 0) zd_9_1_6 zT_1061 rfl (mm_tb_1 183 (by decide +kernel) rfl) rfl (by decide) (by decide) (fun _ => rfl) (fun _ => rfl) (fun _ h => by cases h) (Nat.le_of_ble_eq_true rfl) (Nat.le_of_ble_eq_true rfl) (fun S2 qS2 => ?_)
  have G_S2 := zz_Gm.nwa zX_50 G_S0 qS2 (by decide +kernel) (fun i _ => ⟨(by decide : ((-2147483648) : Int) ≤ 0), (by decide : (0 : Int) ≤ 2147483647)⟩)
  have F_S2 := zz_fr.nw F_S0 qS2 (by decide +kernel)
  refine zz_setn (n1 := 1062) (k1 := 1) (j1 := 5) rfl rfl rfl ?_
  refine zz_putrF (kd := 0) 1061 zd_9_1_8 zf_Reaches_11 zT_1060 rfl (by decide) (by decide) rfl (fun _ => rfl) (fun _ => rfl) rfl (fun q h => by cases h; rfl) (fun S3 qS3 => ?_)
  have G_S3 := zz_Gm.put zX_51 G_S2 qS3 1061 1061 rfl (by decide) (by decide +kernel)
  have F_S3 := zz_fr.putc F_S2 qS3 (by decide +kernel)
  refine zz_aload_n (x := 1060) rfl zd_9_1_11 ?_
  refine zz_iconst zd_9_1_12 ?_
  refine zz_newa (z := 5) (fun _ => 0) zd_9_1_13 zT_1062 rfl (mm_tb_1 183 (by decide +kernel) rfl) rfl (by decide) (by decide) (fun _ => rfl) (fun _ => rfl) (fun _ h => by cases h) (Nat.le_of_ble_eq_true rfl) (Nat.le_of_ble_eq_true rfl) (fun S4 qS4 => ?_)
  have G_S4 := zz_Gm.nwa zX_51 G_S3 qS4 (by decide +kernel) (fun i _ => ⟨(by decide : ((-2147483648) : Int) ≤ 0), (by decide : (0 : Int) ≤ 2147483647)⟩)
  have F_S4 := zz_fr.nw F_S3 qS4 (by decide +kernel)
  refine zz_setn (n1 := 1063) (k1 := 2) (j1 := 10) rfl rfl rfl ?_
  refine zz_putrF (kd := 0) 1062 zd_9_1_15 zf_Reaches_15 zT_1060 rfl (by decide) (by decide) rfl (fun _ => rfl) (fun _ => rfl) rfl (fun q h => by cases h; rfl) (fun S5 qS5 => ?_)
  have G_S5 := zz_Gm.put [(1060, 2), (1060, 3)] G_S4 qS5 1062 1062 rfl (by decide) (by decide +kernel)
  have F_S5 := zz_fr.putc F_S4 qS5 (by decide +kernel)
  refine zz_aload_n (x := 1060) rfl zd_9_1_18 ?_
  refine zz_iconst zd_9_1_19 ?_
  refine zz_newa (z := 5) (fun _ => 0) zd_9_1_20 zT_1063 rfl (mm_tb_1 183 (by decide +kernel) rfl) rfl (by decide) (by decide) (fun _ => rfl) (fun _ => rfl) (fun _ h => by cases h) (Nat.le_of_ble_eq_true rfl) (Nat.le_of_ble_eq_true rfl) (fun S6 qS6 => ?_)
  have G_S6 := zz_Gm.nwa [(1060, 2), (1060, 3)] G_S5 qS6 (by decide +kernel) (fun i _ => ⟨(by decide : ((-2147483648) : Int) ≤ 0), (by decide : (0 : Int) ≤ 2147483647)⟩)
  have F_S6 := zz_fr.nw F_S5 qS6 (by decide +kernel)
  refine zz_setn (n1 := 1064) (k1 := 3) (j1 := 15) rfl rfl rfl ?_
  refine zz_putrF (kd := 0) 1063 zd_9_1_22 zf_Reaches_18 zT_1060 rfl (by decide) (by decide) rfl (fun _ => rfl) (fun _ => rfl) rfl (fun q h => by cases h; rfl) (fun S7 qS7 => ?_)
  have G_S7 := zz_Gm.put [(1060, 3)] G_S6 qS7 1063 1063 rfl (by decide) (by decide +kernel)
  have F_S7 := zz_fr.putc F_S6 qS7 (by decide +kernel)
  refine zz_aload_n (x := 1060) rfl zd_9_1_25 ?_
  refine zz_iconst zd_9_1_26 ?_
  refine zz_newa (z := 5) (fun _ => 0) zd_9_1_27 zT_1064 rfl (mm_tb_1 183 (by decide +kernel) rfl) rfl (by decide) (by decide) (fun _ => rfl) (fun _ => rfl) (fun _ h => by cases h) (Nat.le_of_ble_eq_true rfl) (Nat.le_of_ble_eq_true rfl) (fun S8 qS8 => ?_)
  have G_S8 := zz_Gm.nwa [(1060, 3)] G_S7 qS8 (by decide +kernel) (fun i _ => ⟨(by decide : ((-2147483648) : Int) ≤ 0), (by decide : (0 : Int) ≤ 2147483647)⟩)
  have F_S8 := zz_fr.nw F_S7 qS8 (by decide +kernel)
  refine zz_setn (n1 := 1065) (k1 := 4) (j1 := 20) rfl rfl rfl ?_
  refine zz_putrF (kd := 0) 1064 zd_9_1_29 zf_Reaches_21 zT_1060 rfl (by decide) (by decide) rfl (fun _ => rfl) (fun _ => rfl) rfl (fun q h => by cases h; rfl) (fun S9 qS9 => ?_)
  have G_S9 := zz_Gm.put [] G_S8 qS9 1064 1064 rfl (by decide) (by decide +kernel)
  have F_S9 := zz_fr.putc F_S8 qS9 (by decide +kernel)
  exact zz_vret zd_9_1_32 rfl (Nat.le_of_ble_eq_true rfl) (Nat.le_of_ble_eq_true rfl) ⟨_, rfl, G_S9, F_S9⟩
def zX_52 : List (Nat × Nat) := [(1065, 0), (1065, 1), (1065, 2), (1065, 3)]
def zX_53 : List (Nat × Nat) := [(1065, 1), (1065, 2), (1065, 3)]
theorem zg_10_1_92 : zq_at zy_init_10_1.2.1 92 42 ∧ zq_at zy_init_10_1.2.1 93 187 ∧ zq_at zy_init_10_1.2.1 94 0 ∧ zq_at zy_init_10_1.2.1 95 35 ∧ zq_at zy_init_10_1.2.1 96 89 ∧ zq_at zy_init_10_1.2.1 97 183 ∧ zq_at zy_init_10_1.2.1 98 0 ∧ zq_at zy_init_10_1.2.1 99 41 := by decide +kernel
theorem zd_10_1_92 : zz_D zy_init_10_1 92 (.aload_n 0) 1 93 := ⟨zq_42 zg_10_1_92.1, rfl⟩
theorem zd_10_1_93 : zz_D zy_init_10_1 93 (.new 35) 3 96 := ⟨zq_187 zg_10_1_92.2.1 zg_10_1_92.2.2.1 zg_10_1_92.2.2.2.1 rfl, rfl⟩
theorem zd_10_1_96 : zz_D zy_init_10_1 96 (.dup) 1 97 := ⟨zq_89 zg_10_1_92.2.2.2.2.1, rfl⟩
theorem zd_10_1_97 : zz_D zy_init_10_1 97 (.invokespecial 41) 3 100 := ⟨zq_183 zg_10_1_92.2.2.2.2.2.1 zg_10_1_92.2.2.2.2.2.2.1 zg_10_1_92.2.2.2.2.2.2.2 rfl, rfl⟩
-- TensorForge$Reaches <init> ()V at 1065, 1066
abbrev zr_init_9_1_c1065_1066 : Room := { frames := 1, cells := 4, slots := 20, locals := 12 }
def zp_init_9_1_c1065_1066 (S0 : zz_S) : zz_S → Prop := fun S => zz_Gm [1069, 1068, 1067, 1066, 1065] [] S ∧ zz_fr [] [1065, 1066, 1067, 1068, 1069] (fun _ _ => False) S0 S
theorem zc_init_9_1_c1065_1066 {g : mm_G} {l : Launch} (S0 : zz_S) (G_S0 : zz_Gm [1065] zX_52 S0) : mm_Met g l zy_init_9_1 zr_init_9_1_c1065_1066 [.ref 1065] (zz_M S0 1066) 1066 (zz_QV 1070 (zp_init_9_1_c1065_1066 S0)) := by
  refine zz_enter (by decide) (Nat.le_of_ble_eq_true rfl) (zz_less (ls1 := [some (.ref 1065)]) ⟨rfl, trivial⟩ ?_)
  have F_S0 : zz_fr [] [1065, 1066, 1067, 1068, 1069] (fun _ _ => False) S0 S0 := zz_fr.refl
  refine zz_aload_n (x := 1065) rfl zd_9_1_0 ?_
  refine zz_objI zd_9_1_1 zoi_Reaches_3 zoi.1 zoi.2 (Nat.le_of_ble_eq_true rfl) (Nat.le_of_ble_eq_true rfl) ?_
  refine zz_aload_n (x := 1065) rfl zd_9_1_4 ?_
  refine zz_iconst zd_9_1_5 ?_
  refine zz_newa (z := 5) (fun _ => 0) zd_9_1_6 zT_1066 rfl (mm_tb_1 183 (by decide +kernel) rfl) rfl (by decide) (by decide) (fun _ => rfl) (fun _ => rfl) (fun _ h => by cases h) (Nat.le_of_ble_eq_true rfl) (Nat.le_of_ble_eq_true rfl) (fun S2 qS2 => ?_)
  have G_S2 := zz_Gm.nwa zX_52 G_S0 qS2 (by decide +kernel) (fun i _ => ⟨(by decide : ((-2147483648) : Int) ≤ 0), (by decide : (0 : Int) ≤ 2147483647)⟩)
  have F_S2 := zz_fr.nw F_S0 qS2 (by decide +kernel)
  refine zz_setn (n1 := 1067) (k1 := 1) (j1 := 5) rfl rfl rfl ?_
  refine zz_putrF (kd := 0) 1066 zd_9_1_8 zf_Reaches_11 zT_1065 rfl (by decide) (by decide) rfl (fun _ => rfl) (fun _ => rfl) rfl (fun q h => by cases h; rfl) (fun S3 qS3 => ?_)
  have G_S3 := zz_Gm.put zX_53 G_S2 qS3 1066 1066 rfl (by decide) (by decide +kernel)
  have F_S3 := zz_fr.putc F_S2 qS3 (by decide +kernel)
  refine zz_aload_n (x := 1065) rfl zd_9_1_11 ?_
  refine zz_iconst zd_9_1_12 ?_
  refine zz_newa (z := 5) (fun _ => 0) zd_9_1_13 zT_1067 rfl (mm_tb_1 183 (by decide +kernel) rfl) rfl (by decide) (by decide) (fun _ => rfl) (fun _ => rfl) (fun _ h => by cases h) (Nat.le_of_ble_eq_true rfl) (Nat.le_of_ble_eq_true rfl) (fun S4 qS4 => ?_)
  have G_S4 := zz_Gm.nwa zX_53 G_S3 qS4 (by decide +kernel) (fun i _ => ⟨(by decide : ((-2147483648) : Int) ≤ 0), (by decide : (0 : Int) ≤ 2147483647)⟩)
  have F_S4 := zz_fr.nw F_S3 qS4 (by decide +kernel)
  refine zz_setn (n1 := 1068) (k1 := 2) (j1 := 10) rfl rfl rfl ?_
  refine zz_putrF (kd := 0) 1067 zd_9_1_15 zf_Reaches_15 zT_1065 rfl (by decide) (by decide) rfl (fun _ => rfl) (fun _ => rfl) rfl (fun q h => by cases h; rfl) (fun S5 qS5 => ?_)
  have G_S5 := zz_Gm.put [(1065, 2), (1065, 3)] G_S4 qS5 1067 1067 rfl (by decide) (by decide +kernel)
  have F_S5 := zz_fr.putc F_S4 qS5 (by decide +kernel)
  refine zz_aload_n (x := 1065) rfl zd_9_1_18 ?_
  refine zz_iconst zd_9_1_19 ?_
  refine zz_newa (z := 5) (fun _ => 0) zd_9_1_20 zT_1068 rfl (mm_tb_1 183 (by decide +kernel) rfl) rfl (by decide) (by decide) (fun _ => rfl) (fun _ => rfl) (fun _ h => by cases h) (Nat.le_of_ble_eq_true rfl) (Nat.le_of_ble_eq_true rfl) (fun S6 qS6 => ?_)
  have G_S6 := zz_Gm.nwa [(1065, 2), (1065, 3)] G_S5 qS6 (by decide +kernel) (fun i _ => ⟨(by decide : ((-2147483648) : Int) ≤ 0), (by decide : (0 : Int) ≤ 2147483647)⟩)
  have F_S6 := zz_fr.nw F_S5 qS6 (by decide +kernel)
  refine zz_setn (n1 := 1069) (k1 := 3) (j1 := 15) rfl rfl rfl ?_
  refine zz_putrF (kd := 0) 1068 zd_9_1_22 zf_Reaches_18 zT_1065 rfl (by decide) (by decide) rfl (fun _ => rfl) (fun _ => rfl) rfl (fun q h => by cases h; rfl) (fun S7 qS7 => ?_)
  have G_S7 := zz_Gm.put [(1065, 3)] G_S6 qS7 1068 1068 rfl (by decide) (by decide +kernel)
  have F_S7 := zz_fr.putc F_S6 qS7 (by decide +kernel)
  refine zz_aload_n (x := 1065) rfl zd_9_1_25 ?_
  refine zz_iconst zd_9_1_26 ?_
  refine zz_newa (z := 5) (fun _ => 0) zd_9_1_27 zT_1069 rfl (mm_tb_1 183 (by decide +kernel) rfl) rfl (by decide) (by decide) (fun _ => rfl) (fun _ => rfl) (fun _ h => by cases h) (Nat.le_of_ble_eq_true rfl) (Nat.le_of_ble_eq_true rfl) (fun S8 qS8 => ?_)
  have G_S8 := zz_Gm.nwa [(1065, 3)] G_S7 qS8 (by decide +kernel) (fun i _ => ⟨(by decide : ((-2147483648) : Int) ≤ 0), (by decide : (0 : Int) ≤ 2147483647)⟩)
  have F_S8 := zz_fr.nw F_S7 qS8 (by decide +kernel)
  refine zz_setn (n1 := 1070) (k1 := 4) (j1 := 20) rfl rfl rfl ?_
  refine zz_putrF (kd := 0) 1069 zd_9_1_29 zf_Reaches_21 zT_1065 rfl (by decide) (by decide) rfl (fun _ => rfl) (fun _ => rfl) rfl (fun q h => by cases h; rfl) (fun S9 qS9 => ?_)
  have G_S9 := zz_Gm.put [] G_S8 qS9 1069 1069 rfl (by decide) (by decide +kernel)
  have F_S9 := zz_fr.putc F_S8 qS9 (by decide +kernel)
  exact zz_vret zd_9_1_32 rfl (Nat.le_of_ble_eq_true rfl) (Nat.le_of_ble_eq_true rfl) ⟨_, rfl, G_S9, F_S9⟩
theorem zf_Run_42 : mm_Fl "TensorForge$Run" 42 5 8 (.object "TensorForge$Reaches") false := ⟨R_Run, F_Run, 10, t_Run, rfl, i_Run, by decide, mm_tb_1 251 (by decide +kernel) rfl, rfl, t_Run_ok, n_Run, rfl, by decide +kernel⟩
theorem zf_Run_46 : mm_Fl "TensorForge$Run" 46 5 9 .int false := ⟨R_Run, F_Run, 10, t_Run, rfl, i_Run, by decide, mm_tb_1 252 (by decide +kernel) rfl, rfl, t_Run_ok, n_Run, rfl, by decide +kernel⟩
theorem zg_10_1_100 : zq_at zy_init_10_1.2.1 100 181 ∧ zq_at zy_init_10_1.2.1 101 0 ∧ zq_at zy_init_10_1.2.1 102 42 ∧ zq_at zy_init_10_1.2.1 103 42 ∧ zq_at zy_init_10_1.2.1 104 3 ∧ zq_at zy_init_10_1.2.1 105 181 ∧ zq_at zy_init_10_1.2.1 106 0 ∧ zq_at zy_init_10_1.2.1 107 46 ∧ zq_at zy_init_10_1.2.1 108 177 := by decide +kernel
theorem zd_10_1_100 : zz_D zy_init_10_1 100 (.putfield 42) 3 103 := ⟨zq_181 zg_10_1_100.1 zg_10_1_100.2.1 zg_10_1_100.2.2.1 rfl, rfl⟩
theorem zd_10_1_103 : zz_D zy_init_10_1 103 (.aload_n 0) 1 104 := ⟨zq_42 zg_10_1_100.2.2.2.1, rfl⟩
theorem zd_10_1_104 : zz_D zy_init_10_1 104 (.iconst 0) 1 105 := ⟨zq_3 zg_10_1_100.2.2.2.2.1, rfl⟩
theorem zd_10_1_105 : zz_D zy_init_10_1 105 (.putfield 46) 3 108 := ⟨zq_181 zg_10_1_100.2.2.2.2.2.1 zg_10_1_100.2.2.2.2.2.2.1 zg_10_1_100.2.2.2.2.2.2.2.1 rfl, rfl⟩
theorem zd_10_1_108 : zz_D zy_init_10_1 108 (.return_) 1 109 := ⟨zq_177 zg_10_1_100.2.2.2.2.2.2.2.2, rfl⟩
-- TensorForge$Run <init> (LTensorForge$Machine;)V at 1042, 1043
abbrev zr_init_10_1_c1042_1043 : Room := { frames := 2, cells := 27, slots := 1915, locals := 27 }
def zp_init_10_1_c1042_1043 (S0 : zz_S) : zz_S → Prop := fun S => zz_Gm [1069, 1068, 1067, 1066, 1065, 1064, 1063, 1062, 1061, 1060, 1059, 1058, 1057, 1056, 1055, 1054, 1053, 1052, 1051, 1050, 1049, 1048, 1047, 1046, 1045, 1044, 1043, 1042] [] S ∧ zz_fr [] [1042, 1043, 1044, 1045, 1046, 1047, 1048, 1049, 1050, 1051, 1052, 1053, 1054, 1055, 1056, 1057, 1058, 1059, 1060, 1061, 1062, 1063, 1064, 1065, 1066, 1067, 1068, 1069] (fun _ _ => False) S0 S
def zX_54 : List (Nat × Nat) := [(1042, 0), (1042, 1), (1042, 2), (1042, 3), (1042, 4), (1042, 5), (1042, 6), (1042, 7), (1042, 8)]
theorem zc_init_10_1_c1042_1043 {g : mm_G} {l : Launch} (S0 : zz_S) (G_S0 : zz_Gm [1042] zX_54 S0) : mm_Met g l zy_init_10_1 zr_init_10_1_c1042_1043 [.ref 1042, .ref 1031] (zz_M S0 1043) 1043 (zz_QV 1070 (zp_init_10_1_c1042_1043 S0)) := by
  refine zz_enter (by decide) (Nat.le_of_ble_eq_true rfl) (zz_less (ls1 := [some (.ref 1042), some (.ref 1031)]) ⟨rfl, ⟨rfl, trivial⟩⟩ ?_)
  have F_S0 : zz_fr [] [1042, 1043, 1044, 1045, 1046, 1047, 1048, 1049, 1050, 1051, 1052, 1053, 1054, 1055, 1056, 1057, 1058, 1059, 1060, 1061, 1062, 1063, 1064, 1065, 1066, 1067, 1068, 1069] (fun _ _ => False) S0 S0 := zz_fr.refl
  refine zz_aload_n (x := 1042) rfl zd_10_1_0 ?_
  refine zz_objI zd_10_1_1 zoi_Run_3 zoi.1 zoi.2 (Nat.le_of_ble_eq_true rfl) (Nat.le_of_ble_eq_true rfl) ?_
  refine zz_aload_n (x := 1042) rfl zd_10_1_4 ?_
  refine zz_aload_n (x := 1031) rfl zd_10_1_5 ?_
  refine zz_putrF (kd := 0) 1031 zd_10_1_6 zf_Run_9 zT_1042 rfl (by decide) (by decide) rfl (fun _ => rfl) (fun _ => rfl) rfl (fun q h => by cases h; rfl) (fun S2 qS2 => ?_)
  have G_S2 := zz_Gm.put zX_37 G_S0 qS2 1031 1031 rfl (by decide) (by decide +kernel)
  have F_S2 := zz_fr.putc F_S0 qS2 (by decide +kernel)
  refine zz_aload_n (x := 1042) rfl zd_10_1_9 ?_
  refine zz_bipush (by decide) zd_10_1_10 ?_
  refine zz_newa (z := 10) (fun _ => 0) zd_10_1_12 zT_1043 rfl (mm_tb_1 183 (by decide +kernel) rfl) rfl (by decide) (by decide) (fun _ => rfl) (fun _ => rfl) (fun _ h => by cases h) (Nat.le_of_ble_eq_true rfl) (Nat.le_of_ble_eq_true rfl) (fun S3 qS3 => ?_)
  have G_S3 := zz_Gm.nwa zX_37 G_S2 qS3 (by decide +kernel) (fun i _ => ⟨(by decide : ((-2147483648) : Int) ≤ 0), (by decide : (0 : Int) ≤ 2147483647)⟩)
  have F_S3 := zz_fr.nw F_S2 qS3 (by decide +kernel)
  refine zz_setn (n1 := 1044) (k1 := 1) (j1 := 10) rfl rfl rfl ?_
  refine zz_putrF (kd := 0) 1043 zd_10_1_14 zf_Run_15 zT_1042 rfl (by decide) (by decide) rfl (fun _ => rfl) (fun _ => rfl) rfl (fun q h => by cases h; rfl) (fun S4 qS4 => ?_)
  have G_S4 := zz_Gm.put zX_38 G_S3 qS4 1043 1043 rfl (by decide) (by decide +kernel)
  have F_S4 := zz_fr.putc F_S3 qS4 (by decide +kernel)
  refine zz_aload_n (x := 1042) rfl zd_10_1_17 ?_
  refine zz_sipush (by decide) zd_10_1_18 ?_
  refine zz_newa (z := 600) (fun _ => 0) zd_10_1_21 zT_1044 rfl (mm_tb_1 181 (by decide +kernel) rfl) rfl (by decide) (by decide) (fun _ => rfl) (fun _ => rfl) (fun _ h => by cases h) (Nat.le_of_ble_eq_true rfl) (Nat.le_of_ble_eq_true rfl) (fun S5 qS5 => ?_)
  have G_S5 := zz_Gm.nwa zX_38 G_S4 qS5 (by decide +kernel) (fun i _ => ⟨(by decide : ((-9223372036854775808) : Int) ≤ 0), (by decide : (0 : Int) ≤ 9223372036854775807)⟩)
  have F_S5 := zz_fr.nw F_S4 qS5 (by decide +kernel)
  refine zz_setn (n1 := 1045) (k1 := 2) (j1 := 610) rfl rfl rfl ?_
  refine zz_putrF (kd := 0) 1044 zd_10_1_23 zf_Run_19 zT_1042 rfl (by decide) (by decide) rfl (fun _ => rfl) (fun _ => rfl) rfl (fun q h => by cases h; rfl) (fun S6 qS6 => ?_)
  have G_S6 := zz_Gm.put zX_39 G_S5 qS6 1044 1044 rfl (by decide) (by decide +kernel)
  have F_S6 := zz_fr.putc F_S5 qS6 (by decide +kernel)
  refine zz_aload_n (x := 1042) rfl zd_10_1_26 ?_
  refine zz_sipush (by decide) zd_10_1_27 ?_
  refine zz_newa (z := 600) (fun _ => 0) zd_10_1_30 zT_1045 rfl (mm_tb_1 183 (by decide +kernel) rfl) rfl (by decide) (by decide) (fun _ => rfl) (fun _ => rfl) (fun _ h => by cases h) (Nat.le_of_ble_eq_true rfl) (Nat.le_of_ble_eq_true rfl) (fun S7 qS7 => ?_)
  have G_S7 := zz_Gm.nwa zX_39 G_S6 qS7 (by decide +kernel) (fun i _ => ⟨(by decide : ((-2147483648) : Int) ≤ 0), (by decide : (0 : Int) ≤ 2147483647)⟩)
  have F_S7 := zz_fr.nw F_S6 qS7 (by decide +kernel)
  refine zz_setn (n1 := 1046) (k1 := 3) (j1 := 1210) rfl rfl rfl ?_
  refine zz_putrF (kd := 0) 1045 zd_10_1_32 zf_Run_23 zT_1042 rfl (by decide) (by decide) rfl (fun _ => rfl) (fun _ => rfl) rfl (fun q h => by cases h; rfl) (fun S8 qS8 => ?_)
  have G_S8 := zz_Gm.put zX_40 G_S7 qS8 1045 1045 rfl (by decide) (by decide +kernel)
  have F_S8 := zz_fr.putc F_S7 qS8 (by decide +kernel)
  refine zz_aload_n (x := 1042) rfl zd_10_1_35 ?_
  refine zz_sipush (by decide) zd_10_1_36 ?_
  refine zz_newa (z := 600) (fun _ => 0) zd_10_1_39 zT_1046 rfl (mm_tb_1 183 (by decide +kernel) rfl) rfl (by decide) (by decide) (fun _ => rfl) (fun _ => rfl) (fun _ h => by cases h) (Nat.le_of_ble_eq_true rfl) (Nat.le_of_ble_eq_true rfl) (fun S9 qS9 => ?_)
  have G_S9 := zz_Gm.nwa zX_40 G_S8 qS9 (by decide +kernel) (fun i _ => ⟨(by decide : ((-2147483648) : Int) ≤ 0), (by decide : (0 : Int) ≤ 2147483647)⟩)
  have F_S9 := zz_fr.nw F_S8 qS9 (by decide +kernel)
  refine zz_setn (n1 := 1047) (k1 := 4) (j1 := 1810) rfl rfl rfl ?_
  refine zz_putrF (kd := 0) 1046 zd_10_1_41 zf_Run_26 zT_1042 rfl (by decide) (by decide) rfl (fun _ => rfl) (fun _ => rfl) rfl (fun q h => by cases h; rfl) (fun S10 qS10 => ?_)
  have G_S10 := zz_Gm.put zX_41 G_S9 qS10 1046 1046 rfl (by decide) (by decide +kernel)
  have F_S10 := zz_fr.putc F_S9 qS10 (by decide +kernel)
  refine zz_aload_n (x := 1042) rfl zd_10_1_44 ?_
  refine zz_iconst zd_10_1_45 ?_
  refine zz_newa (z := 3) (fun _ => 0) zd_10_1_46 zT_1047 rfl (mm_tb_1 183 (by decide +kernel) rfl) rfl (by decide) (by decide) (fun _ => rfl) (fun _ => rfl) (fun _ h => by cases h) (Nat.le_of_ble_eq_true rfl) (Nat.le_of_ble_eq_true rfl) (fun S11 qS11 => ?_)
  have G_S11 := zz_Gm.nwa zX_41 G_S10 qS11 (by decide +kernel) (fun i _ => ⟨(by decide : ((-1) : Int) ≤ 0), (by decide : (0 : Int) ≤ 600)⟩)
  have F_S11 := zz_fr.nw F_S10 qS11 (by decide +kernel)
  refine zz_setn (n1 := 1048) (k1 := 5) (j1 := 1813) rfl rfl rfl ?_
  refine zz_putrF (kd := 0) 1047 zd_10_1_48 zf_Run_29 zT_1042 rfl (by decide) (by decide) rfl (fun _ => rfl) (fun _ => rfl) rfl (fun q h => by cases h; rfl) (fun S12 qS12 => ?_)
  have G_S12 := zz_Gm.put zX_42 G_S11 qS12 1047 1047 rfl (by decide) (by decide +kernel)
  have F_S12 := zz_fr.putc F_S11 qS12 (by decide +kernel)
  refine zz_aload_n (x := 1042) rfl zd_10_1_51 ?_
  refine zz_iconst zd_10_1_52 ?_
  refine zz_newa (z := 3) (fun _ => 0) zd_10_1_53 zT_1048 rfl (mm_tb_1 183 (by decide +kernel) rfl) rfl (by decide) (by decide) (fun _ => rfl) (fun _ => rfl) (fun _ h => by cases h) (Nat.le_of_ble_eq_true rfl) (Nat.le_of_ble_eq_true rfl) (fun S13 qS13 => ?_)
  have G_S13 := zz_Gm.nwa zX_42 G_S12 qS13 (by decide +kernel) (fun i _ => ⟨(by decide : ((-1) : Int) ≤ 0), (by decide : (0 : Int) ≤ 600)⟩)
  have F_S13 := zz_fr.nw F_S12 qS13 (by decide +kernel)
  refine zz_setn (n1 := 1049) (k1 := 6) (j1 := 1816) rfl rfl rfl ?_
  refine zz_putrF (kd := 0) 1048 zd_10_1_55 zf_Run_32 zT_1042 rfl (by decide) (by decide) rfl (fun _ => rfl) (fun _ => rfl) rfl (fun q h => by cases h; rfl) (fun S14 qS14 => ?_)
  have G_S14 := zz_Gm.put [(1042, 7), (1042, 8)] G_S13 qS14 1048 1048 rfl (by decide) (by decide +kernel)
  have F_S14 := zz_fr.putc F_S13 qS14 (by decide +kernel)
  refine zz_aload_n (x := 1042) rfl zd_10_1_58 ?_
  refine zz_iconst zd_10_1_59 ?_
  refine zz_anewb (z := 3) (fun i => if i < 3 then -1 else 0) zd_10_1_60 zT_1049 rfl (mm_tb_1 236 (by decide +kernel) rfl) (fun _ _ _ h => h.2.2.2.2.2.2.2.2.2.2.2) rfl (by decide) (fun i hi => by simp only [if_pos hi]; decide) (Nat.le_of_ble_eq_true rfl) (Nat.le_of_ble_eq_true rfl) (fun S15 qS15 => ?_)
  have G_S15 := zz_Gm.nwa zX_43 G_S14 qS15 (by decide +kernel) (fun i hi => by
    by_cases h : i < 3
    · exfalso
      have h9 := (by decide +kernel : ∀ q, q < 3 → (zX_43 : List (Nat × Nat)).contains (1049, q) = true) i h
      rw [h9] at hi
      cases hi
    · simp only [if_neg h]
      exact ⟨(by decide : (0 : Int) ≤ 0), (by decide : (0 : Int) ≤ 3)⟩)
  have F_S15 := zz_fr.nw F_S14 qS15 (by decide +kernel)
  refine zz_setn (n1 := 1050) (k1 := 7) (j1 := 1819) rfl rfl rfl ?_
  refine zz_putrF (kd := 0) 1049 zd_10_1_63 zf_Run_37 zT_1042 rfl (by decide) (by decide) rfl (fun _ => rfl) (fun _ => rfl) rfl (fun q h => by cases h; rfl) (fun S16 qS16 => ?_)
  have G_S16 := zz_Gm.put zX_44 G_S15 qS16 1049 1049 rfl (by decide) (by decide +kernel)
  have F_S16 := zz_fr.putc F_S15 qS16 (by decide +kernel)
  refine zz_iconst zd_10_1_66 ?_
  refine zz_istore_n [some (.ref 1042), some (.ref 1031), some (zi 0)] zd_10_1_67 (by decide) rfl ?_
  refine zz_iload_n (x := 0) rfl zd_10_1_68 ?_
  refine zz_iconst zd_10_1_69 ?_
  refine zz_icmp_ge (by omega) (by omega) zd_10_1_70 (fun c17 => ?_) (fun c17 => ?_)
  · exfalso; omega
  · refine zz_aload_n (x := 1042) rfl zd_10_1_73 ?_
    have g18 := G_S16 1042 7 (by decide +kernel) (by decide +kernel)
    refine zz_getr (kd := 0) (z := 1049) zd_10_1_74 zf_Run_37 zT_1042 rfl (by decide) (Int.le_antisymm g18.2 g18.1) (by decide) 1049 rfl ?_
    refine zz_iload_n (x := 0) rfl zd_10_1_77 ?_
    refine zz_new (zz_ov [(-1), (-1), (-1), (-1)]) zd_10_1_78 zn_Run_35 zT_1050 rfl (Nat.le_of_ble_eq_true rfl) (Nat.le_of_ble_eq_true rfl) (fun S19 qS19 => ?_)
    have G_S19 := zz_Gm.nwo G_S16 qS19 (by decide +kernel)
    have F_S19 := zz_fr.nw F_S16 qS19 (by decide +kernel)
    refine zz_setn (n1 := 1051) (k1 := 8) (j1 := 1823) rfl rfl rfl ?_
    refine zz_dup rfl zd_10_1_81 ?_
    refine zz_callN (n1 := 1055) [] zd_10_1_82 zk_Run_41 rfl rfl ⟨Nat.le_of_ble_eq_true rfl, Nat.le_of_ble_eq_true rfl⟩ (Nat.le_of_ble_eq_true rfl) (Nat.le_of_ble_eq_true rfl) (zc_init_9_1_c1050_1051 S19 (zz_Gm.own qS19 (zz_ovG (rs := [(1051, 1051), (1052, 1052), (1053, 1053), (1054, 1054)]) (fun _ => rfl) rfl (by decide +kernel)))) (fun S20 hP => ?_)
    obtain ⟨gS20, fS20⟩ := hP
    have F_S20 := zz_fr.trans F_S19 fS20 (by decide +kernel) zz_nv
    have G_S20 := zz_Gm.call zX_44 G_S19 fS20 gS20 (by decide +kernel) (by decide +kernel) (by decide +kernel) (by decide +kernel)
    refine zz_setn (n1 := 1055) (k1 := 12) (j1 := 1843) rfl rfl rfl ?_
    refine zz_aast (kd := 3) 0 zd_10_1_85 zT_1049 rfl (ci := 4) rfl zT_1050 (by decide) (by decide) (by decide) (by decide) (by decide) rfl (fun S21 qS21 => ?_)
    have G_S21 := zz_Gm.put zX_47 G_S20 qS21 0 3 rfl (by decide) (by decide +kernel)
    have F_S21 := zz_fr.putc F_S20 qS21 (by decide +kernel)
    refine zz_iinc [some (.ref 1042), some (.ref 1031), some (zi 1)] zd_10_1_86 rfl rfl ?_
    refine zz_goto zd_10_1_89 ?_
    refine zz_iload_n (x := 1) rfl zd_10_1_68 ?_
    refine zz_iconst zd_10_1_69 ?_
    refine zz_icmp_ge (by omega) (by omega) zd_10_1_70 (fun c22 => ?_) (fun c22 => ?_)
    · exfalso; omega
    · refine zz_aload_n (x := 1042) rfl zd_10_1_73 ?_
      have g23 := G_S21 1042 7 (by decide +kernel) (by decide +kernel)
      refine zz_getr (kd := 0) (z := 1049) zd_10_1_74 zf_Run_37 zT_1042 rfl (by decide) (Int.le_antisymm g23.2 g23.1) (by decide) 1049 rfl ?_
      refine zz_iload_n (x := 1) rfl zd_10_1_77 ?_
      refine zz_new (zz_ov [(-1), (-1), (-1), (-1)]) zd_10_1_78 zn_Run_35 zT_1055 rfl (Nat.le_of_ble_eq_true rfl) (Nat.le_of_ble_eq_true rfl) (fun S24 qS24 => ?_)
      have G_S24 := zz_Gm.nwo G_S21 qS24 (by decide +kernel)
      have F_S24 := zz_fr.nw F_S21 qS24 (by decide +kernel)
      refine zz_setn (n1 := 1056) (k1 := 13) (j1 := 1847) rfl rfl rfl ?_
      refine zz_dup rfl zd_10_1_81 ?_
      refine zz_callN (n1 := 1060) [] zd_10_1_82 zk_Run_41 rfl rfl ⟨Nat.le_of_ble_eq_true rfl, Nat.le_of_ble_eq_true rfl⟩ (Nat.le_of_ble_eq_true rfl) (Nat.le_of_ble_eq_true rfl) (zc_init_9_1_c1055_1056 S24 (zz_Gm.own qS24 (zz_ovG (rs := [(1056, 1056), (1057, 1057), (1058, 1058), (1059, 1059)]) (fun _ => rfl) rfl (by decide +kernel)))) (fun S25 hP => ?_)
      obtain ⟨gS25, fS25⟩ := hP
      have F_S25 := zz_fr.trans F_S24 fS25 (by decide +kernel) zz_nv
      have G_S25 := zz_Gm.call zX_47 G_S24 fS25 gS25 (by decide +kernel) (by decide +kernel) (by decide +kernel) (by decide +kernel)
      refine zz_setn (n1 := 1060) (k1 := 17) (j1 := 1867) rfl rfl rfl ?_
      refine zz_aast (kd := 3) 1 zd_10_1_85 zT_1049 rfl (ci := 4) rfl zT_1055 (by decide) (by decide) (by decide) (by decide) (by decide) rfl (fun S26 qS26 => ?_)
      have G_S26 := zz_Gm.put [(1049, 2), (1042, 8)] G_S25 qS26 0 3 rfl (by decide) (by decide +kernel)
      have F_S26 := zz_fr.putc F_S25 qS26 (by decide +kernel)
      refine zz_iinc [some (.ref 1042), some (.ref 1031), some (zi 2)] zd_10_1_86 rfl rfl ?_
      refine zz_goto zd_10_1_89 ?_
      refine zz_iload_n (x := 2) rfl zd_10_1_68 ?_
      refine zz_iconst zd_10_1_69 ?_
      refine zz_icmp_ge (by omega) (by omega) zd_10_1_70 (fun c27 => ?_) (fun c27 => ?_)
      · exfalso; omega
      · refine zz_aload_n (x := 1042) rfl zd_10_1_73 ?_
        have g28 := G_S26 1042 7 (by decide +kernel) (by decide +kernel)
        refine zz_getr (kd := 0) (z := 1049) zd_10_1_74 zf_Run_37 zT_1042 rfl (by decide) (Int.le_antisymm g28.2 g28.1) (by decide) 1049 rfl ?_
        refine zz_iload_n (x := 2) rfl zd_10_1_77 ?_
        refine zz_new (zz_ov [(-1), (-1), (-1), (-1)]) zd_10_1_78 zn_Run_35 zT_1060 rfl (Nat.le_of_ble_eq_true rfl) (Nat.le_of_ble_eq_true rfl) (fun S29 qS29 => ?_)
        have G_S29 := zz_Gm.nwo G_S26 qS29 (by decide +kernel)
        have F_S29 := zz_fr.nw F_S26 qS29 (by decide +kernel)
        refine zz_setn (n1 := 1061) (k1 := 18) (j1 := 1871) rfl rfl rfl ?_
        refine zz_dup rfl zd_10_1_81 ?_
        refine zz_callN (n1 := 1065) [] zd_10_1_82 zk_Run_41 rfl rfl ⟨Nat.le_of_ble_eq_true rfl, Nat.le_of_ble_eq_true rfl⟩ (Nat.le_of_ble_eq_true rfl) (Nat.le_of_ble_eq_true rfl) (zc_init_9_1_c1060_1061 S29 (zz_Gm.own qS29 (zz_ovG (rs := [(1061, 1061), (1062, 1062), (1063, 1063), (1064, 1064)]) (fun _ => rfl) rfl (by decide +kernel)))) (fun S30 hP => ?_)
        obtain ⟨gS30, fS30⟩ := hP
        have F_S30 := zz_fr.trans F_S29 fS30 (by decide +kernel) zz_nv
        have G_S30 := zz_Gm.call [(1049, 2), (1042, 8)] G_S29 fS30 gS30 (by decide +kernel) (by decide +kernel) (by decide +kernel) (by decide +kernel)
        refine zz_setn (n1 := 1065) (k1 := 22) (j1 := 1891) rfl rfl rfl ?_
        refine zz_aast (kd := 3) 2 zd_10_1_85 zT_1049 rfl (ci := 4) rfl zT_1060 (by decide) (by decide) (by decide) (by decide) (by decide) rfl (fun S31 qS31 => ?_)
        have G_S31 := zz_Gm.put [(1042, 8)] G_S30 qS31 0 3 rfl (by decide) (by decide +kernel)
        have F_S31 := zz_fr.putc F_S30 qS31 (by decide +kernel)
        refine zz_iinc [some (.ref 1042), some (.ref 1031), some (zi 3)] zd_10_1_86 rfl rfl ?_
        refine zz_goto zd_10_1_89 ?_
        refine zz_iload_n (x := 3) rfl zd_10_1_68 ?_
        refine zz_iconst zd_10_1_69 ?_
        refine zz_icmp_ge (by omega) (by omega) zd_10_1_70 (fun c32 => ?_) (fun c32 => ?_)
        · refine zz_aload_n (x := 1042) rfl zd_10_1_92 ?_
          refine zz_new (zz_ov [(-1), (-1), (-1), (-1)]) zd_10_1_93 zn_Run_35 zT_1065 rfl (Nat.le_of_ble_eq_true rfl) (Nat.le_of_ble_eq_true rfl) (fun S33 qS33 => ?_)
          have G_S33 := zz_Gm.nwo G_S31 qS33 (by decide +kernel)
          have F_S33 := zz_fr.nw F_S31 qS33 (by decide +kernel)
          refine zz_setn (n1 := 1066) (k1 := 23) (j1 := 1895) rfl rfl rfl ?_
          refine zz_dup rfl zd_10_1_96 ?_
          refine zz_callN (n1 := 1070) [] zd_10_1_97 zk_Run_41 rfl rfl ⟨Nat.le_of_ble_eq_true rfl, Nat.le_of_ble_eq_true rfl⟩ (Nat.le_of_ble_eq_true rfl) (Nat.le_of_ble_eq_true rfl) (zc_init_9_1_c1065_1066 S33 (zz_Gm.own qS33 (zz_ovG (rs := [(1066, 1066), (1067, 1067), (1068, 1068), (1069, 1069)]) (fun _ => rfl) rfl (by decide +kernel)))) (fun S34 hP => ?_)
          obtain ⟨gS34, fS34⟩ := hP
          have F_S34 := zz_fr.trans F_S33 fS34 (by decide +kernel) zz_nv
          have G_S34 := zz_Gm.call [(1042, 8)] G_S33 fS34 gS34 (by decide +kernel) (by decide +kernel) (by decide +kernel) (by decide +kernel)
          refine zz_setn (n1 := 1070) (k1 := 27) (j1 := 1915) rfl rfl rfl ?_
          refine zz_putr (kd := 3) 3 zd_10_1_100 zf_Run_42 zT_1042 rfl (by decide) (by decide) rfl (fun _ => rfl) (fun _ => rfl) (fun S35 qS35 => ?_)
          have G_S35 := zz_Gm.put [] G_S34 qS35 0 3 rfl (by decide) (by decide +kernel)
          have F_S35 := zz_fr.putc F_S34 qS35 (by decide +kernel)
          refine zz_aload_n (x := 1042) rfl zd_10_1_103 ?_
          refine zz_iconst zd_10_1_104 ?_
          refine zz_puti zd_10_1_105 zf_Run_46 zT_1042 rfl (by decide) (fun S36 qS36 => ?_)
          have G_S36 := zz_Gm.put [] G_S35 qS36 0 600 rfl (by decide) (by decide +kernel)
          have F_S36 := zz_fr.putc F_S35 qS36 (by decide +kernel)
          exact zz_vret zd_10_1_108 rfl (Nat.le_of_ble_eq_true rfl) (Nat.le_of_ble_eq_true rfl) ⟨_, rfl, G_S36, F_S36⟩
        · exfalso; omega
theorem zf_TF_42 : mm_Fl "TensorForge" 42 0 1 (.object "TensorForge$Run") true := ⟨R_TF, F_TF, 12, t_TF, rfl, i_TF, by decide, mm_tb_1 441 (by decide +kernel) rfl, rfl, t_TF_ok, n_TF, rfl, by decide +kernel⟩
def zX_55 : List (Nat × Nat) := [(1000, 2), (1000, 3), (1000, 4), (1000, 5), (1000, 6)]
theorem zn_TF_46 : mm_Nl "TensorForge" 46 6 7 [.null, .int 0, .int 0, .int 0, .int 0, .int 0, .int 0] := ⟨R_Text, F_Text, t_Text, rfl, i_Text, t_Text_ok, mm_tb_1 275 (by decide +kernel) rfl, mm_tb_1 276 (by decide +kernel) rfl, mm_tb_1 7 (by decide +kernel) rfl, fun q hq => by rcases (by omega : q = 0 ∨ q = 1 ∨ q = 2 ∨ q = 3 ∨ q = 4 ∨ q = 5 ∨ q = 6) with rfl | rfl | rfl | rfl | rfl | rfl | rfl <;> rfl, fun _ => rfl⟩
abbrev zy_init_11_1 : mm_Y := (⟨"TensorForge$Text", "<init>", "()V"⟩, prog_11_method_1_code, 1, none)
theorem zyw_init_11_1 : mm_Yw zy_init_11_1 0 := ⟨mm_tb_1 279 (by decide +kernel) rfl, mm_tb_1 7 (by decide +kernel) rfl, ⟨by decide, by decide⟩, by decide +kernel⟩
theorem zk_TF_48 : mm_Il "TensorForge" 48 0 zy_init_11_1 := ⟨zyw_init_11_1, mm_tb_1 277 (by decide +kernel) rfl, mm_tb_1 278 (by decide +kernel) rfl, rfl, rfl⟩
theorem zoi_Text_3 : Cond.methodLink "TensorForge$Text" 3 Lib.objectInit ∈ mm_tb := mm_tb_1 280 (by decide +kernel) rfl
theorem zf_Text_9 : mm_Fl "TensorForge$Text" 9 6 0 (.array .char) true := ⟨R_Text, F_Text, 7, t_Text, rfl, i_Text, by decide, mm_tb_1 285 (by decide +kernel) rfl, rfl, t_Text_ok, n_Text, rfl, by decide +kernel⟩
theorem zf_Text_15 : mm_Fl "TensorForge$Text" 15 6 1 .int false := ⟨R_Text, F_Text, 7, t_Text, rfl, i_Text, by decide, mm_tb_1 286 (by decide +kernel) rfl, rfl, t_Text_ok, n_Text, rfl, by decide +kernel⟩
abbrev zy_rewind_11_5 : mm_Y := (⟨"TensorForge$Text", "rewind", "()V"⟩, prog_11_method_5_code, 1, none)
theorem zyw_rewind_11_5 : mm_Yw zy_rewind_11_5 0 := ⟨mm_tb_1 284 (by decide +kernel) rfl, mm_tb_1 7 (by decide +kernel) rfl, ⟨by decide, by decide⟩, by decide +kernel⟩
theorem zk_Text_19 : mm_Vl "TensorForge$Text" 19 6 0 zy_rewind_11_5 := ⟨zyw_rewind_11_5, (R_Text, F_Text, 7), rfl, mm_tb_1 281 (by decide +kernel) rfl, mm_tb_1 282 (by decide +kernel) rfl, mm_tb_1 283 (by decide +kernel) rfl⟩
theorem zf_Text_22 : mm_Fl "TensorForge$Text" 22 6 2 .int false := ⟨R_Text, F_Text, 7, t_Text, rfl, i_Text, by decide, mm_tb_1 288 (by decide +kernel) rfl, rfl, t_Text_ok, n_Text, rfl, by decide +kernel⟩
theorem zf_Text_25 : mm_Fl "TensorForge$Text" 25 6 3 .int false := ⟨R_Text, F_Text, 7, t_Text, rfl, i_Text, by decide, mm_tb_1 289 (by decide +kernel) rfl, rfl, t_Text_ok, n_Text, rfl, by decide +kernel⟩
theorem zf_Text_28 : mm_Fl "TensorForge$Text" 28 6 4 .int false := ⟨R_Text, F_Text, 7, t_Text, rfl, i_Text, by decide, mm_tb_1 292 (by decide +kernel) rfl, rfl, t_Text_ok, n_Text, rfl, by decide +kernel⟩
theorem zf_Text_31 : mm_Fl "TensorForge$Text" 31 6 5 .int false := ⟨R_Text, F_Text, 7, t_Text, rfl, i_Text, by decide, mm_tb_1 293 (by decide +kernel) rfl, rfl, t_Text_ok, n_Text, rfl, by decide +kernel⟩
theorem zf_Text_34 : mm_Fl "TensorForge$Text" 34 6 6 .int false := ⟨R_Text, F_Text, 7, t_Text, rfl, i_Text, by decide, mm_tb_1 296 (by decide +kernel) rfl, rfl, t_Text_ok, n_Text, rfl, by decide +kernel⟩
theorem zg_1_1_72 : zq_at zy_init_1_1.2.1 72 181 ∧ zq_at zy_init_1_1.2.1 73 0 ∧ zq_at zy_init_1_1.2.1 74 42 ∧ zq_at zy_init_1_1.2.1 75 42 ∧ zq_at zy_init_1_1.2.1 76 187 ∧ zq_at zy_init_1_1.2.1 77 0 ∧ zq_at zy_init_1_1.2.1 78 46 ∧ zq_at zy_init_1_1.2.1 79 89 ∧ zq_at zy_init_1_1.2.1 80 183 ∧ zq_at zy_init_1_1.2.1 81 0 ∧ zq_at zy_init_1_1.2.1 82 48 := by decide +kernel
theorem zd_1_1_72 : zz_D zy_init_1_1 72 (.putfield 42) 3 75 := ⟨zq_181 zg_1_1_72.1 zg_1_1_72.2.1 zg_1_1_72.2.2.1 rfl, rfl⟩
theorem zd_1_1_75 : zz_D zy_init_1_1 75 (.aload_n 0) 1 76 := ⟨zq_42 zg_1_1_72.2.2.2.1, rfl⟩
theorem zd_1_1_76 : zz_D zy_init_1_1 76 (.new 46) 3 79 := ⟨zq_187 zg_1_1_72.2.2.2.2.1 zg_1_1_72.2.2.2.2.2.1 zg_1_1_72.2.2.2.2.2.2.1 rfl, rfl⟩
theorem zd_1_1_79 : zz_D zy_init_1_1 79 (.dup) 1 80 := ⟨zq_89 zg_1_1_72.2.2.2.2.2.2.2.1, rfl⟩
theorem zd_1_1_80 : zz_D zy_init_1_1 80 (.invokespecial 48) 3 83 := ⟨zq_183 zg_1_1_72.2.2.2.2.2.2.2.2.1 zg_1_1_72.2.2.2.2.2.2.2.2.2.1 zg_1_1_72.2.2.2.2.2.2.2.2.2.2 rfl, rfl⟩
theorem zg_11_1_0 : zq_at zy_init_11_1.2.1 0 42 ∧ zq_at zy_init_11_1.2.1 1 183 ∧ zq_at zy_init_11_1.2.1 2 0 ∧ zq_at zy_init_11_1.2.1 3 3 ∧ zq_at zy_init_11_1.2.1 4 42 ∧ zq_at zy_init_11_1.2.1 5 17 ∧ zq_at zy_init_11_1.2.1 6 5 ∧ zq_at zy_init_11_1.2.1 7 220 ∧ zq_at zy_init_11_1.2.1 8 188 ∧ zq_at zy_init_11_1.2.1 9 5 ∧ zq_at zy_init_11_1.2.1 10 181 ∧ zq_at zy_init_11_1.2.1 11 0 ∧ zq_at zy_init_11_1.2.1 12 9 ∧ zq_at zy_init_11_1.2.1 13 42 ∧ zq_at zy_init_11_1.2.1 14 3 ∧ zq_at zy_init_11_1.2.1 15 181 ∧ zq_at zy_init_11_1.2.1 16 0 ∧ zq_at zy_init_11_1.2.1 17 15 ∧ zq_at zy_init_11_1.2.1 18 42 ∧ zq_at zy_init_11_1.2.1 19 182 ∧ zq_at zy_init_11_1.2.1 20 0 ∧ zq_at zy_init_11_1.2.1 21 19 := by decide +kernel
theorem zd_11_1_0 : zz_D zy_init_11_1 0 (.aload_n 0) 1 1 := ⟨zq_42 zg_11_1_0.1, rfl⟩
theorem zd_11_1_1 : zz_D zy_init_11_1 1 (.invokespecial 3) 3 4 := ⟨zq_183 zg_11_1_0.2.1 zg_11_1_0.2.2.1 zg_11_1_0.2.2.2.1 rfl, rfl⟩
theorem zd_11_1_4 : zz_D zy_init_11_1 4 (.aload_n 0) 1 5 := ⟨zq_42 zg_11_1_0.2.2.2.2.1, rfl⟩
theorem zd_11_1_5 : zz_D zy_init_11_1 5 (.sipush 1500) 3 8 := ⟨zq_17 zg_11_1_0.2.2.2.2.2.1 zg_11_1_0.2.2.2.2.2.2.1 zg_11_1_0.2.2.2.2.2.2.2.1 (by decide), rfl⟩
theorem zd_11_1_8 : zz_D zy_init_11_1 8 (.newarray .char) 2 10 := ⟨zq_188_5 zg_11_1_0.2.2.2.2.2.2.2.2.1 zg_11_1_0.2.2.2.2.2.2.2.2.2.1, rfl⟩
theorem zd_11_1_10 : zz_D zy_init_11_1 10 (.putfield 9) 3 13 := ⟨zq_181 zg_11_1_0.2.2.2.2.2.2.2.2.2.2.1 zg_11_1_0.2.2.2.2.2.2.2.2.2.2.2.1 zg_11_1_0.2.2.2.2.2.2.2.2.2.2.2.2.1 rfl, rfl⟩
theorem zd_11_1_13 : zz_D zy_init_11_1 13 (.aload_n 0) 1 14 := ⟨zq_42 zg_11_1_0.2.2.2.2.2.2.2.2.2.2.2.2.2.1, rfl⟩
theorem zd_11_1_14 : zz_D zy_init_11_1 14 (.iconst 0) 1 15 := ⟨zq_3 zg_11_1_0.2.2.2.2.2.2.2.2.2.2.2.2.2.2.1, rfl⟩
theorem zd_11_1_15 : zz_D zy_init_11_1 15 (.putfield 15) 3 18 := ⟨zq_181 zg_11_1_0.2.2.2.2.2.2.2.2.2.2.2.2.2.2.2.1 zg_11_1_0.2.2.2.2.2.2.2.2.2.2.2.2.2.2.2.2.1 zg_11_1_0.2.2.2.2.2.2.2.2.2.2.2.2.2.2.2.2.2.1 rfl, rfl⟩
theorem zd_11_1_18 : zz_D zy_init_11_1 18 (.aload_n 0) 1 19 := ⟨zq_42 zg_11_1_0.2.2.2.2.2.2.2.2.2.2.2.2.2.2.2.2.2.2.1, rfl⟩
theorem zd_11_1_19 : zz_D zy_init_11_1 19 (.invokevirtual 19) 3 22 := ⟨zq_182 zg_11_1_0.2.2.2.2.2.2.2.2.2.2.2.2.2.2.2.2.2.2.2.1 zg_11_1_0.2.2.2.2.2.2.2.2.2.2.2.2.2.2.2.2.2.2.2.2.1 zg_11_1_0.2.2.2.2.2.2.2.2.2.2.2.2.2.2.2.2.2.2.2.2.2 rfl, rfl⟩
theorem zg_11_5_0 : zq_at zy_rewind_11_5.2.1 0 42 ∧ zq_at zy_rewind_11_5.2.1 1 2 ∧ zq_at zy_rewind_11_5.2.1 2 181 ∧ zq_at zy_rewind_11_5.2.1 3 0 ∧ zq_at zy_rewind_11_5.2.1 4 22 ∧ zq_at zy_rewind_11_5.2.1 5 42 ∧ zq_at zy_rewind_11_5.2.1 6 3 ∧ zq_at zy_rewind_11_5.2.1 7 181 ∧ zq_at zy_rewind_11_5.2.1 8 0 ∧ zq_at zy_rewind_11_5.2.1 9 25 ∧ zq_at zy_rewind_11_5.2.1 10 42 ∧ zq_at zy_rewind_11_5.2.1 11 3 ∧ zq_at zy_rewind_11_5.2.1 12 181 ∧ zq_at zy_rewind_11_5.2.1 13 0 ∧ zq_at zy_rewind_11_5.2.1 14 28 ∧ zq_at zy_rewind_11_5.2.1 15 42 ∧ zq_at zy_rewind_11_5.2.1 16 3 ∧ zq_at zy_rewind_11_5.2.1 17 181 ∧ zq_at zy_rewind_11_5.2.1 18 0 ∧ zq_at zy_rewind_11_5.2.1 19 31 ∧ zq_at zy_rewind_11_5.2.1 20 42 ∧ zq_at zy_rewind_11_5.2.1 21 3 := by decide +kernel
theorem zd_11_5_0 : zz_D zy_rewind_11_5 0 (.aload_n 0) 1 1 := ⟨zq_42 zg_11_5_0.1, rfl⟩
theorem zd_11_5_1 : zz_D zy_rewind_11_5 1 (.iconst (-1)) 1 2 := ⟨zq_2 zg_11_5_0.2.1, rfl⟩
theorem zd_11_5_2 : zz_D zy_rewind_11_5 2 (.putfield 22) 3 5 := ⟨zq_181 zg_11_5_0.2.2.1 zg_11_5_0.2.2.2.1 zg_11_5_0.2.2.2.2.1 rfl, rfl⟩
theorem zd_11_5_5 : zz_D zy_rewind_11_5 5 (.aload_n 0) 1 6 := ⟨zq_42 zg_11_5_0.2.2.2.2.2.1, rfl⟩
theorem zd_11_5_6 : zz_D zy_rewind_11_5 6 (.iconst 0) 1 7 := ⟨zq_3 zg_11_5_0.2.2.2.2.2.2.1, rfl⟩
theorem zd_11_5_7 : zz_D zy_rewind_11_5 7 (.putfield 25) 3 10 := ⟨zq_181 zg_11_5_0.2.2.2.2.2.2.2.1 zg_11_5_0.2.2.2.2.2.2.2.2.1 zg_11_5_0.2.2.2.2.2.2.2.2.2.1 rfl, rfl⟩
theorem zd_11_5_10 : zz_D zy_rewind_11_5 10 (.aload_n 0) 1 11 := ⟨zq_42 zg_11_5_0.2.2.2.2.2.2.2.2.2.2.1, rfl⟩
theorem zd_11_5_11 : zz_D zy_rewind_11_5 11 (.iconst 0) 1 12 := ⟨zq_3 zg_11_5_0.2.2.2.2.2.2.2.2.2.2.2.1, rfl⟩
theorem zd_11_5_12 : zz_D zy_rewind_11_5 12 (.putfield 28) 3 15 := ⟨zq_181 zg_11_5_0.2.2.2.2.2.2.2.2.2.2.2.2.1 zg_11_5_0.2.2.2.2.2.2.2.2.2.2.2.2.2.1 zg_11_5_0.2.2.2.2.2.2.2.2.2.2.2.2.2.2.1 rfl, rfl⟩
theorem zd_11_5_15 : zz_D zy_rewind_11_5 15 (.aload_n 0) 1 16 := ⟨zq_42 zg_11_5_0.2.2.2.2.2.2.2.2.2.2.2.2.2.2.2.1, rfl⟩
theorem zd_11_5_16 : zz_D zy_rewind_11_5 16 (.iconst 0) 1 17 := ⟨zq_3 zg_11_5_0.2.2.2.2.2.2.2.2.2.2.2.2.2.2.2.2.1, rfl⟩
theorem zd_11_5_17 : zz_D zy_rewind_11_5 17 (.putfield 31) 3 20 := ⟨zq_181 zg_11_5_0.2.2.2.2.2.2.2.2.2.2.2.2.2.2.2.2.2.1 zg_11_5_0.2.2.2.2.2.2.2.2.2.2.2.2.2.2.2.2.2.2.1 zg_11_5_0.2.2.2.2.2.2.2.2.2.2.2.2.2.2.2.2.2.2.2.1 rfl, rfl⟩
theorem zd_11_5_20 : zz_D zy_rewind_11_5 20 (.aload_n 0) 1 21 := ⟨zq_42 zg_11_5_0.2.2.2.2.2.2.2.2.2.2.2.2.2.2.2.2.2.2.2.2.1, rfl⟩
theorem zd_11_5_21 : zz_D zy_rewind_11_5 21 (.iconst 0) 1 22 := ⟨zq_3 zg_11_5_0.2.2.2.2.2.2.2.2.2.2.2.2.2.2.2.2.2.2.2.2.2, rfl⟩
theorem zg_11_5_22 : zq_at zy_rewind_11_5.2.1 22 181 ∧ zq_at zy_rewind_11_5.2.1 23 0 ∧ zq_at zy_rewind_11_5.2.1 24 34 ∧ zq_at zy_rewind_11_5.2.1 25 177 := by decide +kernel
theorem zd_11_5_22 : zz_D zy_rewind_11_5 22 (.putfield 34) 3 25 := ⟨zq_181 zg_11_5_22.1 zg_11_5_22.2.1 zg_11_5_22.2.2.1 rfl, rfl⟩
theorem zd_11_5_25 : zz_D zy_rewind_11_5 25 (.return_) 1 26 := ⟨zq_177 zg_11_5_22.2.2.2, rfl⟩
-- TensorForge$Text rewind ()V at 1070, 1072
abbrev zr_rewind_11_5_c1070_1072 : Room := { frames := 0, cells := 0, slots := 0, locals := 0 }
def zp_rewind_11_5_c1070_1072 (S0 : zz_S) : zz_S → Prop := fun S => zz_Gm [1070] [] S ∧ zz_fr [(1070, 2), (1070, 3), (1070, 4), (1070, 5), (1070, 6)] [] (fun _ _ => False) S0 S
theorem zc_rewind_11_5_c1070_1072 {g : mm_G} {l : Launch} (S0 : zz_S) (G_S0 : zz_Gm [1070] [] S0) : mm_Met g l zy_rewind_11_5 zr_rewind_11_5_c1070_1072 [.ref 1070] (zz_M S0 1072) 1072 (zz_QV 1072 (zp_rewind_11_5_c1070_1072 S0)) := by
  refine zz_enter (by decide) (Nat.le_of_ble_eq_true rfl) (zz_less (ls1 := [some (.ref 1070)]) ⟨rfl, trivial⟩ ?_)
  have F_S0 : zz_fr [(1070, 2), (1070, 3), (1070, 4), (1070, 5), (1070, 6)] [] (fun _ _ => False) S0 S0 := zz_fr.refl
  refine zz_aload_n (x := 1070) rfl zd_11_5_0 ?_
  refine zz_iconst zd_11_5_1 ?_
  refine zz_puti zd_11_5_2 zf_Text_22 zT_1070 rfl (by decide) (fun S1 qS1 => ?_)
  have G_S1 := zz_Gm.put [] G_S0 qS1 (-1) 1500 rfl (by decide) (by decide +kernel)
  have F_S1 := zz_fr.puts F_S0 qS1 (by decide +kernel)
  refine zz_aload_n (x := 1070) rfl zd_11_5_5 ?_
  refine zz_iconst zd_11_5_6 ?_
  refine zz_puti zd_11_5_7 zf_Text_25 zT_1070 rfl (by decide) (fun S2 qS2 => ?_)
  have G_S2 := zz_Gm.put [] G_S1 qS2 0 1500 rfl (by decide) (by decide +kernel)
  have F_S2 := zz_fr.puts F_S1 qS2 (by decide +kernel)
  refine zz_aload_n (x := 1070) rfl zd_11_5_10 ?_
  refine zz_iconst zd_11_5_11 ?_
  refine zz_puti zd_11_5_12 zf_Text_28 zT_1070 rfl (by decide) (fun S3 qS3 => ?_)
  have G_S3 := zz_Gm.put [] G_S2 qS3 (-2147483648) 2147483647 rfl (by decide) (by decide +kernel)
  have F_S3 := zz_fr.puts F_S2 qS3 (by decide +kernel)
  refine zz_aload_n (x := 1070) rfl zd_11_5_15 ?_
  refine zz_iconst zd_11_5_16 ?_
  refine zz_puti zd_11_5_17 zf_Text_31 zT_1070 rfl (by decide) (fun S4 qS4 => ?_)
  have G_S4 := zz_Gm.put [] G_S3 qS4 0 1500 rfl (by decide) (by decide +kernel)
  have F_S4 := zz_fr.puts F_S3 qS4 (by decide +kernel)
  refine zz_aload_n (x := 1070) rfl zd_11_5_20 ?_
  refine zz_iconst zd_11_5_21 ?_
  refine zz_puti zd_11_5_22 zf_Text_34 zT_1070 rfl (by decide) (fun S5 qS5 => ?_)
  have G_S5 := zz_Gm.put [] G_S4 qS5 (-2147483648) 2147483647 rfl (by decide) (by decide +kernel)
  have F_S5 := zz_fr.puts F_S4 qS5 (by decide +kernel)
  exact zz_vret zd_11_5_25 rfl (Nat.le_of_ble_eq_true rfl) (Nat.le_of_ble_eq_true rfl) ⟨_, rfl, G_S5, F_S5⟩
theorem zg_11_1_22 : zq_at zy_init_11_1.2.1 22 177 := by decide +kernel
theorem zd_11_1_22 : zz_D zy_init_11_1 22 (.return_) 1 23 := ⟨zq_177 zg_11_1_22, rfl⟩

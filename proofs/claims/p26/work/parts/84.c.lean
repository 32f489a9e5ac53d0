-- TensorForge$Assembler readNumber (I)Z
abbrev zr_readNumber_2_6_8 : Room := { frames := 2, cells := 0, slots := 0, locals := 30 }
def zp_readNumber_2_6_8  (S0 : zz_S) : Int → zz_S → Prop := fun r S => zz_G S ∧ zz_fr [(1070, 3), (1070, 4), (1070, 5), (1070, 6), (1072, 2), (1072, 3)] [] (fun _ _ => False) S0 S ∧ (0 ≤ r ∧ r ≤ 1) ∧ ((r = 1 ∧ zt_tk (S0 1071) (S0 1070 2) (S0 1070 3) = 100 ∧ zt_tv (S0 1071) (S0 1070 2) (S0 1070 3) ≤ 511 ∧ zt_bi (S0 1072 3) 8 = 0 ∧ S 1070 3 = zt_te (S0 1071) (S0 1070 2) (S0 1070 3) ∧ S0 1070 3 < S 1070 3) ∨ (r = 0 ∧ (zt_tk (S0 1071) (S0 1070 2) (S0 1070 3) ≠ 100 ∨ 511 < zt_tv (S0 1071) (S0 1070 2) (S0 1070 3) ∨ zt_bi (S0 1072 3) 8 = 1))) ∧ (r = 1 → zt_set (S0 1072 3) 8 (S 1072 3)) ∧ (S0 1070 3 ≤ S 1070 3) ∧ (S0 1070 3 ≤ S0 1070 2 → S 1070 3 ≤ S0 1070 2)
theorem zc_readNumber_2_6_8 {g : mm_G} {l : Launch}  (S0 : zz_S) (n : Nat) (hn : zz_end ≤ n) (G_S0 : zz_G S0)  : mm_Met g l zy_readNumber_2_6 zr_readNumber_2_6_8 [.ref 1072, zi 8] (zz_M S0 n) n (zz_QI n (zp_readNumber_2_6_8  S0)) := by
  refine zz_enter (by decide) (Nat.le_of_ble_eq_true rfl) (zz_less (ls1 := [some (.ref 1072), some (zi 8)]) ⟨rfl, ⟨rfl, trivial⟩⟩ ?_)
  have F_S0 : zz_fr [(1070, 3), (1070, 4), (1070, 5), (1070, 6), (1072, 2), (1072, 3)] [] (fun _ _ => False) S0 S0 := zz_fr.refl
  refine zz_aload_n (x := 1072) rfl zd_2_6_0 ?_
  refine zz_getr (kd := 0) (z := 1070) zd_2_6_1 zf_Assembler_9 zT_1072 rfl (zz_ltn hn rfl) (zz_G.eq G_S0 1072 0 1070 rfl rfl) (by decide) 1070 rfl ?_
  have g1 := zz_G.r G_S0 1070 2 (-1) 1500 rfl rfl
  have g2 := zz_G.r G_S0 1070 3 0 1500 rfl rfl
  refine zz_callVI [] zd_2_6_4 zk_Assembler_94 zT_1070 (zz_ltn hn rfl) rfl rfl ⟨Nat.le_of_ble_eq_true rfl, Nat.le_of_ble_eq_true rfl⟩ ⟨rfl, rfl⟩ (Nat.zero_le _) (Nat.zero_le _) (zc_nextIsNumber_11_11  S0 n hn G_S0 ) (fun v4 S3 hP => ?_)
  obtain ⟨G_S3, fS3, o5, o6, o7, o8, o9, o10, o11, o12, o13, o14, o15⟩ := hP
  have F_S3 := zz_fr.trans F_S0 fS3 rfl zz_nv
  rcases (by omega : v4 = 0 ∨ v4 = 1) with rfl | rfl
  · refine zz_if_eq (by omega) zd_2_6_7 (fun c16 => ?_) (fun c16 => ?_)
    · refine zz_iconst zd_2_6_43 ?_
      have g17 := zz_G.r G_S3 1070 3 0 1500 rfl rfl
      have g18 := zz_G.r G_S0 1072 3 (-2147483648) 2147483647 rfl rfl
      have e19 : S3 1072 3 = S0 1072 3 := (zz_rc fS3 rfl rfl (fun h => h) rfl)
      exact zz_zret zd_2_6_44 rfl (by omega) (Nat.zero_le _) (Nat.zero_le _) ⟨_, _, rfl, G_S3, F_S3, by omega, by omega, fun h => absurd h (by decide), by omega, by omega⟩
    · exfalso; omega
  · refine zz_if_eq (by omega) zd_2_6_7 (fun c20 => ?_) (fun c20 => ?_)
    · exfalso; omega
    · refine zz_aload_n (x := 1072) rfl zd_2_6_10 ?_
      refine zz_getr (kd := 0) (z := 1070) zd_2_6_11 zf_Assembler_9 zT_1072 rfl (zz_ltn hn rfl) (zz_G.eq G_S3 1072 0 1070 rfl rfl) (by decide) 1070 rfl ?_
      have g21 := zz_G.r G_S3 1070 6 (-2147483648) 2147483647 rfl rfl
      refine zz_geti (z := S3 1070 6) zd_2_6_14 zf_Assembler_97 zT_1070 rfl (zz_ltn hn rfl) rfl ?_
      refine zz_iload_n (x := 8) rfl zd_2_6_17 ?_
      refine zz_callSI [zi 8] zd_2_6_18 zk_Assembler_100 rfl rfl ⟨Nat.le_of_ble_eq_true rfl, Nat.le_of_ble_eq_true rfl⟩ ⟨rfl, rfl⟩ (Nat.zero_le _) (Nat.zero_le _) (zc_most_12_7x_8  S3 n hn G_S3 ) (fun v23 S22 hP => ?_)
      obtain ⟨rfl, o24⟩ := hP
      refine zz_icmp_gt (by omega) (by omega) zd_2_6_21 (fun c25 => ?_) (fun c25 => ?_)
      · refine zz_iconst zd_2_6_43 ?_
        have g26 := zz_G.r G_S3 1070 3 0 1500 rfl rfl
        have g27 := zz_G.r G_S0 1072 3 (-2147483648) 2147483647 rfl rfl
        have e28 : S3 1072 3 = S0 1072 3 := (zz_rc fS3 rfl rfl (fun h => h) rfl)
        exact zz_zret zd_2_6_44 rfl (by omega) (Nat.zero_le _) (Nat.zero_le _) ⟨_, _, rfl, G_S3, F_S3, by omega, by omega, fun h => absurd h (by decide), by omega, by omega⟩
      · refine zz_aload_n (x := 1072) rfl zd_2_6_24 ?_
        refine zz_iload_n (x := 8) rfl zd_2_6_25 ?_
        refine zz_aload_n (x := 1072) rfl zd_2_6_26 ?_
        refine zz_getr (kd := 0) (z := 1070) zd_2_6_27 zf_Assembler_9 zT_1072 rfl (zz_ltn hn rfl) (zz_G.eq G_S3 1072 0 1070 rfl rfl) (by decide) 1070 rfl ?_
        refine zz_geti (z := S3 1070 6) zd_2_6_30 zf_Assembler_97 zT_1070 rfl (zz_ltn hn rfl) rfl ?_
        have g29 := zz_G.r G_S0 1072 3 (-2147483648) 2147483647 rfl rfl
        have e30 : S3 1072 3 = S0 1072 3 := (zz_rc fS3 rfl rfl (fun h => h) rfl)
        refine zz_callVI [zi 8, zi (S3 1070 6)] zd_2_6_33 zk_Assembler_104 zT_1072 (zz_ltn hn rfl) rfl rfl ⟨Nat.le_of_ble_eq_true rfl, Nat.le_of_ble_eq_true rfl⟩ ⟨rfl, rfl⟩ (Nat.zero_le _) (Nat.zero_le _) (zc_setOnce_2_8_8 (S3 1070 6) S3 n hn G_S3 (by omega)) (fun v32 S31 hP => ?_)
        obtain ⟨G_S31, fS31, o33, o34, o35, o36⟩ := hP
        rw [show S3 1072 3 = S0 1072 3 from (zz_rc fS3 rfl rfl (fun h => h) rfl)] at o34
        rw [show S3 1072 3 = S0 1072 3 from (zz_rc fS3 rfl rfl (fun h => h) rfl)] at o35
        rw [show S3 1072 3 = S0 1072 3 from (zz_rc fS3 rfl rfl (fun h => h) rfl)] at o36
        have F_S31 := zz_fr.trans F_S3 fS31 rfl zz_nv
        rcases (by omega : v32 = 0 ∨ v32 = 1) with rfl | rfl
        · refine zz_if_eq (by omega) zd_2_6_36 (fun c37 => ?_) (fun c37 => ?_)
          · refine zz_iconst zd_2_6_43 ?_
            have g38 := zz_G.r G_S3 1070 3 0 1500 rfl rfl
            have e39 : S31 1070 3 = S3 1070 3 := (zz_rc fS31 rfl rfl (fun h => h) rfl)
            have g40 := zz_G.r G_S31 1072 3 (-2147483648) 2147483647 rfl rfl
            exact zz_zret zd_2_6_44 rfl (by omega) (Nat.zero_le _) (Nat.zero_le _) ⟨_, _, rfl, G_S31, F_S31, by omega, by omega, fun h => absurd h (by decide), by omega, by omega⟩
          · exfalso; omega
        · refine zz_if_eq (by omega) zd_2_6_36 (fun c41 => ?_) (fun c41 => ?_)
          · exfalso; omega
          · refine zz_iconst zd_2_6_39 ?_
            refine zz_goto zd_2_6_40 ?_
            have g42 := zz_G.r G_S3 1070 3 0 1500 rfl rfl
            have e43 : S31 1070 3 = S3 1070 3 := (zz_rc fS31 rfl rfl (fun h => h) rfl)
            have g44 := zz_G.r G_S31 1072 3 (-2147483648) 2147483647 rfl rfl
            exact zz_zret zd_2_6_44 rfl (by omega) (Nat.zero_le _) (Nat.zero_le _) ⟨_, _, rfl, G_S31, F_S31, by omega, by omega, fun _ => o35 rfl, by omega, by omega⟩
theorem zg_2_5_84 : zq_at zy_readPart_2_5.2.1 84 172 ∧ zq_at zy_readPart_2_5.2.1 30 42 ∧ zq_at zy_readPart_2_5.2.1 31 16 ∧ zq_at zy_readPart_2_5.2.1 32 6 ∧ zq_at zy_readPart_2_5.2.1 33 182 ∧ zq_at zy_readPart_2_5.2.1 34 0 ∧ zq_at zy_readPart_2_5.2.1 35 67 := by decide +kernel
theorem zd_2_5_84 : zz_D zy_readPart_2_5 84 (.ireturn) 1 85 := ⟨zq_172 zg_2_5_84.1, rfl⟩
theorem zd_2_5_30 : zz_D zy_readPart_2_5 30 (.aload_n 0) 1 31 := ⟨zq_42 zg_2_5_84.2.1, rfl⟩
theorem zd_2_5_31 : zz_D zy_readPart_2_5 31 (.bipush 6) 2 33 := ⟨zq_16 zg_2_5_84.2.2.1 zg_2_5_84.2.2.2.1 (by decide), rfl⟩
theorem zd_2_5_33 : zz_D zy_readPart_2_5 33 (.invokevirtual 67) 3 36 := ⟨zq_182 zg_2_5_84.2.2.2.2.1 zg_2_5_84.2.2.2.2.2.1 zg_2_5_84.2.2.2.2.2.2 rfl, rfl⟩
-- TensorForge$Words most (I)I
abbrev zr_most_12_7x_6 : Room := { frames := 0, cells := 0, slots := 0, locals := 0 }
def zp_most_12_7x_6  (S0 : zz_S) : Int → zz_S → Prop := fun r S => S0 = S ∧ (63 ≤ r ∧ r ≤ 63)
theorem zc_most_12_7x_6 {g : mm_G} {l : Launch}  (S0 : zz_S) (n : Nat) (hn : zz_end ≤ n) (G_S0 : zz_G S0)  : mm_Met g l zy_most_12_7 zr_most_12_7x_6 [zi 6] (zz_M S0 n) n (zz_QI n (zp_most_12_7x_6  S0)) := by
  refine zz_enter (by decide) (Nat.le_of_ble_eq_true rfl) (zz_less (ls1 := [some (zi 6)]) ⟨rfl, trivial⟩ ?_)
  refine zz_iload_n (x := 6) rfl zd_12_7_0 ?_
  refine zz_if_lt (by omega) zd_12_7_1 (fun c1 => ?_) (fun c1 => ?_)
  · exfalso; omega
  · refine zz_iload_n (x := 6) rfl zd_12_7_4 ?_
    refine zz_bipush (by decide) zd_12_7_5 ?_
    refine zz_icmp_lt (by omega) (by omega) zd_12_7_7 (fun c2 => ?_) (fun c2 => ?_)
    · refine zz_gets (q0 := 2) zd_12_7_14 rfl (by decide) zs_Words_13 ?_
      refine zz_iload_n (x := 6) rfl zd_12_7_17 ?_
      refine zz_tiald 63 zd_12_7_18 rfl (by decide) rfl (by decide) (by decide) rfl ?_
      exact zz_iret zd_12_7_19 rfl (Nat.zero_le _) (Nat.zero_le _) ⟨_, _, rfl, rfl, by omega⟩
    · exfalso; omega
-- TensorForge$Assembler setOnce (II)Z
abbrev zr_setOnce_2_8_6 : Room := { frames := 1, cells := 0, slots := 0, locals := 16 }
def zp_setOnce_2_8_6 (p1 : Int) (S0 : zz_S) : Int → zz_S → Prop := fun r S => zz_G S ∧ zz_fr [(1072, 2), (1072, 3)] [] (fun _ _ => False) S0 S ∧ (0 ≤ r ∧ r ≤ 1) ∧ ((r = 1 ∧ zt_bi (S0 1072 3) 6 = 0) ∨ (r = 0 ∧ zt_bi (S0 1072 3) 6 = 1)) ∧ (r = 1 → zt_set (S0 1072 3) 6 (S 1072 3)) ∧ (r = 0 → S 1072 3 = S0 1072 3)
theorem zc_setOnce_2_8_6 {g : mm_G} {l : Launch} (p1 : Int) (S0 : zz_S) (n : Nat) (hn : zz_end ≤ n) (G_S0 : zz_G S0) (hp1 : (-2147483648) ≤ p1 ∧ p1 ≤ 2147483647) : mm_Met g l zy_setOnce_2_8 zr_setOnce_2_8_6 [.ref 1072, zi 6, zi p1] (zz_M S0 n) n (zz_QI n (zp_setOnce_2_8_6 p1 S0)) := by
  refine zz_enter (by decide) (Nat.le_of_ble_eq_true rfl) (zz_less (ls1 := [some (.ref 1072), some (zi 6), some (zi p1)]) ⟨rfl, ⟨rfl, ⟨rfl, trivial⟩⟩⟩ ?_)
  have F_S0 : zz_fr [(1072, 2), (1072, 3)] [] (fun _ _ => False) S0 S0 := zz_fr.refl
  refine zz_aload_n (x := 1072) rfl zd_2_8_0 ?_
  have g1 := zz_G.r G_S0 1072 3 (-2147483648) 2147483647 rfl rfl
  refine zz_geti (z := S0 1072 3) zd_2_8_1 zf_Assembler_23 zT_1072 rfl (zz_ltn hn rfl) rfl ?_
  refine zz_iload_n (x := 6) rfl zd_2_8_4 ?_
  refine zz_ishr zd_2_8_5 (fun v2 hv2 ev2 => ?_)
  refine zz_iconst zd_2_8_6 ?_
  refine zz_iand (by omega) (by omega) zd_2_8_7 (fun v3 hv3 av3 bv3 ev3 => ?_)
  have hb9 := zt_shb (s := S0 1072 3) (w := 6) (x := 6) (by decide) (by decide) (by assumption) (by assumption)
  refine zz_iconst zd_2_8_8 ?_
  refine zz_icmp_ne (by omega) (by omega) zd_2_8_9 (fun c4 => ?_) (fun c4 => ?_)
  · refine zz_aload_n (x := 1072) rfl zd_2_8_14 ?_
    refine zz_dup rfl zd_2_8_15 ?_
    refine zz_geti (z := S0 1072 3) zd_2_8_16 zf_Assembler_23 zT_1072 rfl (zz_ltn hn rfl) rfl ?_
    refine zz_iconst zd_2_8_19 ?_
    refine zz_iload_n (x := 6) rfl zd_2_8_20 ?_
    refine zz_ishl zd_2_8_21 (fun v5 hv5 ev5 => ?_)
    obtain rfl : v5 = 64 := ev5.trans (by decide)
    refine zz_ior (by omega) (by omega) zd_2_8_22 (fun v6 hv6 av6 ev6 => ?_)
    skip
    refine zz_puti zd_2_8_23 zf_Assembler_23 zT_1072 rfl (zz_ltn hn rfl) (fun S7 qS7 => ?_)
    have G_S7 := zz_G.put G_S0 qS7 (-2147483648) 2147483647 rfl (by omega)
    have F_S7 := zz_fr.puts F_S0 qS7 rfl
    refine zz_aload_n (x := 1072) rfl zd_2_8_26 ?_
    refine zz_dup rfl zd_2_8_27 ?_
    have g8 := zz_G.r G_S0 1072 2 (-9223372036854775808) 9223372036854775807 rfl rfl
    refine zz_getl (z := S0 1072 2) zd_2_8_28 zf_Assembler_19 zT_1072 rfl (zz_ltn hn rfl) (zz_ro qS7 (fun h => absurd h.2 (by decide)) rfl) ?_
    refine zz_iload_n (x := 6) rfl zd_2_8_31 ?_
    refine zz_iload_n (x := p1) rfl zd_2_8_32 ?_
    refine zz_callSJ [zi 6, zi p1] zd_2_8_33 zk_Assembler_50 rfl rfl ⟨Nat.le_of_ble_eq_true rfl, Nat.le_of_ble_eq_true rfl⟩ ⟨rfl, rfl⟩ (Nat.zero_le _) (Nat.zero_le _) (zc_bits_12_4 6 p1 S7 n hn G_S7 (by omega) (by omega)) (fun v10 S9 hP => ?_)
    obtain ⟨rfl, o11⟩ := hP
    refine zz_lor zd_2_8_36 (fun v12 hv12 ev12 => ?_)
    refine zz_putl zd_2_8_37 zf_Assembler_19 zT_1072 rfl (zz_ltn hn rfl) (fun S13 qS13 => ?_)
    have G_S13 := zz_G.put G_S7 qS13 (-9223372036854775808) 9223372036854775807 rfl (by omega)
    have F_S13 := zz_fr.puts F_S7 qS13 rfl
    refine zz_iconst zd_2_8_40 ?_
    have e14 : S13 1072 3 = v6 := (zz_ro qS13 (fun h => absurd h.2 (by decide)) (zz_rs qS7))
    exact zz_zret zd_2_8_41 rfl (by omega) (Nat.zero_le _) (Nat.zero_le _) ⟨_, _, rfl, G_S13, F_S13, by omega, by omega, fun _ => (by rw [show S13 1072 3 = v6 by omega]; exact zt_set1 (b := Int32.ofInt 64) (by decide) (by decide) (by assumption)), by omega⟩
  · refine zz_iconst zd_2_8_12 ?_
    exact zz_zret zd_2_8_13 rfl (by omega) (Nat.zero_le _) (Nat.zero_le _) ⟨_, _, rfl, G_S0, F_S0, by omega, by omega, fun h => absurd h (by decide), by omega⟩
-- TensorForge$Assembler readNumber (I)Z
abbrev zr_readNumber_2_6_6 : Room := { frames := 2, cells := 0, slots := 0, locals := 30 }
def zp_readNumber_2_6_6  (S0 : zz_S) : Int → zz_S → Prop := fun r S => zz_G S ∧ zz_fr [(1070, 3), (1070, 4), (1070, 5), (1070, 6), (1072, 2), (1072, 3)] [] (fun _ _ => False) S0 S ∧ (0 ≤ r ∧ r ≤ 1) ∧ ((r = 1 ∧ zt_tk (S0 1071) (S0 1070 2) (S0 1070 3) = 100 ∧ zt_tv (S0 1071) (S0 1070 2) (S0 1070 3) ≤ 63 ∧ zt_bi (S0 1072 3) 6 = 0 ∧ S 1070 3 = zt_te (S0 1071) (S0 1070 2) (S0 1070 3) ∧ S0 1070 3 < S 1070 3) ∨ (r = 0 ∧ (zt_tk (S0 1071) (S0 1070 2) (S0 1070 3) ≠ 100 ∨ 63 < zt_tv (S0 1071) (S0 1070 2) (S0 1070 3) ∨ zt_bi (S0 1072 3) 6 = 1))) ∧ (r = 1 → zt_set (S0 1072 3) 6 (S 1072 3)) ∧ (S0 1070 3 ≤ S 1070 3) ∧ (S0 1070 3 ≤ S0 1070 2 → S 1070 3 ≤ S0 1070 2)
theorem zc_readNumber_2_6_6 {g : mm_G} {l : Launch}  (S0 : zz_S) (n : Nat) (hn : zz_end ≤ n) (G_S0 : zz_G S0)  : mm_Met g l zy_readNumber_2_6 zr_readNumber_2_6_6 [.ref 1072, zi 6] (zz_M S0 n) n (zz_QI n (zp_readNumber_2_6_6  S0)) := by
  refine zz_enter (by decide) (Nat.le_of_ble_eq_true rfl) (zz_less (ls1 := [some (.ref 1072), some (zi 6)]) ⟨rfl, ⟨rfl, trivial⟩⟩ ?_)
  have F_S0 : zz_fr [(1070, 3), (1070, 4), (1070, 5), (1070, 6), (1072, 2), (1072, 3)] [] (fun _ _ => False) S0 S0 := zz_fr.refl
  refine zz_aload_n (x := 1072) rfl zd_2_6_0 ?_
  refine zz_getr (kd := 0) (z := 1070) zd_2_6_1 zf_Assembler_9 zT_1072 rfl (zz_ltn hn rfl) (zz_G.eq G_S0 1072 0 1070 rfl rfl) (by decide) 1070 rfl ?_
  have g1 := zz_G.r G_S0 1070 2 (-1) 1500 rfl rfl
  have g2 := zz_G.r G_S0 1070 3 0 1500 rfl rfl
  refine zz_callVI [] zd_2_6_4 zk_Assembler_94 zT_1070 (zz_ltn hn rfl) rfl rfl ⟨Nat.le_of_ble_eq_true rfl, Nat.le_of_ble_eq_true rfl⟩ ⟨rfl, rfl⟩ (Nat.zero_le _) (Nat.zero_le _) (zc_nextIsNumber_11_11  S0 n hn G_S0 ) (fun v4 S3 hP => ?_)
  obtain ⟨G_S3, fS3, o5, o6, o7, o8, o9, o10, o11, o12, o13, o14, o15⟩ := hP
  have F_S3 := zz_fr.trans F_S0 fS3 rfl zz_nv
  rcases (by omega : v4 = 0 ∨ v4 = 1) with rfl | rfl
  · refine zz_if_eq (by omega) zd_2_6_7 (fun c16 => ?_) (fun c16 => ?_)
    · refine zz_iconst zd_2_6_43 ?_
      have g17 := zz_G.r G_S3 1070 3 0 1500 rfl rfl
      have g18 := zz_G.r G_S0 1072 3 (-2147483648) 2147483647 rfl rfl
      have e19 : S3 1072 3 = S0 1072 3 := (zz_rc fS3 rfl rfl (fun h => h) rfl)
      exact zz_zret zd_2_6_44 rfl (by omega) (Nat.zero_le _) (Nat.zero_le _) ⟨_, _, rfl, G_S3, F_S3, by omega, by omega, fun h => absurd h (by decide), by omega, by omega⟩
    · exfalso; omega
  · refine zz_if_eq (by omega) zd_2_6_7 (fun c20 => ?_) (fun c20 => ?_)
    · exfalso; omega
    · refine zz_aload_n (x := 1072) rfl zd_2_6_10 ?_
      refine zz_getr (kd := 0) (z := 1070) zd_2_6_11 zf_Assembler_9 zT_1072 rfl (zz_ltn hn rfl) (zz_G.eq G_S3 1072 0 1070 rfl rfl) (by decide) 1070 rfl ?_
      have g21 := zz_G.r G_S3 1070 6 (-2147483648) 2147483647 rfl rfl
      refine zz_geti (z := S3 1070 6) zd_2_6_14 zf_Assembler_97 zT_1070 rfl (zz_ltn hn rfl) rfl ?_
      refine zz_iload_n (x := 6) rfl zd_2_6_17 ?_
      refine zz_callSI [zi 6] zd_2_6_18 zk_Assembler_100 rfl rfl ⟨Nat.le_of_ble_eq_true rfl, Nat.le_of_ble_eq_true rfl⟩ ⟨rfl, rfl⟩ (Nat.zero_le _) (Nat.zero_le _) (zc_most_12_7x_6  S3 n hn G_S3 ) (fun v23 S22 hP => ?_)
      obtain ⟨rfl, o24⟩ := hP
      refine zz_icmp_gt (by omega) (by omega) zd_2_6_21 (fun c25 => ?_) (fun c25 => ?_)
      · refine zz_iconst zd_2_6_43 ?_
        have g26 := zz_G.r G_S3 1070 3 0 1500 rfl rfl
        have g27 := zz_G.r G_S0 1072 3 (-2147483648) 2147483647 rfl rfl
        have e28 : S3 1072 3 = S0 1072 3 := (zz_rc fS3 rfl rfl (fun h => h) rfl)
        exact zz_zret zd_2_6_44 rfl (by omega) (Nat.zero_le _) (Nat.zero_le _) ⟨_, _, rfl, G_S3, F_S3, by omega, by omega, fun h => absurd h (by decide), by omega, by omega⟩
      · refine zz_aload_n (x := 1072) rfl zd_2_6_24 ?_
        refine zz_iload_n (x := 6) rfl zd_2_6_25 ?_
        refine zz_aload_n (x := 1072) rfl zd_2_6_26 ?_
        refine zz_getr (kd := 0) (z := 1070) zd_2_6_27 zf_Assembler_9 zT_1072 rfl (zz_ltn hn rfl) (zz_G.eq G_S3 1072 0 1070 rfl rfl) (by decide) 1070 rfl ?_
        refine zz_geti (z := S3 1070 6) zd_2_6_30 zf_Assembler_97 zT_1070 rfl (zz_ltn hn rfl) rfl ?_
        have g29 := zz_G.r G_S0 1072 3 (-2147483648) 2147483647 rfl rfl
        have e30 : S3 1072 3 = S0 1072 3 := (zz_rc fS3 rfl rfl (fun h => h) rfl)
        refine zz_callVI [zi 6, zi (S3 1070 6)] zd_2_6_33 zk_Assembler_104 zT_1072 (zz_ltn hn rfl) rfl rfl ⟨Nat.le_of_ble_eq_true rfl, Nat.le_of_ble_eq_true rfl⟩ ⟨rfl, rfl⟩ (Nat.zero_le _) (Nat.zero_le _) (zc_setOnce_2_8_6 (S3 1070 6) S3 n hn G_S3 (by omega)) (fun v32 S31 hP => ?_)
        obtain ⟨G_S31, fS31, o33, o34, o35, o36⟩ := hP
        rw [show S3 1072 3 = S0 1072 3 from (zz_rc fS3 rfl rfl (fun h => h) rfl)] at o34
        rw [show S3 1072 3 = S0 1072 3 from (zz_rc fS3 rfl rfl (fun h => h) rfl)] at o35
        rw [show S3 1072 3 = S0 1072 3 from (zz_rc fS3 rfl rfl (fun h => h) rfl)] at o36
        have F_S31 := zz_fr.trans F_S3 fS31 rfl zz_nv
        rcases (by omega : v32 = 0 ∨ v32 = 1) with rfl | rfl
        · refine zz_if_eq (by omega) zd_2_6_36 (fun c37 => ?_) (fun c37 => ?_)
          · refine zz_iconst zd_2_6_43 ?_
            have g38 := zz_G.r G_S3 1070 3 0 1500 rfl rfl
            have e39 : S31 1070 3 = S3 1070 3 := (zz_rc fS31 rfl rfl (fun h => h) rfl)
            have g40 := zz_G.r G_S31 1072 3 (-2147483648) 2147483647 rfl rfl
            exact zz_zret zd_2_6_44 rfl (by omega) (Nat.zero_le _) (Nat.zero_le _) ⟨_, _, rfl, G_S31, F_S31, by omega, by omega, fun h => absurd h (by decide), by omega, by omega⟩
          · exfalso; omega
        · refine zz_if_eq (by omega) zd_2_6_36 (fun c41 => ?_) (fun c41 => ?_)
          · exfalso; omega
          · refine zz_iconst zd_2_6_39 ?_
            refine zz_goto zd_2_6_40 ?_
            have g42 := zz_G.r G_S3 1070 3 0 1500 rfl rfl
            have e43 : S31 1070 3 = S3 1070 3 := (zz_rc fS31 rfl rfl (fun h => h) rfl)
            have g44 := zz_G.r G_S31 1072 3 (-2147483648) 2147483647 rfl rfl
            exact zz_zret zd_2_6_44 rfl (by omega) (Nat.zero_le _) (Nat.zero_le _) ⟨_, _, rfl, G_S31, F_S31, by omega, by omega, fun _ => o35 rfl, by omega, by omega⟩
theorem zg_2_5_36 : zq_at zy_readPart_2_5.2.1 36 153 ∧ zq_at zy_readPart_2_5.2.1 37 0 ∧ zq_at zy_readPart_2_5.2.1 38 28 ∧ zq_at zy_readPart_2_5.2.1 64 3 ∧ zq_at zy_readPart_2_5.2.1 65 172 ∧ zq_at zy_readPart_2_5.2.1 39 42 ∧ zq_at zy_readPart_2_5.2.1 40 180 ∧ zq_at zy_readPart_2_5.2.1 41 0 ∧ zq_at zy_readPart_2_5.2.1 42 9 ∧ zq_at zy_readPart_2_5.2.1 43 18 ∧ zq_at zy_readPart_2_5.2.1 44 73 ∧ zq_at zy_readPart_2_5.2.1 45 182 ∧ zq_at zy_readPart_2_5.2.1 46 0 ∧ zq_at zy_readPart_2_5.2.1 47 75 ∧ zq_at zy_readPart_2_5.2.1 48 153 ∧ zq_at zy_readPart_2_5.2.1 49 0 ∧ zq_at zy_readPart_2_5.2.1 50 16 ∧ zq_at zy_readPart_2_5.2.1 51 42 ∧ zq_at zy_readPart_2_5.2.1 52 16 ∧ zq_at zy_readPart_2_5.2.1 53 7 ∧ zq_at zy_readPart_2_5.2.1 54 182 ∧ zq_at zy_readPart_2_5.2.1 55 0 ∧ zq_at zy_readPart_2_5.2.1 56 67 := by decide +kernel
theorem zd_2_5_36 : zz_B zy_readPart_2_5 36 (Instr.ifCond .eq) 64 39 := ⟨28, zq_153 zg_2_5_36.1 zg_2_5_36.2.1 zg_2_5_36.2.2.1 (by decide), rfl, rfl⟩
theorem zd_2_5_64 : zz_D zy_readPart_2_5 64 (.iconst 0) 1 65 := ⟨zq_3 zg_2_5_36.2.2.2.1, rfl⟩
theorem zd_2_5_65 : zz_D zy_readPart_2_5 65 (.ireturn) 1 66 := ⟨zq_172 zg_2_5_36.2.2.2.2.1, rfl⟩
theorem zd_2_5_39 : zz_D zy_readPart_2_5 39 (.aload_n 0) 1 40 := ⟨zq_42 zg_2_5_36.2.2.2.2.2.1, rfl⟩
theorem zd_2_5_40 : zz_D zy_readPart_2_5 40 (.getfield 9) 3 43 := ⟨zq_180 zg_2_5_36.2.2.2.2.2.2.1 zg_2_5_36.2.2.2.2.2.2.2.1 zg_2_5_36.2.2.2.2.2.2.2.2.1 rfl, rfl⟩
theorem zd_2_5_43 : zz_D zy_readPart_2_5 43 (.ldc 73) 2 45 := ⟨zq_18 zg_2_5_36.2.2.2.2.2.2.2.2.2.1 zg_2_5_36.2.2.2.2.2.2.2.2.2.2.1, rfl⟩
theorem zd_2_5_45 : zz_D zy_readPart_2_5 45 (.invokevirtual 75) 3 48 := ⟨zq_182 zg_2_5_36.2.2.2.2.2.2.2.2.2.2.2.1 zg_2_5_36.2.2.2.2.2.2.2.2.2.2.2.2.1 zg_2_5_36.2.2.2.2.2.2.2.2.2.2.2.2.2.1 rfl, rfl⟩
theorem zd_2_5_48 : zz_B zy_readPart_2_5 48 (Instr.ifCond .eq) 64 51 := ⟨16, zq_153 zg_2_5_36.2.2.2.2.2.2.2.2.2.2.2.2.2.2.1 zg_2_5_36.2.2.2.2.2.2.2.2.2.2.2.2.2.2.2.1 zg_2_5_36.2.2.2.2.2.2.2.2.2.2.2.2.2.2.2.2.1 (by decide), rfl, rfl⟩
theorem zd_2_5_51 : zz_D zy_readPart_2_5 51 (.aload_n 0) 1 52 := ⟨zq_42 zg_2_5_36.2.2.2.2.2.2.2.2.2.2.2.2.2.2.2.2.2.1, rfl⟩
theorem zd_2_5_52 : zz_D zy_readPart_2_5 52 (.bipush 7) 2 54 := ⟨zq_16 zg_2_5_36.2.2.2.2.2.2.2.2.2.2.2.2.2.2.2.2.2.2.1 zg_2_5_36.2.2.2.2.2.2.2.2.2.2.2.2.2.2.2.2.2.2.2.1 (by decide), rfl⟩
theorem zd_2_5_54 : zz_D zy_readPart_2_5 54 (.invokevirtual 67) 3 57 := ⟨zq_182 zg_2_5_36.2.2.2.2.2.2.2.2.2.2.2.2.2.2.2.2.2.2.2.2.1 zg_2_5_36.2.2.2.2.2.2.2.2.2.2.2.2.2.2.2.2.2.2.2.2.2.1 zg_2_5_36.2.2.2.2.2.2.2.2.2.2.2.2.2.2.2.2.2.2.2.2.2.2 rfl, rfl⟩
-- TensorForge$Words most (I)I
abbrev zr_most_12_7x_7 : Room := { frames := 0, cells := 0, slots := 0, locals := 0 }
def zp_most_12_7x_7  (S0 : zz_S) : Int → zz_S → Prop := fun r S => S0 = S ∧ (31 ≤ r ∧ r ≤ 31)
theorem zc_most_12_7x_7 {g : mm_G} {l : Launch}  (S0 : zz_S) (n : Nat) (hn : zz_end ≤ n) (G_S0 : zz_G S0)  : mm_Met g l zy_most_12_7 zr_most_12_7x_7 [zi 7] (zz_M S0 n) n (zz_QI n (zp_most_12_7x_7  S0)) := by
  refine zz_enter (by decide) (Nat.le_of_ble_eq_true rfl) (zz_less (ls1 := [some (zi 7)]) ⟨rfl, trivial⟩ ?_)
  refine zz_iload_n (x := 7) rfl zd_12_7_0 ?_
  refine zz_if_lt (by omega) zd_12_7_1 (fun c1 => ?_) (fun c1 => ?_)
  · exfalso; omega
  · refine zz_iload_n (x := 7) rfl zd_12_7_4 ?_
    refine zz_bipush (by decide) zd_12_7_5 ?_
    refine zz_icmp_lt (by omega) (by omega) zd_12_7_7 (fun c2 => ?_) (fun c2 => ?_)
    · refine zz_gets (q0 := 2) zd_12_7_14 rfl (by decide) zs_Words_13 ?_
      refine zz_iload_n (x := 7) rfl zd_12_7_17 ?_
      refine zz_tiald 31 zd_12_7_18 rfl (by decide) rfl (by decide) (by decide) rfl ?_
      exact zz_iret zd_12_7_19 rfl (Nat.zero_le _) (Nat.zero_le _) ⟨_, _, rfl, rfl, by omega⟩
    · exfalso; omega
-- TensorForge$Assembler setOnce (II)Z
abbrev zr_setOnce_2_8_7 : Room := { frames := 1, cells := 0, slots := 0, locals := 16 }
def zp_setOnce_2_8_7 (p1 : Int) (S0 : zz_S) : Int → zz_S → Prop := fun r S => zz_G S ∧ zz_fr [(1072, 2), (1072, 3)] [] (fun _ _ => False) S0 S ∧ (0 ≤ r ∧ r ≤ 1) ∧ ((r = 1 ∧ zt_bi (S0 1072 3) 7 = 0) ∨ (r = 0 ∧ zt_bi (S0 1072 3) 7 = 1)) ∧ (r = 1 → zt_set (S0 1072 3) 7 (S 1072 3)) ∧ (r = 0 → S 1072 3 = S0 1072 3)
theorem zc_setOnce_2_8_7 {g : mm_G} {l : Launch} (p1 : Int) (S0 : zz_S) (n : Nat) (hn : zz_end ≤ n) (G_S0 : zz_G S0) (hp1 : (-2147483648) ≤ p1 ∧ p1 ≤ 2147483647) : mm_Met g l zy_setOnce_2_8 zr_setOnce_2_8_7 [.ref 1072, zi 7, zi p1] (zz_M S0 n) n (zz_QI n (zp_setOnce_2_8_7 p1 S0)) := by
  refine zz_enter (by decide) (Nat.le_of_ble_eq_true rfl) (zz_less (ls1 := [some (.ref 1072), some (zi 7), some (zi p1)]) ⟨rfl, ⟨rfl, ⟨rfl, trivial⟩⟩⟩ ?_)
  have F_S0 : zz_fr [(1072, 2), (1072, 3)] [] (fun _ _ => False) S0 S0 := zz_fr.refl
  refine zz_aload_n (x := 1072) rfl zd_2_8_0 ?_
  have g1 := zz_G.r G_S0 1072 3 (-2147483648) 2147483647 rfl rfl
  refine zz_geti (z := S0 1072 3) zd_2_8_1 zf_Assembler_23 zT_1072 rfl (zz_ltn hn rfl) rfl ?_
  refine zz_iload_n (x := 7) rfl zd_2_8_4 ?_
  refine zz_ishr zd_2_8_5 (fun v2 hv2 ev2 => ?_)
  refine zz_iconst zd_2_8_6 ?_
  refine zz_iand (by omega) (by omega) zd_2_8_7 (fun v3 hv3 av3 bv3 ev3 => ?_)
  have hb9 := zt_shb (s := S0 1072 3) (w := 7) (x := 7) (by decide) (by decide) (by assumption) (by assumption)
  refine zz_iconst zd_2_8_8 ?_
  refine zz_icmp_ne (by omega) (by omega) zd_2_8_9 (fun c4 => ?_) (fun c4 => ?_)
  · refine zz_aload_n (x := 1072) rfl zd_2_8_14 ?_
    refine zz_dup rfl zd_2_8_15 ?_
    refine zz_geti (z := S0 1072 3) zd_2_8_16 zf_Assembler_23 zT_1072 rfl (zz_ltn hn rfl) rfl ?_
    refine zz_iconst zd_2_8_19 ?_
    refine zz_iload_n (x := 7) rfl zd_2_8_20 ?_
    refine zz_ishl zd_2_8_21 (fun v5 hv5 ev5 => ?_)
    obtain rfl : v5 = 128 := ev5.trans (by decide)
    refine zz_ior (by omega) (by omega) zd_2_8_22 (fun v6 hv6 av6 ev6 => ?_)
    skip
    refine zz_puti zd_2_8_23 zf_Assembler_23 zT_1072 rfl (zz_ltn hn rfl) (fun S7 qS7 => ?_)
    have G_S7 := zz_G.put G_S0 qS7 (-2147483648) 2147483647 rfl (by omega)
    have F_S7 := zz_fr.puts F_S0 qS7 rfl
    refine zz_aload_n (x := 1072) rfl zd_2_8_26 ?_
    refine zz_dup rfl zd_2_8_27 ?_
    have g8 := zz_G.r G_S0 1072 2 (-9223372036854775808) 9223372036854775807 rfl rfl
    refine zz_getl (z := S0 1072 2) zd_2_8_28 zf_Assembler_19 zT_1072 rfl (zz_ltn hn rfl) (zz_ro qS7 (fun h => absurd h.2 (by decide)) rfl) ?_
    refine zz_iload_n (x := 7) rfl zd_2_8_31 ?_
    refine zz_iload_n (x := p1) rfl zd_2_8_32 ?_
    refine zz_callSJ [zi 7, zi p1] zd_2_8_33 zk_Assembler_50 rfl rfl ⟨Nat.le_of_ble_eq_true rfl, Nat.le_of_ble_eq_true rfl⟩ ⟨rfl, rfl⟩ (Nat.zero_le _) (Nat.zero_le _) (zc_bits_12_4 7 p1 S7 n hn G_S7 (by omega) (by omega)) (fun v10 S9 hP => ?_)
    obtain ⟨rfl, o11⟩ := hP
    refine zz_lor zd_2_8_36 (fun v12 hv12 ev12 => ?_)
    refine zz_putl zd_2_8_37 zf_Assembler_19 zT_1072 rfl (zz_ltn hn rfl) (fun S13 qS13 => ?_)
    have G_S13 := zz_G.put G_S7 qS13 (-9223372036854775808) 9223372036854775807 rfl (by omega)
    have F_S13 := zz_fr.puts F_S7 qS13 rfl
    refine zz_iconst zd_2_8_40 ?_
    have e14 : S13 1072 3 = v6 := (zz_ro qS13 (fun h => absurd h.2 (by decide)) (zz_rs qS7))
    exact zz_zret zd_2_8_41 rfl (by omega) (Nat.zero_le _) (Nat.zero_le _) ⟨_, _, rfl, G_S13, F_S13, by omega, by omega, fun _ => (by rw [show S13 1072 3 = v6 by omega]; exact zt_set1 (b := Int32.ofInt 128) (by decide) (by decide) (by assumption)), by omega⟩
  · refine zz_iconst zd_2_8_12 ?_
    exact zz_zret zd_2_8_13 rfl (by omega) (Nat.zero_le _) (Nat.zero_le _) ⟨_, _, rfl, G_S0, F_S0, by omega, by omega, fun h => absurd h (by decide), by omega⟩
-- TensorForge$Assembler readNumber (I)Z
abbrev zr_readNumber_2_6_7 : Room := { frames := 2, cells := 0, slots := 0, locals := 30 }
def zp_readNumber_2_6_7  (S0 : zz_S) : Int → zz_S → Prop := fun r S => zz_G S ∧ zz_fr [(1070, 3), (1070, 4), (1070, 5), (1070, 6), (1072, 2), (1072, 3)] [] (fun _ _ => False) S0 S ∧ (0 ≤ r ∧ r ≤ 1) ∧ ((r = 1 ∧ zt_tk (S0 1071) (S0 1070 2) (S0 1070 3) = 100 ∧ zt_tv (S0 1071) (S0 1070 2) (S0 1070 3) ≤ 31 ∧ zt_bi (S0 1072 3) 7 = 0 ∧ S 1070 3 = zt_te (S0 1071) (S0 1070 2) (S0 1070 3) ∧ S0 1070 3 < S 1070 3) ∨ (r = 0 ∧ (zt_tk (S0 1071) (S0 1070 2) (S0 1070 3) ≠ 100 ∨ 31 < zt_tv (S0 1071) (S0 1070 2) (S0 1070 3) ∨ zt_bi (S0 1072 3) 7 = 1))) ∧ (r = 1 → zt_set (S0 1072 3) 7 (S 1072 3)) ∧ (S0 1070 3 ≤ S 1070 3) ∧ (S0 1070 3 ≤ S0 1070 2 → S 1070 3 ≤ S0 1070 2)
theorem zc_readNumber_2_6_7 {g : mm_G} {l : Launch}  (S0 : zz_S) (n : Nat) (hn : zz_end ≤ n) (G_S0 : zz_G S0)  : mm_Met g l zy_readNumber_2_6 zr_readNumber_2_6_7 [.ref 1072, zi 7] (zz_M S0 n) n (zz_QI n (zp_readNumber_2_6_7  S0)) := by
  refine zz_enter (by decide) (Nat.le_of_ble_eq_true rfl) (zz_less (ls1 := [some (.ref 1072), some (zi 7)]) ⟨rfl, ⟨rfl, trivial⟩⟩ ?_)
  have F_S0 : zz_fr [(1070, 3), (1070, 4), (1070, 5), (1070, 6), (1072, 2), (1072, 3)] [] (fun _ _ => False) S0 S0 := zz_fr.refl
  refine zz_aload_n (x := 1072) rfl zd_2_6_0 ?_
  refine zz_getr (kd := 0) (z := 1070) zd_2_6_1 zf_Assembler_9 zT_1072 rfl (zz_ltn hn rfl) (zz_G.eq G_S0 1072 0 1070 rfl rfl) (by decide) 1070 rfl ?_
  have g1 := zz_G.r G_S0 1070 2 (-1) 1500 rfl rfl
  have g2 := zz_G.r G_S0 1070 3 0 1500 rfl rfl
  refine zz_callVI [] zd_2_6_4 zk_Assembler_94 zT_1070 (zz_ltn hn rfl) rfl rfl ⟨Nat.le_of_ble_eq_true rfl, Nat.le_of_ble_eq_true rfl⟩ ⟨rfl, rfl⟩ (Nat.zero_le _) (Nat.zero_le _) (zc_nextIsNumber_11_11  S0 n hn G_S0 ) (fun v4 S3 hP => ?_)
  obtain ⟨G_S3, fS3, o5, o6, o7, o8, o9, o10, o11, o12, o13, o14, o15⟩ := hP
  have F_S3 := zz_fr.trans F_S0 fS3 rfl zz_nv
  rcases (by omega : v4 = 0 ∨ v4 = 1) with rfl | rfl
  · refine zz_if_eq (by omega) zd_2_6_7 (fun c16 => ?_) (fun c16 => ?_)
    · refine zz_iconst zd_2_6_43 ?_
      have g17 := zz_G.r G_S3 1070 3 0 1500 rfl rfl
      have g18 := zz_G.r G_S0 1072 3 (-2147483648) 2147483647 rfl rfl
      have e19 : S3 1072 3 = S0 1072 3 := (zz_rc fS3 rfl rfl (fun h => h) rfl)
      exact zz_zret zd_2_6_44 rfl (by omega) (Nat.zero_le _) (Nat.zero_le _) ⟨_, _, rfl, G_S3, F_S3, by omega, by omega, fun h => absurd h (by decide), by omega, by omega⟩
    · exfalso; omega
  · refine zz_if_eq (by omega) zd_2_6_7 (fun c20 => ?_) (fun c20 => ?_)
    · exfalso; omega
    · refine zz_aload_n (x := 1072) rfl zd_2_6_10 ?_
      refine zz_getr (kd := 0) (z := 1070) zd_2_6_11 zf_Assembler_9 zT_1072 rfl (zz_ltn hn rfl) (zz_G.eq G_S3 1072 0 1070 rfl rfl) (by decide) 1070 rfl ?_
      have g21 := zz_G.r G_S3 1070 6 (-2147483648) 2147483647 rfl rfl
      refine zz_geti (z := S3 1070 6) zd_2_6_14 zf_Assembler_97 zT_1070 rfl (zz_ltn hn rfl) rfl ?_
      refine zz_iload_n (x := 7) rfl zd_2_6_17 ?_
      refine zz_callSI [zi 7] zd_2_6_18 zk_Assembler_100 rfl rfl ⟨Nat.le_of_ble_eq_true rfl, Nat.le_of_ble_eq_true rfl⟩ ⟨rfl, rfl⟩ (Nat.zero_le _) (Nat.zero_le _) (zc_most_12_7x_7  S3 n hn G_S3 ) (fun v23 S22 hP => ?_)
      obtain ⟨rfl, o24⟩ := hP
      refine zz_icmp_gt (by omega) (by omega) zd_2_6_21 (fun c25 => ?_) (fun c25 => ?_)
      · refine zz_iconst zd_2_6_43 ?_
        have g26 := zz_G.r G_S3 1070 3 0 1500 rfl rfl
        have g27 := zz_G.r G_S0 1072 3 (-2147483648) 2147483647 rfl rfl
        have e28 : S3 1072 3 = S0 1072 3 := (zz_rc fS3 rfl rfl (fun h => h) rfl)
        exact zz_zret zd_2_6_44 rfl (by omega) (Nat.zero_le _) (Nat.zero_le _) ⟨_, _, rfl, G_S3, F_S3, by omega, by omega, fun h => absurd h (by decide), by omega, by omega⟩
      · refine zz_aload_n (x := 1072) rfl zd_2_6_24 ?_
        refine zz_iload_n (x := 7) rfl zd_2_6_25 ?_
        refine zz_aload_n (x := 1072) rfl zd_2_6_26 ?_
        refine zz_getr (kd := 0) (z := 1070) zd_2_6_27 zf_Assembler_9 zT_1072 rfl (zz_ltn hn rfl) (zz_G.eq G_S3 1072 0 1070 rfl rfl) (by decide) 1070 rfl ?_
        refine zz_geti (z := S3 1070 6) zd_2_6_30 zf_Assembler_97 zT_1070 rfl (zz_ltn hn rfl) rfl ?_
        have g29 := zz_G.r G_S0 1072 3 (-2147483648) 2147483647 rfl rfl
        have e30 : S3 1072 3 = S0 1072 3 := (zz_rc fS3 rfl rfl (fun h => h) rfl)
        refine zz_callVI [zi 7, zi (S3 1070 6)] zd_2_6_33 zk_Assembler_104 zT_1072 (zz_ltn hn rfl) rfl rfl ⟨Nat.le_of_ble_eq_true rfl, Nat.le_of_ble_eq_true rfl⟩ ⟨rfl, rfl⟩ (Nat.zero_le _) (Nat.zero_le _) (zc_setOnce_2_8_7 (S3 1070 6) S3 n hn G_S3 (by omega)) (fun v32 S31 hP => ?_)
        obtain ⟨G_S31, fS31, o33, o34, o35, o36⟩ := hP
        rw [show S3 1072 3 = S0 1072 3 from (zz_rc fS3 rfl rfl (fun h => h) rfl)] at o34
        rw [show S3 1072 3 = S0 1072 3 from (zz_rc fS3 rfl rfl (fun h => h) rfl)] at o35
        rw [show S3 1072 3 = S0 1072 3 from (zz_rc fS3 rfl rfl (fun h => h) rfl)] at o36
        have F_S31 := zz_fr.trans F_S3 fS31 rfl zz_nv
        rcases (by omega : v32 = 0 ∨ v32 = 1) with rfl | rfl
        · refine zz_if_eq (by omega) zd_2_6_36 (fun c37 => ?_) (fun c37 => ?_)
          · refine zz_iconst zd_2_6_43 ?_
            have g38 := zz_G.r G_S3 1070 3 0 1500 rfl rfl
            have e39 : S31 1070 3 = S3 1070 3 := (zz_rc fS31 rfl rfl (fun h => h) rfl)
            have g40 := zz_G.r G_S31 1072 3 (-2147483648) 2147483647 rfl rfl
            exact zz_zret zd_2_6_44 rfl (by omega) (Nat.zero_le _) (Nat.zero_le _) ⟨_, _, rfl, G_S31, F_S31, by omega, by omega, fun h => absurd h (by decide), by omega, by omega⟩
          · exfalso; omega
        · refine zz_if_eq (by omega) zd_2_6_36 (fun c41 => ?_) (fun c41 => ?_)
          · exfalso; omega
          · refine zz_iconst zd_2_6_39 ?_
            refine zz_goto zd_2_6_40 ?_
            have g42 := zz_G.r G_S3 1070 3 0 1500 rfl rfl
            have e43 : S31 1070 3 = S3 1070 3 := (zz_rc fS31 rfl rfl (fun h => h) rfl)
            have g44 := zz_G.r G_S31 1072 3 (-2147483648) 2147483647 rfl rfl
            exact zz_zret zd_2_6_44 rfl (by omega) (Nat.zero_le _) (Nat.zero_le _) ⟨_, _, rfl, G_S31, F_S31, by omega, by omega, fun _ => o35 rfl, by omega, by omega⟩
theorem zg_2_5_57 : zq_at zy_readPart_2_5.2.1 57 153 ∧ zq_at zy_readPart_2_5.2.1 58 0 ∧ zq_at zy_readPart_2_5.2.1 59 7 ∧ zq_at zy_readPart_2_5.2.1 60 4 ∧ zq_at zy_readPart_2_5.2.1 61 167 ∧ zq_at zy_readPart_2_5.2.1 62 0 ∧ zq_at zy_readPart_2_5.2.1 63 4 ∧ zq_at zy_readPart_2_5.2.1 12 42 ∧ zq_at zy_readPart_2_5.2.1 13 8 ∧ zq_at zy_readPart_2_5.2.1 14 182 ∧ zq_at zy_readPart_2_5.2.1 15 0 ∧ zq_at zy_readPart_2_5.2.1 16 67 := by decide +kernel
theorem zd_2_5_57 : zz_B zy_readPart_2_5 57 (Instr.ifCond .eq) 64 60 := ⟨7, zq_153 zg_2_5_57.1 zg_2_5_57.2.1 zg_2_5_57.2.2.1 (by decide), rfl, rfl⟩
theorem zd_2_5_60 : zz_D zy_readPart_2_5 60 (.iconst 1) 1 61 := ⟨zq_4 zg_2_5_57.2.2.2.1, rfl⟩
theorem zd_2_5_61 : zz_B zy_readPart_2_5 61 Instr.goto 65 64 := ⟨4, zq_167 zg_2_5_57.2.2.2.2.1 zg_2_5_57.2.2.2.2.2.1 zg_2_5_57.2.2.2.2.2.2.1 (by decide), rfl, rfl⟩
theorem zd_2_5_12 : zz_D zy_readPart_2_5 12 (.aload_n 0) 1 13 := ⟨zq_42 zg_2_5_57.2.2.2.2.2.2.2.1, rfl⟩
theorem zd_2_5_13 : zz_D zy_readPart_2_5 13 (.iconst 5) 1 14 := ⟨zq_8 zg_2_5_57.2.2.2.2.2.2.2.2.1, rfl⟩
theorem zd_2_5_14 : zz_D zy_readPart_2_5 14 (.invokevirtual 67) 3 17 := ⟨zq_182 zg_2_5_57.2.2.2.2.2.2.2.2.2.1 zg_2_5_57.2.2.2.2.2.2.2.2.2.2.1 zg_2_5_57.2.2.2.2.2.2.2.2.2.2.2 rfl, rfl⟩
-- TensorForge$Words most (I)I
abbrev zr_most_12_7x_5 : Room := { frames := 0, cells := 0, slots := 0, locals := 0 }
def zp_most_12_7x_5  (S0 : zz_S) : Int → zz_S → Prop := fun r S => S0 = S ∧ (4095 ≤ r ∧ r ≤ 4095)
theorem zc_most_12_7x_5 {g : mm_G} {l : Launch}  (S0 : zz_S) (n : Nat) (hn : zz_end ≤ n) (G_S0 : zz_G S0)  : mm_Met g l zy_most_12_7 zr_most_12_7x_5 [zi 5] (zz_M S0 n) n (zz_QI n (zp_most_12_7x_5  S0)) := by
  refine zz_enter (by decide) (Nat.le_of_ble_eq_true rfl) (zz_less (ls1 := [some (zi 5)]) ⟨rfl, trivial⟩ ?_)
  refine zz_iload_n (x := 5) rfl zd_12_7_0 ?_
  refine zz_if_lt (by omega) zd_12_7_1 (fun c1 => ?_) (fun c1 => ?_)
  · exfalso; omega
  · refine zz_iload_n (x := 5) rfl zd_12_7_4 ?_
    refine zz_bipush (by decide) zd_12_7_5 ?_
    refine zz_icmp_lt (by omega) (by omega) zd_12_7_7 (fun c2 => ?_) (fun c2 => ?_)
    · refine zz_gets (q0 := 2) zd_12_7_14 rfl (by decide) zs_Words_13 ?_
      refine zz_iload_n (x := 5) rfl zd_12_7_17 ?_
      refine zz_tiald 4095 zd_12_7_18 rfl (by decide) rfl (by decide) (by decide) rfl ?_
      exact zz_iret zd_12_7_19 rfl (Nat.zero_le _) (Nat.zero_le _) ⟨_, _, rfl, rfl, by omega⟩
    · exfalso; omega
-- TensorForge$Assembler setOnce (II)Z
abbrev zr_setOnce_2_8_5 : Room := { frames := 1, cells := 0, slots := 0, locals := 16 }
def zp_setOnce_2_8_5 (p1 : Int) (S0 : zz_S) : Int → zz_S → Prop := fun r S => zz_G S ∧ zz_fr [(1072, 2), (1072, 3)] [] (fun _ _ => False) S0 S ∧ (0 ≤ r ∧ r ≤ 1) ∧ ((r = 1 ∧ zt_bi (S0 1072 3) 5 = 0) ∨ (r = 0 ∧ zt_bi (S0 1072 3) 5 = 1)) ∧ (r = 1 → zt_set (S0 1072 3) 5 (S 1072 3)) ∧ (r = 0 → S 1072 3 = S0 1072 3)
theorem zc_setOnce_2_8_5 {g : mm_G} {l : Launch} (p1 : Int) (S0 : zz_S) (n : Nat) (hn : zz_end ≤ n) (G_S0 : zz_G S0) (hp1 : (-2147483648) ≤ p1 ∧ p1 ≤ 2147483647) : mm_Met g l zy_setOnce_2_8 zr_setOnce_2_8_5 [.ref 1072, zi 5, zi p1] (zz_M S0 n) n (zz_QI n (zp_setOnce_2_8_5 p1 S0)) := by
  refine zz_enter (by decide) (Nat.le_of_ble_eq_true rfl) (zz_less (ls1 := [some (.ref 1072), some (zi 5), some (zi p1)]) ⟨rfl, ⟨rfl, ⟨rfl, trivial⟩⟩⟩ ?_)
  have F_S0 : zz_fr [(1072, 2), (1072, 3)] [] (fun _ _ => False) S0 S0 := zz_fr.refl
  refine zz_aload_n (x := 1072) rfl zd_2_8_0 ?_
  have g1 := zz_G.r G_S0 1072 3 (-2147483648) 2147483647 rfl rfl
  refine zz_geti (z := S0 1072 3) zd_2_8_1 zf_Assembler_23 zT_1072 rfl (zz_ltn hn rfl) rfl ?_
  refine zz_iload_n (x := 5) rfl zd_2_8_4 ?_
  refine zz_ishr zd_2_8_5 (fun v2 hv2 ev2 => ?_)
  refine zz_iconst zd_2_8_6 ?_
  refine zz_iand (by omega) (by omega) zd_2_8_7 (fun v3 hv3 av3 bv3 ev3 => ?_)
  have hb9 := zt_shb (s := S0 1072 3) (w := 5) (x := 5) (by decide) (by decide) (by assumption) (by assumption)
  refine zz_iconst zd_2_8_8 ?_
  refine zz_icmp_ne (by omega) (by omega) zd_2_8_9 (fun c4 => ?_) (fun c4 => ?_)
  · refine zz_aload_n (x := 1072) rfl zd_2_8_14 ?_
    refine zz_dup rfl zd_2_8_15 ?_
    refine zz_geti (z := S0 1072 3) zd_2_8_16 zf_Assembler_23 zT_1072 rfl (zz_ltn hn rfl) rfl ?_
    refine zz_iconst zd_2_8_19 ?_
    refine zz_iload_n (x := 5) rfl zd_2_8_20 ?_
    refine zz_ishl zd_2_8_21 (fun v5 hv5 ev5 => ?_)
    obtain rfl : v5 = 32 := ev5.trans (by decide)
    refine zz_ior (by omega) (by omega) zd_2_8_22 (fun v6 hv6 av6 ev6 => ?_)
    skip
    refine zz_puti zd_2_8_23 zf_Assembler_23 zT_1072 rfl (zz_ltn hn rfl) (fun S7 qS7 => ?_)
    have G_S7 := zz_G.put G_S0 qS7 (-2147483648) 2147483647 rfl (by omega)
    have F_S7 := zz_fr.puts F_S0 qS7 rfl
    refine zz_aload_n (x := 1072) rfl zd_2_8_26 ?_
    refine zz_dup rfl zd_2_8_27 ?_
    have g8 := zz_G.r G_S0 1072 2 (-9223372036854775808) 9223372036854775807 rfl rfl
    refine zz_getl (z := S0 1072 2) zd_2_8_28 zf_Assembler_19 zT_1072 rfl (zz_ltn hn rfl) (zz_ro qS7 (fun h => absurd h.2 (by decide)) rfl) ?_
    refine zz_iload_n (x := 5) rfl zd_2_8_31 ?_
    refine zz_iload_n (x := p1) rfl zd_2_8_32 ?_
    refine zz_callSJ [zi 5, zi p1] zd_2_8_33 zk_Assembler_50 rfl rfl ⟨Nat.le_of_ble_eq_true rfl, Nat.le_of_ble_eq_true rfl⟩ ⟨rfl, rfl⟩ (Nat.zero_le _) (Nat.zero_le _) (zc_bits_12_4 5 p1 S7 n hn G_S7 (by omega) (by omega)) (fun v10 S9 hP => ?_)
    obtain ⟨rfl, o11⟩ := hP
    refine zz_lor zd_2_8_36 (fun v12 hv12 ev12 => ?_)
    refine zz_putl zd_2_8_37 zf_Assembler_19 zT_1072 rfl (zz_ltn hn rfl) (fun S13 qS13 => ?_)
    have G_S13 := zz_G.put G_S7 qS13 (-9223372036854775808) 9223372036854775807 rfl (by omega)
    have F_S13 := zz_fr.puts F_S7 qS13 rfl
    refine zz_iconst zd_2_8_40 ?_
    have e14 : S13 1072 3 = v6 := (zz_ro qS13 (fun h => absurd h.2 (by decide)) (zz_rs qS7))
    exact zz_zret zd_2_8_41 rfl (by omega) (Nat.zero_le _) (Nat.zero_le _) ⟨_, _, rfl, G_S13, F_S13, by omega, by omega, fun _ => (by rw [show S13 1072 3 = v6 by omega]; exact zt_set1 (b := Int32.ofInt 32) (by decide) (by decide) (by assumption)), by omega⟩
  · refine zz_iconst zd_2_8_12 ?_
    exact zz_zret zd_2_8_13 rfl (by omega) (Nat.zero_le _) (Nat.zero_le _) ⟨_, _, rfl, G_S0, F_S0, by omega, by omega, fun h => absurd h (by decide), by omega⟩
-- TensorForge$Assembler readNumber (I)Z
abbrev zr_readNumber_2_6_5 : Room := { frames := 2, cells := 0, slots := 0, locals := 30 }
def zp_readNumber_2_6_5  (S0 : zz_S) : Int → zz_S → Prop := fun r S => zz_G S ∧ zz_fr [(1070, 3), (1070, 4), (1070, 5), (1070, 6), (1072, 2), (1072, 3)] [] (fun _ _ => False) S0 S ∧ (0 ≤ r ∧ r ≤ 1) ∧ ((r = 1 ∧ zt_tk (S0 1071) (S0 1070 2) (S0 1070 3) = 100 ∧ zt_tv (S0 1071) (S0 1070 2) (S0 1070 3) ≤ 4095 ∧ zt_bi (S0 1072 3) 5 = 0 ∧ S 1070 3 = zt_te (S0 1071) (S0 1070 2) (S0 1070 3) ∧ S0 1070 3 < S 1070 3) ∨ (r = 0 ∧ (zt_tk (S0 1071) (S0 1070 2) (S0 1070 3) ≠ 100 ∨ 4095 < zt_tv (S0 1071) (S0 1070 2) (S0 1070 3) ∨ zt_bi (S0 1072 3) 5 = 1))) ∧ (r = 1 → zt_set (S0 1072 3) 5 (S 1072 3)) ∧ (S0 1070 3 ≤ S 1070 3) ∧ (S0 1070 3 ≤ S0 1070 2 → S 1070 3 ≤ S0 1070 2)
theorem zc_readNumber_2_6_5 {g : mm_G} {l : Launch}  (S0 : zz_S) (n : Nat) (hn : zz_end ≤ n) (G_S0 : zz_G S0)  : mm_Met g l zy_readNumber_2_6 zr_readNumber_2_6_5 [.ref 1072, zi 5] (zz_M S0 n) n (zz_QI n (zp_readNumber_2_6_5  S0)) := by
  refine zz_enter (by decide) (Nat.le_of_ble_eq_true rfl) (zz_less (ls1 := [some (.ref 1072), some (zi 5)]) ⟨rfl, ⟨rfl, trivial⟩⟩ ?_)
  have F_S0 : zz_fr [(1070, 3), (1070, 4), (1070, 5), (1070, 6), (1072, 2), (1072, 3)] [] (fun _ _ => False) S0 S0 := zz_fr.refl
  refine zz_aload_n (x := 1072) rfl zd_2_6_0 ?_
  refine zz_getr (kd := 0) (z := 1070) zd_2_6_1 zf_Assembler_9 zT_1072 rfl (zz_ltn hn rfl) (zz_G.eq G_S0 1072 0 1070 rfl rfl) (by decide) 1070 rfl ?_
  have g1 := zz_G.r G_S0 1070 2 (-1) 1500 rfl rfl
  have g2 := zz_G.r G_S0 1070 3 0 1500 rfl rfl
  refine zz_callVI [] zd_2_6_4 zk_Assembler_94 zT_1070 (zz_ltn hn rfl) rfl rfl ⟨Nat.le_of_ble_eq_true rfl, Nat.le_of_ble_eq_true rfl⟩ ⟨rfl, rfl⟩ (Nat.zero_le _) (Nat.zero_le _) (zc_nextIsNumber_11_11  S0 n hn G_S0 ) (fun v4 S3 hP => ?_)
  obtain ⟨G_S3, fS3, o5, o6, o7, o8, o9, o10, o11, o12, o13, o14, o15⟩ := hP
  have F_S3 := zz_fr.trans F_S0 fS3 rfl zz_nv
  rcases (by omega : v4 = 0 ∨ v4 = 1) with rfl | rfl
  · refine zz_if_eq (by omega) zd_2_6_7 (fun c16 => ?_) (fun c16 => ?_)
    · refine zz_iconst zd_2_6_43 ?_
      have g17 := zz_G.r G_S3 1070 3 0 1500 rfl rfl
      have g18 := zz_G.r G_S0 1072 3 (-2147483648) 2147483647 rfl rfl
      have e19 : S3 1072 3 = S0 1072 3 := (zz_rc fS3 rfl rfl (fun h => h) rfl)
      exact zz_zret zd_2_6_44 rfl (by omega) (Nat.zero_le _) (Nat.zero_le _) ⟨_, _, rfl, G_S3, F_S3, by omega, by omega, fun h => absurd h (by decide), by omega, by omega⟩
    · exfalso; omega
  · refine zz_if_eq (by omega) zd_2_6_7 (fun c20 => ?_) (fun c20 => ?_)
    · exfalso; omega
    · refine zz_aload_n (x := 1072) rfl zd_2_6_10 ?_
      refine zz_getr (kd := 0) (z := 1070) zd_2_6_11 zf_Assembler_9 zT_1072 rfl (zz_ltn hn rfl) (zz_G.eq G_S3 1072 0 1070 rfl rfl) (by decide) 1070 rfl ?_
      have g21 := zz_G.r G_S3 1070 6 (-2147483648) 2147483647 rfl rfl
      refine zz_geti (z := S3 1070 6) zd_2_6_14 zf_Assembler_97 zT_1070 rfl (zz_ltn hn rfl) rfl ?_
      refine zz_iload_n (x := 5) rfl zd_2_6_17 ?_
      refine zz_callSI [zi 5] zd_2_6_18 zk_Assembler_100 rfl rfl ⟨Nat.le_of_ble_eq_true rfl, Nat.le_of_ble_eq_true rfl⟩ ⟨rfl, rfl⟩ (Nat.zero_le _) (Nat.zero_le _) (zc_most_12_7x_5  S3 n hn G_S3 ) (fun v23 S22 hP => ?_)
      obtain ⟨rfl, o24⟩ := hP
      refine zz_icmp_gt (by omega) (by omega) zd_2_6_21 (fun c25 => ?_) (fun c25 => ?_)
      · refine zz_iconst zd_2_6_43 ?_
        have g26 := zz_G.r G_S3 1070 3 0 1500 rfl rfl
        have g27 := zz_G.r G_S0 1072 3 (-2147483648) 2147483647 rfl rfl
        have e28 : S3 1072 3 = S0 1072 3 := (zz_rc fS3 rfl rfl (fun h => h) rfl)
        exact zz_zret zd_2_6_44 rfl (by omega) (Nat.zero_le _) (Nat.zero_le _) ⟨_, _, rfl, G_S3, F_S3, by omega, by omega, fun h => absurd h (by decide), by omega, by omega⟩
      · refine zz_aload_n (x := 1072) rfl zd_2_6_24 ?_
        refine zz_iload_n (x := 5) rfl zd_2_6_25 ?_
        refine zz_aload_n (x := 1072) rfl zd_2_6_26 ?_
        refine zz_getr (kd := 0) (z := 1070) zd_2_6_27 zf_Assembler_9 zT_1072 rfl (zz_ltn hn rfl) (zz_G.eq G_S3 1072 0 1070 rfl rfl) (by decide) 1070 rfl ?_
        refine zz_geti (z := S3 1070 6) zd_2_6_30 zf_Assembler_97 zT_1070 rfl (zz_ltn hn rfl) rfl ?_
        have g29 := zz_G.r G_S0 1072 3 (-2147483648) 2147483647 rfl rfl
        have e30 : S3 1072 3 = S0 1072 3 := (zz_rc fS3 rfl rfl (fun h => h) rfl)
        refine zz_callVI [zi 5, zi (S3 1070 6)] zd_2_6_33 zk_Assembler_104 zT_1072 (zz_ltn hn rfl) rfl rfl ⟨Nat.le_of_ble_eq_true rfl, Nat.le_of_ble_eq_true rfl⟩ ⟨rfl, rfl⟩ (Nat.zero_le _) (Nat.zero_le _) (zc_setOnce_2_8_5 (S3 1070 6) S3 n hn G_S3 (by omega)) (fun v32 S31 hP => ?_)
        obtain ⟨G_S31, fS31, o33, o34, o35, o36⟩ := hP
        rw [show S3 1072 3 = S0 1072 3 from (zz_rc fS3 rfl rfl (fun h => h) rfl)] at o34
        rw [show S3 1072 3 = S0 1072 3 from (zz_rc fS3 rfl rfl (fun h => h) rfl)] at o35
        rw [show S3 1072 3 = S0 1072 3 from (zz_rc fS3 rfl rfl (fun h => h) rfl)] at o36
        have F_S31 := zz_fr.trans F_S3 fS31 rfl zz_nv
        rcases (by omega : v32 = 0 ∨ v32 = 1) with rfl | rfl
        · refine zz_if_eq (by omega) zd_2_6_36 (fun c37 => ?_) (fun c37 => ?_)
          · refine zz_iconst zd_2_6_43 ?_
            have g38 := zz_G.r G_S3 1070 3 0 1500 rfl rfl
            have e39 : S31 1070 3 = S3 1070 3 := (zz_rc fS31 rfl rfl (fun h => h) rfl)
            have g40 := zz_G.r G_S31 1072 3 (-2147483648) 2147483647 rfl rfl
            exact zz_zret zd_2_6_44 rfl (by omega) (Nat.zero_le _) (Nat.zero_le _) ⟨_, _, rfl, G_S31, F_S31, by omega, by omega, fun h => absurd h (by decide), by omega, by omega⟩
          · exfalso; omega
        · refine zz_if_eq (by omega) zd_2_6_36 (fun c41 => ?_) (fun c41 => ?_)
          · exfalso; omega
          · refine zz_iconst zd_2_6_39 ?_
            refine zz_goto zd_2_6_40 ?_
            have g42 := zz_G.r G_S3 1070 3 0 1500 rfl rfl
            have e43 : S31 1070 3 = S3 1070 3 := (zz_rc fS31 rfl rfl (fun h => h) rfl)
            have g44 := zz_G.r G_S31 1072 3 (-2147483648) 2147483647 rfl rfl
            exact zz_zret zd_2_6_44 rfl (by omega) (Nat.zero_le _) (Nat.zero_le _) ⟨_, _, rfl, G_S31, F_S31, by omega, by omega, fun _ => o35 rfl, by omega, by omega⟩
theorem zg_2_5_17 : zq_at zy_readPart_2_5.2.1 17 172 := by decide +kernel
theorem zd_2_5_17 : zz_D zy_readPart_2_5 17 (.ireturn) 1 18 := ⟨zq_172 zg_2_5_17, rfl⟩
-- TensorForge$Assembler readPart ()Z
abbrev zr_readPart_2_5 : Room := { frames := 7, cells := 0, slots := 0, locals := 95 }
def zp_readPart_2_5  (S0 : zz_S) : Int → zz_S → Prop := fun r S => zz_G S ∧ zz_fr [(1070, 3), (1070, 4), (1070, 5), (1070, 6), (1072, 2), (1072, 3)] [] (fun _ _ => False) S0 S ∧ (0 ≤ r ∧ r ≤ 1) ∧ ((r = 1 ∧ zt_pw (zt_tk (S0 1071) (S0 1070 2)) (zt_te (S0 1071) (S0 1070 2)) (zt_tv (S0 1071) (S0 1070 2)) (zt_co (S0 1070 4) (zt_wl (S0 1071) (S0 1070 5) (S0 1070 3) 20)) (S0 1070 3) ≠ 0 ∧ zt_bi (S0 1072 3) (zt_pw (zt_tk (S0 1071) (S0 1070 2)) (zt_te (S0 1071) (S0 1070 2)) (zt_tv (S0 1071) (S0 1070 2)) (zt_co (S0 1070 4) (zt_wl (S0 1071) (S0 1070 5) (S0 1070 3) 20)) (S0 1070 3)).toNat = 0 ∧ S 1070 3 = zt_pe (zt_te (S0 1071) (S0 1070 2)) (zt_co (S0 1070 4) (zt_wl (S0 1071) (S0 1070 5) (S0 1070 3) 20)) (S0 1070 3) ∧ S0 1070 3 < S 1070 3) ∨ (r = 0 ∧ (zt_pw (zt_tk (S0 1071) (S0 1070 2)) (zt_te (S0 1071) (S0 1070 2)) (zt_tv (S0 1071) (S0 1070 2)) (zt_co (S0 1070 4) (zt_wl (S0 1071) (S0 1070 5) (S0 1070 3) 20)) (S0 1070 3) = 0 ∨ zt_bi (S0 1072 3) (zt_pw (zt_tk (S0 1071) (S0 1070 2)) (zt_te (S0 1071) (S0 1070 2)) (zt_tv (S0 1071) (S0 1070 2)) (zt_co (S0 1070 4) (zt_wl (S0 1071) (S0 1070 5) (S0 1070 3) 20)) (S0 1070 3)).toNat = 1))) ∧ (r = 1 → zt_up (S0 1072 3) (zt_pw (zt_tk (S0 1071) (S0 1070 2)) (zt_te (S0 1071) (S0 1070 2)) (zt_tv (S0 1071) (S0 1070 2)) (zt_co (S0 1070 4) (zt_wl (S0 1071) (S0 1070 5) (S0 1070 3) 20)) (S0 1070 3)) (S 1072 3)) ∧ (S0 1070 3 ≤ S 1070 3) ∧ (S0 1070 3 ≤ S0 1070 2 → S 1070 3 ≤ S0 1070 2)
set_option maxHeartbeats 4000000 in
theorem zc_readPart_2_5 {g : mm_G} {l : Launch}  (S0 : zz_S) (n : Nat) (hn : zz_end ≤ n) (G_S0 : zz_G S0) (hb : zt_bi (S0 1072 3) 7 = zt_bi (S0 1072 3) 6) : mm_Met g l zy_readPart_2_5 zr_readPart_2_5 [.ref 1072] (zz_M S0 n) n (zz_QI n (zp_readPart_2_5  S0)) := by
  refine zz_enter (by decide) (Nat.le_of_ble_eq_true rfl) (zz_less (ls1 := [some (.ref 1072)]) ⟨rfl, trivial⟩ ?_)
  have F_S0 : zz_fr [(1070, 3), (1070, 4), (1070, 5), (1070, 6), (1072, 2), (1072, 3)] [] (fun _ _ => False) S0 S0 := zz_fr.refl
  refine zz_aload_n (x := 1072) rfl zd_2_5_0 ?_
  refine zz_getr (kd := 0) (z := 1070) zd_2_5_1 zf_Assembler_9 zT_1072 rfl (zz_ltn hn rfl) (zz_G.eq G_S0 1072 0 1070 rfl rfl) (by decide) 1070 rfl ?_
  refine zz_ldcs (t := 10) (by decide +kernel) (by decide) zd_2_5_4 ?_
  have g1 := zz_G.r G_S0 1070 3 0 1500 rfl rfl
  have g2 := zz_G.r G_S0 1070 4 (-2147483648) 2147483647 rfl rfl
  have g3 := zz_G.r G_S0 1070 5 0 1500 rfl rfl
  refine zz_callVI [.ref (100 + 10)] zd_2_5_6 zk_Assembler_61 zT_1070 (zz_ltn hn rfl) rfl rfl ⟨Nat.le_of_ble_eq_true rfl, Nat.le_of_ble_eq_true rfl⟩ ⟨rfl, rfl⟩ (Nat.zero_le _) (Nat.zero_le _) (zc_isWord_11_9 10 S0 n hn G_S0 (by omega)) (fun v5 S4 hP => ?_)
  obtain ⟨rfl, o6, o7⟩ := hP
  rcases (by omega : v5 = 0 ∨ v5 = 1) with rfl | rfl
  · have hw10 : zt_nq (zt_co (S0 1070 4) (zt_wl (S0 1071) (S0 1070 5) (S0 1070 3) 20)) 10 := zt_ISN (t := 10) (w := 10) (by decide) rfl (by decide) o7
    refine zz_if_eq (by omega) zd_2_5_9 (fun c8 => ?_) (fun c8 => ?_)
    · refine zz_aload_n (x := 1072) rfl zd_2_5_18 ?_
      refine zz_getr (kd := 0) (z := 1070) zd_2_5_19 zf_Assembler_9 zT_1072 rfl (zz_ltn hn rfl) (zz_G.eq G_S0 1072 0 1070 rfl rfl) (by decide) 1070 rfl ?_
      refine zz_ldcs (t := 11) (by decide +kernel) (by decide) zd_2_5_22 ?_
      refine zz_callVI [.ref (100 + 11)] zd_2_5_24 zk_Assembler_61 zT_1070 (zz_ltn hn rfl) rfl rfl ⟨Nat.le_of_ble_eq_true rfl, Nat.le_of_ble_eq_true rfl⟩ ⟨rfl, rfl⟩ (Nat.zero_le _) (Nat.zero_le _) (zc_isWord_11_9 11 S0 n hn G_S0 (by omega)) (fun v10 S9 hP => ?_)
      obtain ⟨rfl, o11, o12⟩ := hP
      rcases (by omega : v10 = 0 ∨ v10 = 1) with rfl | rfl
      · have hw11 : zt_nq (zt_co (S0 1070 4) (zt_wl (S0 1071) (S0 1070 5) (S0 1070 3) 20)) 11 := zt_ISN (t := 11) (w := 11) (by decide) rfl (by decide) o12
        refine zz_if_eq (by omega) zd_2_5_27 (fun c13 => ?_) (fun c13 => ?_)
        · refine zz_aload_n (x := 1072) rfl zd_2_5_66 ?_
          refine zz_getr (kd := 0) (z := 1070) zd_2_5_67 zf_Assembler_9 zT_1072 rfl (zz_ltn hn rfl) (zz_G.eq G_S0 1072 0 1070 rfl rfl) (by decide) 1070 rfl ?_
          refine zz_ldcs (t := 13) (by decide +kernel) (by decide) zd_2_5_70 ?_
          refine zz_callVI [.ref (100 + 13)] zd_2_5_72 zk_Assembler_61 zT_1070 (zz_ltn hn rfl) rfl rfl ⟨Nat.le_of_ble_eq_true rfl, Nat.le_of_ble_eq_true rfl⟩ ⟨rfl, rfl⟩ (Nat.zero_le _) (Nat.zero_le _) (zc_isWord_11_9 13 S0 n hn G_S0 (by omega)) (fun v15 S14 hP => ?_)
          obtain ⟨rfl, o16, o17⟩ := hP
          rcases (by omega : v15 = 0 ∨ v15 = 1) with rfl | rfl
          · have hw13 : zt_nq (zt_co (S0 1070 4) (zt_wl (S0 1071) (S0 1070 5) (S0 1070 3) 20)) 13 := zt_ISN (t := 13) (w := 13) (by decide) rfl (by decide) o17
            refine zz_if_eq (by omega) zd_2_5_75 (fun c18 => ?_) (fun c18 => ?_)
            · refine zz_aload_n (x := 1072) rfl zd_2_5_85 ?_
              refine zz_getr (kd := 0) (z := 1070) zd_2_5_86 zf_Assembler_9 zT_1072 rfl (zz_ltn hn rfl) (zz_G.eq G_S0 1072 0 1070 rfl rfl) (by decide) 1070 rfl ?_
              refine zz_ldcs (t := 14) (by decide +kernel) (by decide) zd_2_5_89 ?_
              refine zz_callVI [.ref (100 + 14)] zd_2_5_91 zk_Assembler_61 zT_1070 (zz_ltn hn rfl) rfl rfl ⟨Nat.le_of_ble_eq_true rfl, Nat.le_of_ble_eq_true rfl⟩ ⟨rfl, rfl⟩ (Nat.zero_le _) (Nat.zero_le _) (zc_isWord_11_9 14 S0 n hn G_S0 (by omega)) (fun v20 S19 hP => ?_)
              obtain ⟨rfl, o21, o22⟩ := hP
              rcases (by omega : v20 = 0 ∨ v20 = 1) with rfl | rfl
              · have hw14 : zt_nq (zt_co (S0 1070 4) (zt_wl (S0 1071) (S0 1070 5) (S0 1070 3) 20)) 14 := zt_ISN (t := 14) (w := 14) (by decide) rfl (by decide) o22
                refine zz_if_eq (by omega) zd_2_5_94 (fun c23 => ?_) (fun c23 => ?_)
                · refine zz_aload_n (x := 1072) rfl zd_2_5_104 ?_
                  refine zz_getr (kd := 0) (z := 1070) zd_2_5_105 zf_Assembler_9 zT_1072 rfl (zz_ltn hn rfl) (zz_G.eq G_S0 1072 0 1070 rfl rfl) (by decide) 1070 rfl ?_
                  refine zz_ldcs (t := 15) (by decide +kernel) (by decide) zd_2_5_108 ?_
                  refine zz_callVI [.ref (100 + 15)] zd_2_5_110 zk_Assembler_61 zT_1070 (zz_ltn hn rfl) rfl rfl ⟨Nat.le_of_ble_eq_true rfl, Nat.le_of_ble_eq_true rfl⟩ ⟨rfl, rfl⟩ (Nat.zero_le _) (Nat.zero_le _) (zc_isWord_11_9 15 S0 n hn G_S0 (by omega)) (fun v25 S24 hP => ?_)
                  obtain ⟨rfl, o26, o27⟩ := hP
                  rcases (by omega : v25 = 0 ∨ v25 = 1) with rfl | rfl
                  · have hw15 : zt_nq (zt_co (S0 1070 4) (zt_wl (S0 1071) (S0 1070 5) (S0 1070 3) 20)) 15 := zt_ISN (t := 15) (w := 15) (by decide) rfl (by decide) o27
                    refine zz_if_eq (by omega) zd_2_5_113 (fun c28 => ?_) (fun c28 => ?_)
                    · refine zz_aload_n (x := 1072) rfl zd_2_5_123 ?_
                      refine zz_getr (kd := 0) (z := 1070) zd_2_5_124 zf_Assembler_9 zT_1072 rfl (zz_ltn hn rfl) (zz_G.eq G_S0 1072 0 1070 rfl rfl) (by decide) 1070 rfl ?_
                      refine zz_ldcs (t := 16) (by decide +kernel) (by decide) zd_2_5_127 ?_
                      refine zz_callVI [.ref (100 + 16)] zd_2_5_129 zk_Assembler_61 zT_1070 (zz_ltn hn rfl) rfl rfl ⟨Nat.le_of_ble_eq_true rfl, Nat.le_of_ble_eq_true rfl⟩ ⟨rfl, rfl⟩ (Nat.zero_le _) (Nat.zero_le _) (zc_isWord_11_9 16 S0 n hn G_S0 (by omega)) (fun v30 S29 hP => ?_)
                      obtain ⟨rfl, o31, o32⟩ := hP
                      rcases (by omega : v30 = 0 ∨ v30 = 1) with rfl | rfl
                      · have hw16 : zt_nq (zt_co (S0 1070 4) (zt_wl (S0 1071) (S0 1070 5) (S0 1070 3) 20)) 16 := zt_ISN (t := 16) (w := 16) (by decide) rfl (by decide) o32
                        refine zz_if_eq (by omega) zd_2_5_132 (fun c33 => ?_) (fun c33 => ?_)
                        · refine zz_aload_n (x := 1072) rfl zd_2_5_142 ?_
                          refine zz_getr (kd := 0) (z := 1070) zd_2_5_143 zf_Assembler_9 zT_1072 rfl (zz_ltn hn rfl) (zz_G.eq G_S0 1072 0 1070 rfl rfl) (by decide) 1070 rfl ?_
                          refine zz_ldcs (t := 17) (by decide +kernel) (by decide) zd_2_5_146 ?_
                          refine zz_callVI [.ref (100 + 17)] zd_2_5_148 zk_Assembler_61 zT_1070 (zz_ltn hn rfl) rfl rfl ⟨Nat.le_of_ble_eq_true rfl, Nat.le_of_ble_eq_true rfl⟩ ⟨rfl, rfl⟩ (Nat.zero_le _) (Nat.zero_le _) (zc_isWord_11_9 17 S0 n hn G_S0 (by omega)) (fun v35 S34 hP => ?_)
                          obtain ⟨rfl, o36, o37⟩ := hP
                          rcases (by omega : v35 = 0 ∨ v35 = 1) with rfl | rfl
                          · have hw17 : zt_nq (zt_co (S0 1070 4) (zt_wl (S0 1071) (S0 1070 5) (S0 1070 3) 20)) 17 := zt_ISN (t := 17) (w := 17) (by decide) rfl (by decide) o37
                            refine zz_if_eq (by omega) zd_2_5_151 (fun c38 => ?_) (fun c38 => ?_)
                            · refine zz_aload_n (x := 1072) rfl zd_2_5_161 ?_
                              refine zz_getr (kd := 0) (z := 1070) zd_2_5_162 zf_Assembler_9 zT_1072 rfl (zz_ltn hn rfl) (zz_G.eq G_S0 1072 0 1070 rfl rfl) (by decide) 1070 rfl ?_
                              refine zz_ldcs (t := 20) (by decide +kernel) (by decide) zd_2_5_165 ?_
                              refine zz_callVI [.ref (100 + 20)] zd_2_5_167 zk_Assembler_61 zT_1070 (zz_ltn hn rfl) rfl rfl ⟨Nat.le_of_ble_eq_true rfl, Nat.le_of_ble_eq_true rfl⟩ ⟨rfl, rfl⟩ (Nat.zero_le _) (Nat.zero_le _) (zc_isWord_11_9 20 S0 n hn G_S0 (by omega)) (fun v40 S39 hP => ?_)
                              obtain ⟨rfl, o41, o42⟩ := hP
                              rcases (by omega : v40 = 0 ∨ v40 = 1) with rfl | rfl
                              · have hw20 : zt_nq (zt_co (S0 1070 4) (zt_wl (S0 1071) (S0 1070 5) (S0 1070 3) 20)) 18 := zt_ISN (t := 20) (w := 18) (by decide) rfl (by decide) o42
                                refine zz_if_eq (by omega) zd_2_5_170 (fun c43 => ?_) (fun c43 => ?_)
                                · refine zz_iconst zd_2_5_186 ?_
                                  have g44 := zz_G.r G_S0 1072 3 (-2147483648) 2147483647 rfl rfl
                                  exact zz_zret zd_2_5_187 rfl (by omega) (Nat.zero_le _) (Nat.zero_le _) ⟨_, _, rfl, G_S0, F_S0, by omega, (Or.inr ⟨rfl, Or.inl (zt_pwN (by have hw10_ : zt_co (S0 1070 4) (zt_wl (S0 1071) (S0 1070 5) (S0 1070 3) 20) ≠ 10 := hw10; have hw11_ : zt_co (S0 1070 4) (zt_wl (S0 1071) (S0 1070 5) (S0 1070 3) 20) ≠ 11 := hw11; have hw13_ : zt_co (S0 1070 4) (zt_wl (S0 1071) (S0 1070 5) (S0 1070 3) 20) ≠ 13 := hw13; have hw14_ : zt_co (S0 1070 4) (zt_wl (S0 1071) (S0 1070 5) (S0 1070 3) 20) ≠ 14 := hw14; have hw15_ : zt_co (S0 1070 4) (zt_wl (S0 1071) (S0 1070 5) (S0 1070 3) 20) ≠ 15 := hw15; have hw16_ : zt_co (S0 1070 4) (zt_wl (S0 1071) (S0 1070 5) (S0 1070 3) 20) ≠ 16 := hw16; have hw17_ : zt_co (S0 1070 4) (zt_wl (S0 1071) (S0 1070 5) (S0 1070 3) 20) ≠ 17 := hw17; have hw20_ : zt_co (S0 1070 4) (zt_wl (S0 1071) (S0 1070 5) (S0 1070 3) 20) ≠ 18 := hw20; omega))⟩), fun h => absurd h (by decide), by omega, by omega⟩
                                · exfalso; omega
                              · have hw20 := zt_ISY (t := 20) (w := 18) (by decide) rfl (by decide) o42
                                refine zz_if_eq (by omega) zd_2_5_170 (fun c45 => ?_) (fun c45 => ?_)
                                · exfalso; omega
                                · skip
                                  refine zz_aload_n (x := 1072) rfl zd_2_5_173 ?_
                                  refine zz_iconst zd_2_5_174 ?_
                                  refine zz_iconst zd_2_5_175 ?_
                                  have g46 := zz_G.r G_S0 1070 2 (-1) 1500 rfl rfl
                                  have g47 := zz_G.r G_S0 1072 3 (-2147483648) 2147483647 rfl rfl
                                  refine zz_callVI [zi 3, zi 4] zd_2_5_176 zk_Assembler_88 zT_1072 (zz_ltn hn rfl) rfl rfl ⟨Nat.le_of_ble_eq_true rfl, Nat.le_of_ble_eq_true rfl⟩ ⟨rfl, rfl⟩ (Nat.zero_le _) (Nat.zero_le _) (zc_readNeighbour_2_7_3_4  S0 n hn G_S0 ) (fun v49 S48 hP => ?_)
                                  obtain ⟨G_S48, fS48, o50, o51, o52, o53, o54, o55⟩ := hP
                                  have F_S48 := zz_fr.trans F_S0 fS48 rfl zz_nv
                                  rcases (by omega : v49 = 0 ∨ v49 = 1) with rfl | rfl
                                  · refine zz_if_eq (by omega) zd_2_5_179 (fun c56 => ?_) (fun c56 => ?_)
                                    · refine zz_iconst zd_2_5_186 ?_
                                      have g57 := zz_G.r G_S48 1070 3 0 1500 rfl rfl
                                      have g58 := zz_G.r G_S48 1072 3 (-2147483648) 2147483647 rfl rfl
                                      exact zz_zret zd_2_5_187 rfl (by omega) (Nat.zero_le _) (Nat.zero_le _) ⟨_, _, rfl, G_S48, F_S48, by omega, (Or.inr ⟨rfl, (Decidable.em (zt_tk (S0 1071) (S0 1070 2) (S0 1070 3) = 19)).elim (fun h7 => Or.inr (by have h9 := zt_pwF (tk := (zt_tk (S0 1071) (S0 1070 2))) (te := (zt_te (S0 1071) (S0 1070 2))) (tv := (zt_tv (S0 1071) (S0 1070 2))) (c := zt_co (S0 1070 4) (zt_wl (S0 1071) (S0 1070 5) (S0 1070 3) 20)) (p := S0 1070 3) (K := zt_tk (S0 1071) (S0 1070 2) (S0 1070 3)) rfl (by omega); have h8 : zt_pw (zt_tk (S0 1071) (S0 1070 2)) (zt_te (S0 1071) (S0 1070 2)) (zt_tv (S0 1071) (S0 1070 2)) (zt_co (S0 1070 4) (zt_wl (S0 1071) (S0 1070 5) (S0 1070 3) 20)) (S0 1070 3) = 3 := (by rw [h9.1]; (repeat' split) <;> first | rfl | (exfalso; omega)); rw [h8]; show zt_bi (S0 1072 3) 3 = 1; omega)) (fun h7 => (Decidable.em (zt_tk (S0 1071) (S0 1070 2) (S0 1070 3) = 20)).elim (fun h5 => Or.inr (by have h9 := zt_pwF (tk := (zt_tk (S0 1071) (S0 1070 2))) (te := (zt_te (S0 1071) (S0 1070 2))) (tv := (zt_tv (S0 1071) (S0 1070 2))) (c := zt_co (S0 1070 4) (zt_wl (S0 1071) (S0 1070 5) (S0 1070 3) 20)) (p := S0 1070 3) (K := zt_tk (S0 1071) (S0 1070 2) (S0 1070 3)) rfl (by omega); have h8 : zt_pw (zt_tk (S0 1071) (S0 1070 2)) (zt_te (S0 1071) (S0 1070 2)) (zt_tv (S0 1071) (S0 1070 2)) (zt_co (S0 1070 4) (zt_wl (S0 1071) (S0 1070 5) (S0 1070 3) 20)) (S0 1070 3) = 4 := (by rw [h9.1]; (repeat' split) <;> first | rfl | (exfalso; omega)); rw [h8]; show zt_bi (S0 1072 3) 4 = 1; omega)) (fun h5 => Or.inl (by have h9 := zt_pwF (tk := (zt_tk (S0 1071) (S0 1070 2))) (te := (zt_te (S0 1071) (S0 1070 2))) (tv := (zt_tv (S0 1071) (S0 1070 2))) (c := zt_co (S0 1070 4) (zt_wl (S0 1071) (S0 1070 5) (S0 1070 3) 20)) (p := S0 1070 3) (K := zt_tk (S0 1071) (S0 1070 2) (S0 1070 3)) rfl (by omega); rw [h9.1, if_neg h7, if_neg h5])))⟩), fun h => absurd h (by decide), by omega, by omega⟩
                                    · exfalso; omega
                                  · refine zz_if_eq (by omega) zd_2_5_179 (fun c59 => ?_) (fun c59 => ?_)
                                    · exfalso; omega
                                    · refine zz_iconst zd_2_5_182 ?_
                                      refine zz_goto zd_2_5_183 ?_
                                      have g60 := zz_G.r G_S48 1070 3 0 1500 rfl rfl
                                      have g61 := zz_G.r G_S48 1072 3 (-2147483648) 2147483647 rfl rfl
                                      exact zz_zret zd_2_5_187 rfl (by omega) (Nat.zero_le _) (Nat.zero_le _) ⟨_, _, rfl, G_S48, F_S48, by omega, (Decidable.em (zt_tk (S0 1071) (S0 1070 2) (S0 1070 3) = 19)).elim (fun h7 => (by have h9 := zt_pwF (tk := (zt_tk (S0 1071) (S0 1070 2))) (te := (zt_te (S0 1071) (S0 1070 2))) (tv := (zt_tv (S0 1071) (S0 1070 2))) (c := zt_co (S0 1070 4) (zt_wl (S0 1071) (S0 1070 5) (S0 1070 3) 20)) (p := S0 1070 3) (K := zt_tk (S0 1071) (S0 1070 2) (S0 1070 3)) rfl (by omega); have h8 : zt_pw (zt_tk (S0 1071) (S0 1070 2)) (zt_te (S0 1071) (S0 1070 2)) (zt_tv (S0 1071) (S0 1070 2)) (zt_co (S0 1070 4) (zt_wl (S0 1071) (S0 1070 5) (S0 1070 3) 20)) (S0 1070 3) = 3 := (by rw [h9.1]; (repeat' split) <;> first | rfl | (exfalso; omega)); exact Or.inl ⟨rfl, by omega, by rw [h8]; show zt_bi (S0 1072 3) 3 = 0; omega, by rw [h9.2]; omega, by omega⟩)) (fun h6 => (fun (h7 : zt_tk (S0 1071) (S0 1070 2) (S0 1070 3) = 20) => (by have h9 := zt_pwF (tk := (zt_tk (S0 1071) (S0 1070 2))) (te := (zt_te (S0 1071) (S0 1070 2))) (tv := (zt_tv (S0 1071) (S0 1070 2))) (c := zt_co (S0 1070 4) (zt_wl (S0 1071) (S0 1070 5) (S0 1070 3) 20)) (p := S0 1070 3) (K := zt_tk (S0 1071) (S0 1070 2) (S0 1070 3)) rfl (by omega); have h8 : zt_pw (zt_tk (S0 1071) (S0 1070 2)) (zt_te (S0 1071) (S0 1070 2)) (zt_tv (S0 1071) (S0 1070 2)) (zt_co (S0 1070 4) (zt_wl (S0 1071) (S0 1070 5) (S0 1070 3) 20)) (S0 1070 3) = 4 := (by rw [h9.1]; (repeat' split) <;> first | rfl | (exfalso; omega)); exact Or.inl ⟨rfl, by omega, by rw [h8]; show zt_bi (S0 1072 3) 4 = 0; omega, by rw [h9.2]; omega, by omega⟩)) (by omega)), fun _ => (Decidable.em (zt_tk (S0 1071) (S0 1070 2) (S0 1070 3) = 19)).elim (fun h7 => (by have h9 := zt_pwF (tk := (zt_tk (S0 1071) (S0 1070 2))) (te := (zt_te (S0 1071) (S0 1070 2))) (tv := (zt_tv (S0 1071) (S0 1070 2))) (c := zt_co (S0 1070 4) (zt_wl (S0 1071) (S0 1070 5) (S0 1070 3) 20)) (p := S0 1070 3) (K := zt_tk (S0 1071) (S0 1070 2) (S0 1070 3)) rfl (by omega); have h8 : zt_pw (zt_tk (S0 1071) (S0 1070 2)) (zt_te (S0 1071) (S0 1070 2)) (zt_tv (S0 1071) (S0 1070 2)) (zt_co (S0 1070 4) (zt_wl (S0 1071) (S0 1070 5) (S0 1070 3) 20)) (S0 1070 3) = 3 := (by rw [h9.1]; (repeat' split) <;> first | rfl | (exfalso; omega)); rw [h8]; exact zt_up1 (o52 rfl h7) rfl (by decide))) (fun h6 => (fun (h7 : zt_tk (S0 1071) (S0 1070 2) (S0 1070 3) = 20) => (by have h9 := zt_pwF (tk := (zt_tk (S0 1071) (S0 1070 2))) (te := (zt_te (S0 1071) (S0 1070 2))) (tv := (zt_tv (S0 1071) (S0 1070 2))) (c := zt_co (S0 1070 4) (zt_wl (S0 1071) (S0 1070 5) (S0 1070 3) 20)) (p := S0 1070 3) (K := zt_tk (S0 1071) (S0 1070 2) (S0 1070 3)) rfl (by omega); have h8 : zt_pw (zt_tk (S0 1071) (S0 1070 2)) (zt_te (S0 1071) (S0 1070 2)) (zt_tv (S0 1071) (S0 1070 2)) (zt_co (S0 1070 4) (zt_wl (S0 1071) (S0 1070 5) (S0 1070 3) 20)) (S0 1070 3) = 4 := (by rw [h9.1]; (repeat' split) <;> first | rfl | (exfalso; omega)); rw [h8]; exact zt_up1 (o53 rfl h7) rfl (by decide))) (by omega)), by omega, by omega⟩
                            · exfalso; omega
                          · have hw17 := zt_ISY (t := 17) (w := 17) (by decide) rfl (by decide) o37
                            refine zz_if_eq (by omega) zd_2_5_151 (fun c62 => ?_) (fun c62 => ?_)
                            · exfalso; omega
                            · skip
                              refine zz_aload_n (x := 1072) rfl zd_2_5_154 ?_
                              refine zz_iconst zd_2_5_155 ?_
                              refine zz_iconst zd_2_5_156 ?_
                              have g63 := zz_G.r G_S0 1070 2 (-1) 1500 rfl rfl
                              have g64 := zz_G.r G_S0 1072 3 (-2147483648) 2147483647 rfl rfl
                              refine zz_callVI [zi 1, zi 2] zd_2_5_157 zk_Assembler_88 zT_1072 (zz_ltn hn rfl) rfl rfl ⟨Nat.le_of_ble_eq_true rfl, Nat.le_of_ble_eq_true rfl⟩ ⟨rfl, rfl⟩ (Nat.zero_le _) (Nat.zero_le _) (zc_readNeighbour_2_7_1_2  S0 n hn G_S0 ) (fun v66 S65 hP => ?_)
                              obtain ⟨G_S65, fS65, o67, o68, o69, o70, o71, o72⟩ := hP
                              have F_S65 := zz_fr.trans F_S0 fS65 rfl zz_nv
                              rcases (by omega : v66 = 0 ∨ v66 = 1) with rfl | rfl
                              · have g73 := zz_G.r G_S65 1070 3 0 1500 rfl rfl
                                have g74 := zz_G.r G_S65 1072 3 (-2147483648) 2147483647 rfl rfl
                                exact zz_zret zd_2_5_160 rfl (by omega) (Nat.zero_le _) (Nat.zero_le _) ⟨_, _, rfl, G_S65, F_S65, by omega, (Or.inr ⟨rfl, (Decidable.em (zt_tk (S0 1071) (S0 1070 2) (S0 1070 3) = 19)).elim (fun h7 => Or.inr (by have h9 := zt_pwF (tk := (zt_tk (S0 1071) (S0 1070 2))) (te := (zt_te (S0 1071) (S0 1070 2))) (tv := (zt_tv (S0 1071) (S0 1070 2))) (c := zt_co (S0 1070 4) (zt_wl (S0 1071) (S0 1070 5) (S0 1070 3) 20)) (p := S0 1070 3) (K := zt_tk (S0 1071) (S0 1070 2) (S0 1070 3)) rfl (by omega); have h8 : zt_pw (zt_tk (S0 1071) (S0 1070 2)) (zt_te (S0 1071) (S0 1070 2)) (zt_tv (S0 1071) (S0 1070 2)) (zt_co (S0 1070 4) (zt_wl (S0 1071) (S0 1070 5) (S0 1070 3) 20)) (S0 1070 3) = 1 := (by rw [h9.1]; (repeat' split) <;> first | rfl | (exfalso; omega)); rw [h8]; show zt_bi (S0 1072 3) 1 = 1; omega)) (fun h7 => (Decidable.em (zt_tk (S0 1071) (S0 1070 2) (S0 1070 3) = 20)).elim (fun h5 => Or.inr (by have h9 := zt_pwF (tk := (zt_tk (S0 1071) (S0 1070 2))) (te := (zt_te (S0 1071) (S0 1070 2))) (tv := (zt_tv (S0 1071) (S0 1070 2))) (c := zt_co (S0 1070 4) (zt_wl (S0 1071) (S0 1070 5) (S0 1070 3) 20)) (p := S0 1070 3) (K := zt_tk (S0 1071) (S0 1070 2) (S0 1070 3)) rfl (by omega); have h8 : zt_pw (zt_tk (S0 1071) (S0 1070 2)) (zt_te (S0 1071) (S0 1070 2)) (zt_tv (S0 1071) (S0 1070 2)) (zt_co (S0 1070 4) (zt_wl (S0 1071) (S0 1070 5) (S0 1070 3) 20)) (S0 1070 3) = 2 := (by rw [h9.1]; (repeat' split) <;> first | rfl | (exfalso; omega)); rw [h8]; show zt_bi (S0 1072 3) 2 = 1; omega)) (fun h5 => Or.inl (by have h9 := zt_pwF (tk := (zt_tk (S0 1071) (S0 1070 2))) (te := (zt_te (S0 1071) (S0 1070 2))) (tv := (zt_tv (S0 1071) (S0 1070 2))) (c := zt_co (S0 1070 4) (zt_wl (S0 1071) (S0 1070 5) (S0 1070 3) 20)) (p := S0 1070 3) (K := zt_tk (S0 1071) (S0 1070 2) (S0 1070 3)) rfl (by omega); rw [h9.1, if_neg h7, if_neg h5])))⟩), fun h => absurd h (by decide), by omega, by omega⟩
                              · have g75 := zz_G.r G_S65 1070 3 0 1500 rfl rfl
                                have g76 := zz_G.r G_S65 1072 3 (-2147483648) 2147483647 rfl rfl
                                exact zz_zret zd_2_5_160 rfl (by omega) (Nat.zero_le _) (Nat.zero_le _) ⟨_, _, rfl, G_S65, F_S65, by omega, (Decidable.em (zt_tk (S0 1071) (S0 1070 2) (S0 1070 3) = 19)).elim (fun h7 => (by have h9 := zt_pwF (tk := (zt_tk (S0 1071) (S0 1070 2))) (te := (zt_te (S0 1071) (S0 1070 2))) (tv := (zt_tv (S0 1071) (S0 1070 2))) (c := zt_co (S0 1070 4) (zt_wl (S0 1071) (S0 1070 5) (S0 1070 3) 20)) (p := S0 1070 3) (K := zt_tk (S0 1071) (S0 1070 2) (S0 1070 3)) rfl (by omega); have h8 : zt_pw (zt_tk (S0 1071) (S0 1070 2)) (zt_te (S0 1071) (S0 1070 2)) (zt_tv (S0 1071) (S0 1070 2)) (zt_co (S0 1070 4) (zt_wl (S0 1071) (S0 1070 5) (S0 1070 3) 20)) (S0 1070 3) = 1 := (by rw [h9.1]; (repeat' split) <;> first | rfl | (exfalso; omega)); exact Or.inl ⟨rfl, by omega, by rw [h8]; show zt_bi (S0 1072 3) 1 = 0; omega, by rw [h9.2]; omega, by omega⟩)) (fun h6 => (fun (h7 : zt_tk (S0 1071) (S0 1070 2) (S0 1070 3) = 20) => (by have h9 := zt_pwF (tk := (zt_tk (S0 1071) (S0 1070 2))) (te := (zt_te (S0 1071) (S0 1070 2))) (tv := (zt_tv (S0 1071) (S0 1070 2))) (c := zt_co (S0 1070 4) (zt_wl (S0 1071) (S0 1070 5) (S0 1070 3) 20)) (p := S0 1070 3) (K := zt_tk (S0 1071) (S0 1070 2) (S0 1070 3)) rfl (by omega); have h8 : zt_pw (zt_tk (S0 1071) (S0 1070 2)) (zt_te (S0 1071) (S0 1070 2)) (zt_tv (S0 1071) (S0 1070 2)) (zt_co (S0 1070 4) (zt_wl (S0 1071) (S0 1070 5) (S0 1070 3) 20)) (S0 1070 3) = 2 := (by rw [h9.1]; (repeat' split) <;> first | rfl | (exfalso; omega)); exact Or.inl ⟨rfl, by omega, by rw [h8]; show zt_bi (S0 1072 3) 2 = 0; omega, by rw [h9.2]; omega, by omega⟩)) (by omega)), fun _ => (Decidable.em (zt_tk (S0 1071) (S0 1070 2) (S0 1070 3) = 19)).elim (fun h7 => (by have h9 := zt_pwF (tk := (zt_tk (S0 1071) (S0 1070 2))) (te := (zt_te (S0 1071) (S0 1070 2))) (tv := (zt_tv (S0 1071) (S0 1070 2))) (c := zt_co (S0 1070 4) (zt_wl (S0 1071) (S0 1070 5) (S0 1070 3) 20)) (p := S0 1070 3) (K := zt_tk (S0 1071) (S0 1070 2) (S0 1070 3)) rfl (by omega); have h8 : zt_pw (zt_tk (S0 1071) (S0 1070 2)) (zt_te (S0 1071) (S0 1070 2)) (zt_tv (S0 1071) (S0 1070 2)) (zt_co (S0 1070 4) (zt_wl (S0 1071) (S0 1070 5) (S0 1070 3) 20)) (S0 1070 3) = 1 := (by rw [h9.1]; (repeat' split) <;> first | rfl | (exfalso; omega)); rw [h8]; exact zt_up1 (o69 rfl h7) rfl (by decide))) (fun h6 => (fun (h7 : zt_tk (S0 1071) (S0 1070 2) (S0 1070 3) = 20) => (by have h9 := zt_pwF (tk := (zt_tk (S0 1071) (S0 1070 2))) (te := (zt_te (S0 1071) (S0 1070 2))) (tv := (zt_tv (S0 1071) (S0 1070 2))) (c := zt_co (S0 1070 4) (zt_wl (S0 1071) (S0 1070 5) (S0 1070 3) 20)) (p := S0 1070 3) (K := zt_tk (S0 1071) (S0 1070 2) (S0 1070 3)) rfl (by omega); have h8 : zt_pw (zt_tk (S0 1071) (S0 1070 2)) (zt_te (S0 1071) (S0 1070 2)) (zt_tv (S0 1071) (S0 1070 2)) (zt_co (S0 1070 4) (zt_wl (S0 1071) (S0 1070 5) (S0 1070 3) 20)) (S0 1070 3) = 2 := (by rw [h9.1]; (repeat' split) <;> first | rfl | (exfalso; omega)); rw [h8]; exact zt_up1 (o70 rfl h7) rfl (by decide))) (by omega)), by omega, by omega⟩
                        · exfalso; omega
                      · have hw16 := zt_ISY (t := 16) (w := 16) (by decide) rfl (by decide) o32
                        refine zz_if_eq (by omega) zd_2_5_132 (fun c77 => ?_) (fun c77 => ?_)
                        · exfalso; omega
                        · skip
                          refine zz_aload_n (x := 1072) rfl zd_2_5_135 ?_
                          refine zz_bipush (by decide) zd_2_5_136 ?_
                          have g78 := zz_G.r G_S0 1070 2 (-1) 1500 rfl rfl
                          have g79 := zz_G.r G_S0 1072 3 (-2147483648) 2147483647 rfl rfl
                          refine zz_callVI [zi 11] zd_2_5_138 zk_Assembler_67 zT_1072 (zz_ltn hn rfl) rfl rfl ⟨Nat.le_of_ble_eq_true rfl, Nat.le_of_ble_eq_true rfl⟩ ⟨rfl, rfl⟩ (Nat.zero_le _) (Nat.zero_le _) (zc_readNumber_2_6_11  S0 n hn G_S0 ) (fun v81 S80 hP => ?_)
                          obtain ⟨G_S80, fS80, o82, o83, o84, o85, o86⟩ := hP
                          have F_S80 := zz_fr.trans F_S0 fS80 rfl zz_nv
                          rcases (by omega : v81 = 0 ∨ v81 = 1) with rfl | rfl
                          · have g87 := zz_G.r G_S80 1070 3 0 1500 rfl rfl
                            have g88 := zz_G.r G_S80 1072 3 (-2147483648) 2147483647 rfl rfl
                            exact zz_zret zd_2_5_141 rfl (by omega) (Nat.zero_le _) (Nat.zero_le _) ⟨_, _, rfl, G_S80, F_S80, by omega, (Or.inr ⟨rfl, (Decidable.em (zt_tk (S0 1071) (S0 1070 2) (S0 1070 3) = 100 ∧ zt_tv (S0 1071) (S0 1070 2) (S0 1070 3) ≤ 31)).elim (fun h7 => Or.inr (by have h9 := zt_pwA (tk := (zt_tk (S0 1071) (S0 1070 2))) (te := (zt_te (S0 1071) (S0 1070 2))) (tv := (zt_tv (S0 1071) (S0 1070 2))) (c := zt_co (S0 1070 4) (zt_wl (S0 1071) (S0 1070 5) (S0 1070 3) 20)) (p := S0 1070 3) (K := zt_tk (S0 1071) (S0 1070 2) (S0 1070 3)) (V := zt_tv (S0 1071) (S0 1070 2) (S0 1070 3)) (m := 31) (w := 11) rfl (fun _ => rfl) (by omega); rw [h9.1, if_pos h7]; show zt_bi (S0 1072 3) 11 = 1; omega)) (fun h7 => Or.inl (by have h9 := zt_pwA (tk := (zt_tk (S0 1071) (S0 1070 2))) (te := (zt_te (S0 1071) (S0 1070 2))) (tv := (zt_tv (S0 1071) (S0 1070 2))) (c := zt_co (S0 1070 4) (zt_wl (S0 1071) (S0 1070 5) (S0 1070 3) 20)) (p := S0 1070 3) (K := zt_tk (S0 1071) (S0 1070 2) (S0 1070 3)) (V := zt_tv (S0 1071) (S0 1070 2) (S0 1070 3)) (m := 31) (w := 11) rfl (fun _ => rfl) (by omega); rw [h9.1, if_neg h7]))⟩), fun h => absurd h (by decide), by omega, by omega⟩
                          · have g89 := zz_G.r G_S80 1070 3 0 1500 rfl rfl
                            have g90 := zz_G.r G_S80 1072 3 (-2147483648) 2147483647 rfl rfl
                            exact zz_zret zd_2_5_141 rfl (by omega) (Nat.zero_le _) (Nat.zero_le _) ⟨_, _, rfl, G_S80, F_S80, by omega, (by have h9 := zt_pwA (tk := (zt_tk (S0 1071) (S0 1070 2))) (te := (zt_te (S0 1071) (S0 1070 2))) (tv := (zt_tv (S0 1071) (S0 1070 2))) (c := zt_co (S0 1070 4) (zt_wl (S0 1071) (S0 1070 5) (S0 1070 3) 20)) (p := S0 1070 3) (K := zt_tk (S0 1071) (S0 1070 2) (S0 1070 3)) (V := zt_tv (S0 1071) (S0 1070 2) (S0 1070 3)) (m := 31) (w := 11) rfl (fun _ => rfl) (by omega); have h8 : zt_pw (zt_tk (S0 1071) (S0 1070 2)) (zt_te (S0 1071) (S0 1070 2)) (zt_tv (S0 1071) (S0 1070 2)) (zt_co (S0 1070 4) (zt_wl (S0 1071) (S0 1070 5) (S0 1070 3) 20)) (S0 1070 3) = 11 := (by rw [h9.1, if_pos (by omega)]); exact Or.inl ⟨rfl, by omega, by rw [h8]; show zt_bi (S0 1072 3) 11 = 0; omega, by rw [h9.2]; omega, by omega⟩), fun _ => (by have h9 := zt_pwA (tk := (zt_tk (S0 1071) (S0 1070 2))) (te := (zt_te (S0 1071) (S0 1070 2))) (tv := (zt_tv (S0 1071) (S0 1070 2))) (c := zt_co (S0 1070 4) (zt_wl (S0 1071) (S0 1070 5) (S0 1070 3) 20)) (p := S0 1070 3) (K := zt_tk (S0 1071) (S0 1070 2) (S0 1070 3)) (V := zt_tv (S0 1071) (S0 1070 2) (S0 1070 3)) (m := 31) (w := 11) rfl (fun _ => rfl) (by omega); have h8 : zt_pw (zt_tk (S0 1071) (S0 1070 2)) (zt_te (S0 1071) (S0 1070 2)) (zt_tv (S0 1071) (S0 1070 2)) (zt_co (S0 1070 4) (zt_wl (S0 1071) (S0 1070 5) (S0 1070 3) 20)) (S0 1070 3) = 11 := (by rw [h9.1, if_pos (by omega)]); rw [h8]; exact zt_up1 (o84 rfl) rfl (by decide)), by omega, by omega⟩
                    · exfalso; omega
                  · have hw15 := zt_ISY (t := 15) (w := 15) (by decide) rfl (by decide) o27
                    refine zz_if_eq (by omega) zd_2_5_113 (fun c91 => ?_) (fun c91 => ?_)
                    · exfalso; omega
                    · skip
                      refine zz_aload_n (x := 1072) rfl zd_2_5_116 ?_
                      refine zz_bipush (by decide) zd_2_5_117 ?_
                      have g92 := zz_G.r G_S0 1070 2 (-1) 1500 rfl rfl
                      have g93 := zz_G.r G_S0 1072 3 (-2147483648) 2147483647 rfl rfl
                      refine zz_callVI [zi 10] zd_2_5_119 zk_Assembler_67 zT_1072 (zz_ltn hn rfl) rfl rfl ⟨Nat.le_of_ble_eq_true rfl, Nat.le_of_ble_eq_true rfl⟩ ⟨rfl, rfl⟩ (Nat.zero_le _) (Nat.zero_le _) (zc_readNumber_2_6_10  S0 n hn G_S0 ) (fun v95 S94 hP => ?_)
                      obtain ⟨G_S94, fS94, o96, o97, o98, o99, o100⟩ := hP
                      have F_S94 := zz_fr.trans F_S0 fS94 rfl zz_nv
                      rcases (by omega : v95 = 0 ∨ v95 = 1) with rfl | rfl
                      · have g101 := zz_G.r G_S94 1070 3 0 1500 rfl rfl
                        have g102 := zz_G.r G_S94 1072 3 (-2147483648) 2147483647 rfl rfl
                        exact zz_zret zd_2_5_122 rfl (by omega) (Nat.zero_le _) (Nat.zero_le _) ⟨_, _, rfl, G_S94, F_S94, by omega, (Or.inr ⟨rfl, (Decidable.em (zt_tk (S0 1071) (S0 1070 2) (S0 1070 3) = 100 ∧ zt_tv (S0 1071) (S0 1070 2) (S0 1070 3) ≤ 1023)).elim (fun h7 => Or.inr (by have h9 := zt_pwA (tk := (zt_tk (S0 1071) (S0 1070 2))) (te := (zt_te (S0 1071) (S0 1070 2))) (tv := (zt_tv (S0 1071) (S0 1070 2))) (c := zt_co (S0 1070 4) (zt_wl (S0 1071) (S0 1070 5) (S0 1070 3) 20)) (p := S0 1070 3) (K := zt_tk (S0 1071) (S0 1070 2) (S0 1070 3)) (V := zt_tv (S0 1071) (S0 1070 2) (S0 1070 3)) (m := 1023) (w := 10) rfl (fun _ => rfl) (by omega); rw [h9.1, if_pos h7]; show zt_bi (S0 1072 3) 10 = 1; omega)) (fun h7 => Or.inl (by have h9 := zt_pwA (tk := (zt_tk (S0 1071) (S0 1070 2))) (te := (zt_te (S0 1071) (S0 1070 2))) (tv := (zt_tv (S0 1071) (S0 1070 2))) (c := zt_co (S0 1070 4) (zt_wl (S0 1071) (S0 1070 5) (S0 1070 3) 20)) (p := S0 1070 3) (K := zt_tk (S0 1071) (S0 1070 2) (S0 1070 3)) (V := zt_tv (S0 1071) (S0 1070 2) (S0 1070 3)) (m := 1023) (w := 10) rfl (fun _ => rfl) (by omega); rw [h9.1, if_neg h7]))⟩), fun h => absurd h (by decide), by omega, by omega⟩
                      · have g103 := zz_G.r G_S94 1070 3 0 1500 rfl rfl
                        have g104 := zz_G.r G_S94 1072 3 (-2147483648) 2147483647 rfl rfl
                        exact zz_zret zd_2_5_122 rfl (by omega) (Nat.zero_le _) (Nat.zero_le _) ⟨_, _, rfl, G_S94, F_S94, by omega, (by have h9 := zt_pwA (tk := (zt_tk (S0 1071) (S0 1070 2))) (te := (zt_te (S0 1071) (S0 1070 2))) (tv := (zt_tv (S0 1071) (S0 1070 2))) (c := zt_co (S0 1070 4) (zt_wl (S0 1071) (S0 1070 5) (S0 1070 3) 20)) (p := S0 1070 3) (K := zt_tk (S0 1071) (S0 1070 2) (S0 1070 3)) (V := zt_tv (S0 1071) (S0 1070 2) (S0 1070 3)) (m := 1023) (w := 10) rfl (fun _ => rfl) (by omega); have h8 : zt_pw (zt_tk (S0 1071) (S0 1070 2)) (zt_te (S0 1071) (S0 1070 2)) (zt_tv (S0 1071) (S0 1070 2)) (zt_co (S0 1070 4) (zt_wl (S0 1071) (S0 1070 5) (S0 1070 3) 20)) (S0 1070 3) = 10 := (by rw [h9.1, if_pos (by omega)]); exact Or.inl ⟨rfl, by omega, by rw [h8]; show zt_bi (S0 1072 3) 10 = 0; omega, by rw [h9.2]; omega, by omega⟩), fun _ => (by have h9 := zt_pwA (tk := (zt_tk (S0 1071) (S0 1070 2))) (te := (zt_te (S0 1071) (S0 1070 2))) (tv := (zt_tv (S0 1071) (S0 1070 2))) (c := zt_co (S0 1070 4) (zt_wl (S0 1071) (S0 1070 5) (S0 1070 3) 20)) (p := S0 1070 3) (K := zt_tk (S0 1071) (S0 1070 2) (S0 1070 3)) (V := zt_tv (S0 1071) (S0 1070 2) (S0 1070 3)) (m := 1023) (w := 10) rfl (fun _ => rfl) (by omega); have h8 : zt_pw (zt_tk (S0 1071) (S0 1070 2)) (zt_te (S0 1071) (S0 1070 2)) (zt_tv (S0 1071) (S0 1070 2)) (zt_co (S0 1070 4) (zt_wl (S0 1071) (S0 1070 5) (S0 1070 3) 20)) (S0 1070 3) = 10 := (by rw [h9.1, if_pos (by omega)]); rw [h8]; exact zt_up1 (o98 rfl) rfl (by decide)), by omega, by omega⟩
                · exfalso; omega
              · have hw14 := zt_ISY (t := 14) (w := 14) (by decide) rfl (by decide) o22
                refine zz_if_eq (by omega) zd_2_5_94 (fun c105 => ?_) (fun c105 => ?_)
                · exfalso; omega
                · skip
                  refine zz_aload_n (x := 1072) rfl zd_2_5_97 ?_
                  refine zz_bipush (by decide) zd_2_5_98 ?_
                  have g106 := zz_G.r G_S0 1070 2 (-1) 1500 rfl rfl
                  have g107 := zz_G.r G_S0 1072 3 (-2147483648) 2147483647 rfl rfl
                  refine zz_callVI [zi 9] zd_2_5_100 zk_Assembler_67 zT_1072 (zz_ltn hn rfl) rfl rfl ⟨Nat.le_of_ble_eq_true rfl, Nat.le_of_ble_eq_true rfl⟩ ⟨rfl, rfl⟩ (Nat.zero_le _) (Nat.zero_le _) (zc_readNumber_2_6_9  S0 n hn G_S0 ) (fun v109 S108 hP => ?_)
                  obtain ⟨G_S108, fS108, o110, o111, o112, o113, o114⟩ := hP
                  have F_S108 := zz_fr.trans F_S0 fS108 rfl zz_nv
                  rcases (by omega : v109 = 0 ∨ v109 = 1) with rfl | rfl
                  · have g115 := zz_G.r G_S108 1070 3 0 1500 rfl rfl
                    have g116 := zz_G.r G_S108 1072 3 (-2147483648) 2147483647 rfl rfl
                    exact zz_zret zd_2_5_103 rfl (by omega) (Nat.zero_le _) (Nat.zero_le _) ⟨_, _, rfl, G_S108, F_S108, by omega, (Or.inr ⟨rfl, (Decidable.em (zt_tk (S0 1071) (S0 1070 2) (S0 1070 3) = 100 ∧ zt_tv (S0 1071) (S0 1070 2) (S0 1070 3) ≤ 511)).elim (fun h7 => Or.inr (by have h9 := zt_pwA (tk := (zt_tk (S0 1071) (S0 1070 2))) (te := (zt_te (S0 1071) (S0 1070 2))) (tv := (zt_tv (S0 1071) (S0 1070 2))) (c := zt_co (S0 1070 4) (zt_wl (S0 1071) (S0 1070 5) (S0 1070 3) 20)) (p := S0 1070 3) (K := zt_tk (S0 1071) (S0 1070 2) (S0 1070 3)) (V := zt_tv (S0 1071) (S0 1070 2) (S0 1070 3)) (m := 511) (w := 9) rfl (fun _ => rfl) (by omega); rw [h9.1, if_pos h7]; show zt_bi (S0 1072 3) 9 = 1; omega)) (fun h7 => Or.inl (by have h9 := zt_pwA (tk := (zt_tk (S0 1071) (S0 1070 2))) (te := (zt_te (S0 1071) (S0 1070 2))) (tv := (zt_tv (S0 1071) (S0 1070 2))) (c := zt_co (S0 1070 4) (zt_wl (S0 1071) (S0 1070 5) (S0 1070 3) 20)) (p := S0 1070 3) (K := zt_tk (S0 1071) (S0 1070 2) (S0 1070 3)) (V := zt_tv (S0 1071) (S0 1070 2) (S0 1070 3)) (m := 511) (w := 9) rfl (fun _ => rfl) (by omega); rw [h9.1, if_neg h7]))⟩), fun h => absurd h (by decide), by omega, by omega⟩
                  · have g117 := zz_G.r G_S108 1070 3 0 1500 rfl rfl
                    have g118 := zz_G.r G_S108 1072 3 (-2147483648) 2147483647 rfl rfl
                    exact zz_zret zd_2_5_103 rfl (by omega) (Nat.zero_le _) (Nat.zero_le _) ⟨_, _, rfl, G_S108, F_S108, by omega, (by have h9 := zt_pwA (tk := (zt_tk (S0 1071) (S0 1070 2))) (te := (zt_te (S0 1071) (S0 1070 2))) (tv := (zt_tv (S0 1071) (S0 1070 2))) (c := zt_co (S0 1070 4) (zt_wl (S0 1071) (S0 1070 5) (S0 1070 3) 20)) (p := S0 1070 3) (K := zt_tk (S0 1071) (S0 1070 2) (S0 1070 3)) (V := zt_tv (S0 1071) (S0 1070 2) (S0 1070 3)) (m := 511) (w := 9) rfl (fun _ => rfl) (by omega); have h8 : zt_pw (zt_tk (S0 1071) (S0 1070 2)) (zt_te (S0 1071) (S0 1070 2)) (zt_tv (S0 1071) (S0 1070 2)) (zt_co (S0 1070 4) (zt_wl (S0 1071) (S0 1070 5) (S0 1070 3) 20)) (S0 1070 3) = 9 := (by rw [h9.1, if_pos (by omega)]); exact Or.inl ⟨rfl, by omega, by rw [h8]; show zt_bi (S0 1072 3) 9 = 0; omega, by rw [h9.2]; omega, by omega⟩), fun _ => (by have h9 := zt_pwA (tk := (zt_tk (S0 1071) (S0 1070 2))) (te := (zt_te (S0 1071) (S0 1070 2))) (tv := (zt_tv (S0 1071) (S0 1070 2))) (c := zt_co (S0 1070 4) (zt_wl (S0 1071) (S0 1070 5) (S0 1070 3) 20)) (p := S0 1070 3) (K := zt_tk (S0 1071) (S0 1070 2) (S0 1070 3)) (V := zt_tv (S0 1071) (S0 1070 2) (S0 1070 3)) (m := 511) (w := 9) rfl (fun _ => rfl) (by omega); have h8 : zt_pw (zt_tk (S0 1071) (S0 1070 2)) (zt_te (S0 1071) (S0 1070 2)) (zt_tv (S0 1071) (S0 1070 2)) (zt_co (S0 1070 4) (zt_wl (S0 1071) (S0 1070 5) (S0 1070 3) 20)) (S0 1070 3) = 9 := (by rw [h9.1, if_pos (by omega)]); rw [h8]; exact zt_up1 (o112 rfl) rfl (by decide)), by omega, by omega⟩
            · exfalso; omega
          · have hw13 := zt_ISY (t := 13) (w := 13) (by decide) rfl (by decide) o17
            refine zz_if_eq (by omega) zd_2_5_75 (fun c119 => ?_) (fun c119 => ?_)
            · exfalso; omega
            · skip
              refine zz_aload_n (x := 1072) rfl zd_2_5_78 ?_
              refine zz_bipush (by decide) zd_2_5_79 ?_
              have g120 := zz_G.r G_S0 1070 2 (-1) 1500 rfl rfl
              have g121 := zz_G.r G_S0 1072 3 (-2147483648) 2147483647 rfl rfl
              refine zz_callVI [zi 8] zd_2_5_81 zk_Assembler_67 zT_1072 (zz_ltn hn rfl) rfl rfl ⟨Nat.le_of_ble_eq_true rfl, Nat.le_of_ble_eq_true rfl⟩ ⟨rfl, rfl⟩ (Nat.zero_le _) (Nat.zero_le _) (zc_readNumber_2_6_8  S0 n hn G_S0 ) (fun v123 S122 hP => ?_)
              obtain ⟨G_S122, fS122, o124, o125, o126, o127, o128⟩ := hP
              have F_S122 := zz_fr.trans F_S0 fS122 rfl zz_nv
              rcases (by omega : v123 = 0 ∨ v123 = 1) with rfl | rfl
              · have g129 := zz_G.r G_S122 1070 3 0 1500 rfl rfl
                have g130 := zz_G.r G_S122 1072 3 (-2147483648) 2147483647 rfl rfl
                exact zz_zret zd_2_5_84 rfl (by omega) (Nat.zero_le _) (Nat.zero_le _) ⟨_, _, rfl, G_S122, F_S122, by omega, (Or.inr ⟨rfl, (Decidable.em (zt_tk (S0 1071) (S0 1070 2) (S0 1070 3) = 100 ∧ zt_tv (S0 1071) (S0 1070 2) (S0 1070 3) ≤ 511)).elim (fun h7 => Or.inr (by have h9 := zt_pwA (tk := (zt_tk (S0 1071) (S0 1070 2))) (te := (zt_te (S0 1071) (S0 1070 2))) (tv := (zt_tv (S0 1071) (S0 1070 2))) (c := zt_co (S0 1070 4) (zt_wl (S0 1071) (S0 1070 5) (S0 1070 3) 20)) (p := S0 1070 3) (K := zt_tk (S0 1071) (S0 1070 2) (S0 1070 3)) (V := zt_tv (S0 1071) (S0 1070 2) (S0 1070 3)) (m := 511) (w := 8) rfl (fun _ => rfl) (by omega); rw [h9.1, if_pos h7]; show zt_bi (S0 1072 3) 8 = 1; omega)) (fun h7 => Or.inl (by have h9 := zt_pwA (tk := (zt_tk (S0 1071) (S0 1070 2))) (te := (zt_te (S0 1071) (S0 1070 2))) (tv := (zt_tv (S0 1071) (S0 1070 2))) (c := zt_co (S0 1070 4) (zt_wl (S0 1071) (S0 1070 5) (S0 1070 3) 20)) (p := S0 1070 3) (K := zt_tk (S0 1071) (S0 1070 2) (S0 1070 3)) (V := zt_tv (S0 1071) (S0 1070 2) (S0 1070 3)) (m := 511) (w := 8) rfl (fun _ => rfl) (by omega); rw [h9.1, if_neg h7]))⟩), fun h => absurd h (by decide), by omega, by omega⟩
              · have g131 := zz_G.r G_S122 1070 3 0 1500 rfl rfl
                have g132 := zz_G.r G_S122 1072 3 (-2147483648) 2147483647 rfl rfl
                exact zz_zret zd_2_5_84 rfl (by omega) (Nat.zero_le _) (Nat.zero_le _) ⟨_, _, rfl, G_S122, F_S122, by omega, (by have h9 := zt_pwA (tk := (zt_tk (S0 1071) (S0 1070 2))) (te := (zt_te (S0 1071) (S0 1070 2))) (tv := (zt_tv (S0 1071) (S0 1070 2))) (c := zt_co (S0 1070 4) (zt_wl (S0 1071) (S0 1070 5) (S0 1070 3) 20)) (p := S0 1070 3) (K := zt_tk (S0 1071) (S0 1070 2) (S0 1070 3)) (V := zt_tv (S0 1071) (S0 1070 2) (S0 1070 3)) (m := 511) (w := 8) rfl (fun _ => rfl) (by omega); have h8 : zt_pw (zt_tk (S0 1071) (S0 1070 2)) (zt_te (S0 1071) (S0 1070 2)) (zt_tv (S0 1071) (S0 1070 2)) (zt_co (S0 1070 4) (zt_wl (S0 1071) (S0 1070 5) (S0 1070 3) 20)) (S0 1070 3) = 8 := (by rw [h9.1, if_pos (by omega)]); exact Or.inl ⟨rfl, by omega, by rw [h8]; show zt_bi (S0 1072 3) 8 = 0; omega, by rw [h9.2]; omega, by omega⟩), fun _ => (by have h9 := zt_pwA (tk := (zt_tk (S0 1071) (S0 1070 2))) (te := (zt_te (S0 1071) (S0 1070 2))) (tv := (zt_tv (S0 1071) (S0 1070 2))) (c := zt_co (S0 1070 4) (zt_wl (S0 1071) (S0 1070 5) (S0 1070 3) 20)) (p := S0 1070 3) (K := zt_tk (S0 1071) (S0 1070 2) (S0 1070 3)) (V := zt_tv (S0 1071) (S0 1070 2) (S0 1070 3)) (m := 511) (w := 8) rfl (fun _ => rfl) (by omega); have h8 : zt_pw (zt_tk (S0 1071) (S0 1070 2)) (zt_te (S0 1071) (S0 1070 2)) (zt_tv (S0 1071) (S0 1070 2)) (zt_co (S0 1070 4) (zt_wl (S0 1071) (S0 1070 5) (S0 1070 3) 20)) (S0 1070 3) = 8 := (by rw [h9.1, if_pos (by omega)]); rw [h8]; exact zt_up1 (o126 rfl) rfl (by decide)), by omega, by omega⟩
        · exfalso; omega
      · have hw11 := zt_ISY (t := 11) (w := 11) (by decide) rfl (by decide) o12
        refine zz_if_eq (by omega) zd_2_5_27 (fun c133 => ?_) (fun c133 => ?_)
        · exfalso; omega
        · skip
          refine zz_aload_n (x := 1072) rfl zd_2_5_30 ?_
          refine zz_bipush (by decide) zd_2_5_31 ?_
          have g134 := zz_G.r G_S0 1070 2 (-1) 1500 rfl rfl
          have g135 := zz_G.r G_S0 1072 3 (-2147483648) 2147483647 rfl rfl
          refine zz_callVI [zi 6] zd_2_5_33 zk_Assembler_67 zT_1072 (zz_ltn hn rfl) rfl rfl ⟨Nat.le_of_ble_eq_true rfl, Nat.le_of_ble_eq_true rfl⟩ ⟨rfl, rfl⟩ (Nat.zero_le _) (Nat.zero_le _) (zc_readNumber_2_6_6  S0 n hn G_S0 ) (fun v137 S136 hP => ?_)
          obtain ⟨G_S136, fS136, o138, o139, o140, o141, o142⟩ := hP
          have F_S136 := zz_fr.trans F_S0 fS136 rfl zz_nv
          rcases (by omega : v137 = 0 ∨ v137 = 1) with rfl | rfl
          · refine zz_if_eq (by omega) zd_2_5_36 (fun c143 => ?_) (fun c143 => ?_)
            · refine zz_iconst zd_2_5_64 ?_
              have g144 := zz_G.r G_S136 1070 3 0 1500 rfl rfl
              have g145 := zz_G.r G_S136 1072 3 (-2147483648) 2147483647 rfl rfl
              exact zz_zret zd_2_5_65 rfl (by omega) (Nat.zero_le _) (Nat.zero_le _) ⟨_, _, rfl, G_S136, F_S136, by omega, (Or.inr ⟨rfl, (Decidable.em (zt_bi (S0 1072 3) 6 = 1)).elim (fun h7 => (Decidable.em (zt_pw (zt_tk (S0 1071) (S0 1070 2)) (zt_te (S0 1071) (S0 1070 2)) (zt_tv (S0 1071) (S0 1070 2)) (zt_co (S0 1070 4) (zt_wl (S0 1071) (S0 1070 5) (S0 1070 3) 20)) (S0 1070 3) = 0)).elim Or.inl (fun h6 => Or.inr (by have h9 := zt_pwB (tk := (zt_tk (S0 1071) (S0 1070 2))) (te := (zt_te (S0 1071) (S0 1070 2))) (tv := (zt_tv (S0 1071) (S0 1070 2))) (c := zt_co (S0 1070 4) (zt_wl (S0 1071) (S0 1070 5) (S0 1070 3) 20)) (p := S0 1070 3) (by omega); have h8 : zt_pw (zt_tk (S0 1071) (S0 1070 2)) (zt_te (S0 1071) (S0 1070 2)) (zt_tv (S0 1071) (S0 1070 2)) (zt_co (S0 1070 4) (zt_wl (S0 1071) (S0 1070 5) (S0 1070 3) 20)) (S0 1070 3) = 6 := (by rw [h9.1] at h6 ⊢; split; rfl; rename_i h5; rw [if_neg h5] at h6; exact absurd rfl h6); rw [h8]; exact h7))) (fun h7 => Or.inl (by have h9 := zt_pwB (tk := (zt_tk (S0 1071) (S0 1070 2))) (te := (zt_te (S0 1071) (S0 1070 2))) (tv := (zt_tv (S0 1071) (S0 1070 2))) (c := zt_co (S0 1070 4) (zt_wl (S0 1071) (S0 1070 5) (S0 1070 3) 20)) (p := S0 1070 3) (by omega); rw [h9.1, if_neg (by omega)]))⟩), fun h => absurd h (by decide), by omega, by omega⟩
            · exfalso; omega
          · refine zz_if_eq (by omega) zd_2_5_36 (fun c146 => ?_) (fun c146 => ?_)
            · exfalso; omega
            · skip
              refine zz_aload_n (x := 1072) rfl zd_2_5_39 ?_
              refine zz_getr (kd := 0) (z := 1070) zd_2_5_40 zf_Assembler_9 zT_1072 rfl (zz_ltn hn rfl) (zz_G.eq G_S136 1072 0 1070 rfl rfl) (by decide) 1070 rfl ?_
              refine zz_ldcs (t := 12) (by decide +kernel) (by decide) zd_2_5_43 ?_
              have e147 : S136 1070 2 = S0 1070 2 := (zz_rc fS136 rfl rfl (fun h => h) rfl)
              have g148 := zz_G.r G_S136 1070 3 0 1500 rfl rfl
              refine zz_callVI [.ref (100 + 12)] zd_2_5_45 zk_Assembler_75 zT_1070 (zz_ltn hn rfl) rfl rfl ⟨Nat.le_of_ble_eq_true rfl, Nat.le_of_ble_eq_true rfl⟩ ⟨rfl, rfl⟩ (Nat.zero_le _) (Nat.zero_le _) (zc_nextIsWord_11_10 12 S136 n hn G_S136 (by omega)) (fun v150 S149 hP => ?_)
              obtain ⟨G_S149, fS149, o151, o152, o153, o154, o155, o156, o157, o158, o159, o160, o161⟩ := hP
              rw [show S136 1071 = S0 1071 from funext (fun u => (zz_rc fS136 (zz_nc1 rfl) rfl (fun h => h) rfl)), show S136 1070 2 = S0 1070 2 from (zz_rc fS136 rfl rfl (fun h => h) rfl)] at o152
              rw [show S136 1071 = S0 1071 from funext (fun u => (zz_rc fS136 (zz_nc1 rfl) rfl (fun h => h) rfl)), show S136 1070 2 = S0 1070 2 from (zz_rc fS136 rfl rfl (fun h => h) rfl)] at o153
              rw [show S136 1071 = S0 1071 from funext (fun u => (zz_rc fS136 (zz_nc1 rfl) rfl (fun h => h) rfl)), show S136 1070 2 = S0 1070 2 from (zz_rc fS136 rfl rfl (fun h => h) rfl)] at o154
              rw [show S136 1070 2 = S0 1070 2 from (zz_rc fS136 rfl rfl (fun h => h) rfl)] at o159
              rw [show S136 1071 = S0 1071 from funext (fun u => (zz_rc fS136 (zz_nc1 rfl) rfl (fun h => h) rfl))] at o160
              rw [show S136 1071 = S0 1071 from funext (fun u => (zz_rc fS136 (zz_nc1 rfl) rfl (fun h => h) rfl)), show S136 1070 2 = S0 1070 2 from (zz_rc fS136 rfl rfl (fun h => h) rfl)] at o161
              have F_S149 := zz_fr.trans F_S136 fS149 rfl zz_nv
              rcases (by omega : v150 = 0 ∨ v150 = 1) with rfl | rfl
              · have hw12 := zt_ISW (t := 12) (w := 12) (by decide) rfl (by decide) o160
                refine zz_if_eq (by omega) zd_2_5_48 (fun c162 => ?_) (fun c162 => ?_)
                · refine zz_iconst zd_2_5_64 ?_
                  have g163 := zz_G.r G_S149 1070 3 0 1500 rfl rfl
                  have g164 := zz_G.r G_S136 1072 3 (-2147483648) 2147483647 rfl rfl
                  have e165 : S149 1072 3 = S136 1072 3 := (zz_rc fS149 rfl rfl (fun h => h) rfl)
                  exact zz_zret zd_2_5_65 rfl (by omega) (Nat.zero_le _) (Nat.zero_le _) ⟨_, _, rfl, G_S149, F_S149, by omega, (Or.inr ⟨rfl, Or.inl (by have h9 := zt_pwB (tk := (zt_tk (S0 1071) (S0 1070 2))) (te := (zt_te (S0 1071) (S0 1070 2))) (tv := (zt_tv (S0 1071) (S0 1070 2))) (c := zt_co (S0 1070 4) (zt_wl (S0 1071) (S0 1070 5) (S0 1070 3) 20)) (p := S0 1070 3) (by omega); rw [h9.1, show zt_te (S0 1071) (S0 1070 2) (S0 1070 3) = S136 1070 3 by omega, if_neg (by omega)])⟩), fun h => absurd h (by decide), by omega, by omega⟩
                · exfalso; omega
              · have hw12 := zt_ISW (t := 12) (w := 12) (by decide) rfl (by decide) o160
                refine zz_if_eq (by omega) zd_2_5_48 (fun c166 => ?_) (fun c166 => ?_)
                · exfalso; omega
                · skip
                  refine zz_aload_n (x := 1072) rfl zd_2_5_51 ?_
                  refine zz_bipush (by decide) zd_2_5_52 ?_
                  have e167 : S149 1070 2 = S0 1070 2 := (zz_rc fS149 rfl rfl (fun h => h) (zz_rc fS136 rfl rfl (fun h => h) rfl))
                  have g168 := zz_G.r G_S149 1070 3 0 1500 rfl rfl
                  have g169 := zz_G.r G_S136 1072 3 (-2147483648) 2147483647 rfl rfl
                  have e170 : S149 1072 3 = S136 1072 3 := (zz_rc fS149 rfl rfl (fun h => h) rfl)
                  refine zz_callVI [zi 7] zd_2_5_54 zk_Assembler_67 zT_1072 (zz_ltn hn rfl) rfl rfl ⟨Nat.le_of_ble_eq_true rfl, Nat.le_of_ble_eq_true rfl⟩ ⟨rfl, rfl⟩ (Nat.zero_le _) (Nat.zero_le _) (zc_readNumber_2_6_7  S149 n hn G_S149 ) (fun v172 S171 hP => ?_)
                  obtain ⟨G_S171, fS171, o173, o174, o175, o176, o177⟩ := hP
                  rw [show S149 1071 = S0 1071 from funext (fun u => (zz_rc fS149 (zz_nc1 rfl) rfl (fun h => h) (zz_rc fS136 (zz_nc1 rfl) rfl (fun h => h) rfl))), show S149 1070 2 = S0 1070 2 from (zz_rc fS149 rfl rfl (fun h => h) (zz_rc fS136 rfl rfl (fun h => h) rfl)), show S149 1072 3 = S136 1072 3 from (zz_rc fS149 rfl rfl (fun h => h) rfl)] at o174
                  rw [show S149 1072 3 = S136 1072 3 from (zz_rc fS149 rfl rfl (fun h => h) rfl)] at o175
                  rw [show S149 1070 2 = S0 1070 2 from (zz_rc fS149 rfl rfl (fun h => h) (zz_rc fS136 rfl rfl (fun h => h) rfl))] at o177
                  have F_S171 := zz_fr.trans F_S149 fS171 rfl zz_nv
                  rcases (by omega : v172 = 0 ∨ v172 = 1) with rfl | rfl
                  · refine zz_if_eq (by omega) zd_2_5_57 (fun c178 => ?_) (fun c178 => ?_)
                    · refine zz_iconst zd_2_5_64 ?_
                      have g179 := zz_G.r G_S171 1070 3 0 1500 rfl rfl
                      have g180 := zz_G.r G_S171 1072 3 (-2147483648) 2147483647 rfl rfl
                      exact zz_zret zd_2_5_65 rfl (by omega) (Nat.zero_le _) (Nat.zero_le _) ⟨_, _, rfl, G_S171, F_S171, by omega, (Or.inr ⟨rfl, Or.inl (by have h9 := zt_pwB (tk := (zt_tk (S0 1071) (S0 1070 2))) (te := (zt_te (S0 1071) (S0 1070 2))) (tv := (zt_tv (S0 1071) (S0 1070 2))) (c := zt_co (S0 1070 4) (zt_wl (S0 1071) (S0 1070 5) (S0 1070 3) 20)) (p := S0 1070 3) (by omega); have h7 := zt_bi7 hb (by omega) (o140 rfl); rw [h9.1, show zt_te (S0 1071) (S0 1070 2) (S0 1070 3) = S136 1070 3 by omega, show zt_te (S0 1071) (S0 1070 2) (S136 1070 3) = S149 1070 3 by omega, if_neg (by omega)])⟩), fun h => absurd h (by decide), by omega, by omega⟩
                    · exfalso; omega
                  · refine zz_if_eq (by omega) zd_2_5_57 (fun c181 => ?_) (fun c181 => ?_)
                    · exfalso; omega
                    · refine zz_iconst zd_2_5_60 ?_
                      refine zz_goto zd_2_5_61 ?_
                      have g182 := zz_G.r G_S171 1070 3 0 1500 rfl rfl
                      have g183 := zz_G.r G_S171 1072 3 (-2147483648) 2147483647 rfl rfl
                      exact zz_zret zd_2_5_65 rfl (by omega) (Nat.zero_le _) (Nat.zero_le _) ⟨_, _, rfl, G_S171, F_S171, by omega, (by have h9 := zt_pwB (tk := (zt_tk (S0 1071) (S0 1070 2))) (te := (zt_te (S0 1071) (S0 1070 2))) (tv := (zt_tv (S0 1071) (S0 1070 2))) (c := zt_co (S0 1070 4) (zt_wl (S0 1071) (S0 1070 5) (S0 1070 3) 20)) (p := S0 1070 3) (by omega); have h8 : zt_pw (zt_tk (S0 1071) (S0 1070 2)) (zt_te (S0 1071) (S0 1070 2)) (zt_tv (S0 1071) (S0 1070 2)) (zt_co (S0 1070 4) (zt_wl (S0 1071) (S0 1070 5) (S0 1070 3) 20)) (S0 1070 3) = 6 := (by rw [h9.1, show zt_te (S0 1071) (S0 1070 2) (S0 1070 3) = S136 1070 3 by omega, show zt_te (S0 1071) (S0 1070 2) (S136 1070 3) = S149 1070 3 by omega, if_pos (by omega)]); exact Or.inl ⟨rfl, by omega, by rw [h8]; show zt_bi (S0 1072 3) 6 = 0; omega, by rw [h9.2, show zt_te (S0 1071) (S0 1070 2) (S0 1070 3) = S136 1070 3 by omega, show zt_te (S0 1071) (S0 1070 2) (S136 1070 3) = S149 1070 3 by omega]; omega, by omega⟩), fun _ => (by have h9 := zt_pwB (tk := (zt_tk (S0 1071) (S0 1070 2))) (te := (zt_te (S0 1071) (S0 1070 2))) (tv := (zt_tv (S0 1071) (S0 1070 2))) (c := zt_co (S0 1070 4) (zt_wl (S0 1071) (S0 1070 5) (S0 1070 3) 20)) (p := S0 1070 3) (by omega); have h8 : zt_pw (zt_tk (S0 1071) (S0 1070 2)) (zt_te (S0 1071) (S0 1070 2)) (zt_tv (S0 1071) (S0 1070 2)) (zt_co (S0 1070 4) (zt_wl (S0 1071) (S0 1070 5) (S0 1070 3) 20)) (S0 1070 3) = 6 := (by rw [h9.1, show zt_te (S0 1071) (S0 1070 2) (S0 1070 3) = S136 1070 3 by omega, show zt_te (S0 1071) (S0 1070 2) (S136 1070 3) = S149 1070 3 by omega, if_pos (by omega)]); rw [h8]; exact zt_up6 (o140 rfl) (o175 rfl)), by omega, by omega⟩
    · exfalso; omega
  · have hw10 := zt_ISY (t := 10) (w := 10) (by decide) rfl (by decide) o7
    refine zz_if_eq (by omega) zd_2_5_9 (fun c184 => ?_) (fun c184 => ?_)
    · exfalso; omega
    · skip
      refine zz_aload_n (x := 1072) rfl zd_2_5_12 ?_
      refine zz_iconst zd_2_5_13 ?_
      have g185 := zz_G.r G_S0 1070 2 (-1) 1500 rfl rfl
      have g186 := zz_G.r G_S0 1072 3 (-2147483648) 2147483647 rfl rfl
      refine zz_callVI [zi 5] zd_2_5_14 zk_Assembler_67 zT_1072 (zz_ltn hn rfl) rfl rfl ⟨Nat.le_of_ble_eq_true rfl, Nat.le_of_ble_eq_true rfl⟩ ⟨rfl, rfl⟩ (Nat.zero_le _) (Nat.zero_le _) (zc_readNumber_2_6_5  S0 n hn G_S0 ) (fun v188 S187 hP => ?_)
      obtain ⟨G_S187, fS187, o189, o190, o191, o192, o193⟩ := hP
      have F_S187 := zz_fr.trans F_S0 fS187 rfl zz_nv
      rcases (by omega : v188 = 0 ∨ v188 = 1) with rfl | rfl
      · have g194 := zz_G.r G_S187 1070 3 0 1500 rfl rfl
        have g195 := zz_G.r G_S187 1072 3 (-2147483648) 2147483647 rfl rfl
        exact zz_zret zd_2_5_17 rfl (by omega) (Nat.zero_le _) (Nat.zero_le _) ⟨_, _, rfl, G_S187, F_S187, by omega, (Or.inr ⟨rfl, (Decidable.em (zt_tk (S0 1071) (S0 1070 2) (S0 1070 3) = 100 ∧ zt_tv (S0 1071) (S0 1070 2) (S0 1070 3) ≤ 4095)).elim (fun h7 => Or.inr (by have h9 := zt_pwA (tk := (zt_tk (S0 1071) (S0 1070 2))) (te := (zt_te (S0 1071) (S0 1070 2))) (tv := (zt_tv (S0 1071) (S0 1070 2))) (c := zt_co (S0 1070 4) (zt_wl (S0 1071) (S0 1070 5) (S0 1070 3) 20)) (p := S0 1070 3) (K := zt_tk (S0 1071) (S0 1070 2) (S0 1070 3)) (V := zt_tv (S0 1071) (S0 1070 2) (S0 1070 3)) (m := 4095) (w := 5) rfl (fun _ => rfl) (by omega); rw [h9.1, if_pos h7]; show zt_bi (S0 1072 3) 5 = 1; omega)) (fun h7 => Or.inl (by have h9 := zt_pwA (tk := (zt_tk (S0 1071) (S0 1070 2))) (te := (zt_te (S0 1071) (S0 1070 2))) (tv := (zt_tv (S0 1071) (S0 1070 2))) (c := zt_co (S0 1070 4) (zt_wl (S0 1071) (S0 1070 5) (S0 1070 3) 20)) (p := S0 1070 3) (K := zt_tk (S0 1071) (S0 1070 2) (S0 1070 3)) (V := zt_tv (S0 1071) (S0 1070 2) (S0 1070 3)) (m := 4095) (w := 5) rfl (fun _ => rfl) (by omega); rw [h9.1, if_neg h7]))⟩), fun h => absurd h (by decide), by omega, by omega⟩
      · have g196 := zz_G.r G_S187 1070 3 0 1500 rfl rfl
        have g197 := zz_G.r G_S187 1072 3 (-2147483648) 2147483647 rfl rfl
        exact zz_zret zd_2_5_17 rfl (by omega) (Nat.zero_le _) (Nat.zero_le _) ⟨_, _, rfl, G_S187, F_S187, by omega, (by have h9 := zt_pwA (tk := (zt_tk (S0 1071) (S0 1070 2))) (te := (zt_te (S0 1071) (S0 1070 2))) (tv := (zt_tv (S0 1071) (S0 1070 2))) (c := zt_co (S0 1070 4) (zt_wl (S0 1071) (S0 1070 5) (S0 1070 3) 20)) (p := S0 1070 3) (K := zt_tk (S0 1071) (S0 1070 2) (S0 1070 3)) (V := zt_tv (S0 1071) (S0 1070 2) (S0 1070 3)) (m := 4095) (w := 5) rfl (fun _ => rfl) (by omega); have h8 : zt_pw (zt_tk (S0 1071) (S0 1070 2)) (zt_te (S0 1071) (S0 1070 2)) (zt_tv (S0 1071) (S0 1070 2)) (zt_co (S0 1070 4) (zt_wl (S0 1071) (S0 1070 5) (S0 1070 3) 20)) (S0 1070 3) = 5 := (by rw [h9.1, if_pos (by omega)]); exact Or.inl ⟨rfl, by omega, by rw [h8]; show zt_bi (S0 1072 3) 5 = 0; omega, by rw [h9.2]; omega, by omega⟩), fun _ => (by have h9 := zt_pwA (tk := (zt_tk (S0 1071) (S0 1070 2))) (te := (zt_te (S0 1071) (S0 1070 2))) (tv := (zt_tv (S0 1071) (S0 1070 2))) (c := zt_co (S0 1070 4) (zt_wl (S0 1071) (S0 1070 5) (S0 1070 3) 20)) (p := S0 1070 3) (K := zt_tk (S0 1071) (S0 1070 2) (S0 1070 3)) (V := zt_tv (S0 1071) (S0 1070 2) (S0 1070 3)) (m := 4095) (w := 5) rfl (fun _ => rfl) (by omega); have h8 : zt_pw (zt_tk (S0 1071) (S0 1070 2)) (zt_te (S0 1071) (S0 1070 2)) (zt_tv (S0 1071) (S0 1070 2)) (zt_co (S0 1070 4) (zt_wl (S0 1071) (S0 1070 5) (S0 1070 3) 20)) (S0 1070 3) = 5 := (by rw [h9.1, if_pos (by omega)]); rw [h8]; exact zt_up1 (o191 rfl) rfl (by decide)), by omega, by omega⟩
theorem zk_Assembler_54 : mm_Vl "TensorForge$Assembler" 54 7 0 zy_readPart_2_5 := ⟨zyw_readPart_2_5, (R_Assembler, F_Assembler, 4), rfl, mm_tb_1 649 (by decide +kernel) rfl, mm_tb_1 651 (by decide +kernel) rfl, mm_tb_s 9 (by decide +kernel) rfl⟩
theorem zg_2_3_58 : zq_at zy_readInstruction_2_3.2.1 58 154 ∧ zq_at zy_readInstruction_2_3.2.1 59 0 ∧ zq_at zy_readInstruction_2_3.2.1 60 5 ∧ zq_at zy_readInstruction_2_3.2.1 61 3 ∧ zq_at zy_readInstruction_2_3.2.1 62 172 ∧ zq_at zy_readInstruction_2_3.2.1 63 132 ∧ zq_at zy_readInstruction_2_3.2.1 64 2 ∧ zq_at zy_readInstruction_2_3.2.1 65 1 ∧ zq_at zy_readInstruction_2_3.2.1 66 167 ∧ zq_at zy_readInstruction_2_3.2.1 67 255 ∧ zq_at zy_readInstruction_2_3.2.1 68 218 ∧ zq_at zy_readInstruction_2_3.2.1 52 4 ∧ zq_at zy_readInstruction_2_3.2.1 53 172 := by decide +kernel
theorem zd_2_3_58 : zz_B zy_readInstruction_2_3 58 (Instr.ifCond .ne) 63 61 := ⟨5, zq_154 zg_2_3_58.1 zg_2_3_58.2.1 zg_2_3_58.2.2.1 (by decide), rfl, rfl⟩
theorem zd_2_3_61 : zz_D zy_readInstruction_2_3 61 (.iconst 0) 1 62 := ⟨zq_3 zg_2_3_58.2.2.2.1, rfl⟩
theorem zd_2_3_62 : zz_D zy_readInstruction_2_3 62 (.ireturn) 1 63 := ⟨zq_172 zg_2_3_58.2.2.2.2.1, rfl⟩
theorem zd_2_3_63 : zz_D zy_readInstruction_2_3 63 (.iinc 2 1) 3 66 := ⟨zq_132 zg_2_3_58.2.2.2.2.2.1 zg_2_3_58.2.2.2.2.2.2.1 zg_2_3_58.2.2.2.2.2.2.2.1 (by decide), rfl⟩
theorem zd_2_3_66 : zz_B zy_readInstruction_2_3 66 Instr.goto 28 69 := ⟨(-38), zq_167 zg_2_3_58.2.2.2.2.2.2.2.2.1 zg_2_3_58.2.2.2.2.2.2.2.2.2.1 zg_2_3_58.2.2.2.2.2.2.2.2.2.2.1 (by decide), rfl, rfl⟩
theorem zd_2_3_52 : zz_D zy_readInstruction_2_3 52 (.iconst 1) 1 53 := ⟨zq_4 zg_2_3_58.2.2.2.2.2.2.2.2.2.2.2.1, rfl⟩
theorem zd_2_3_53 : zz_D zy_readInstruction_2_3 53 (.ireturn) 1 54 := ⟨zq_172 zg_2_3_58.2.2.2.2.2.2.2.2.2.2.2.2, rfl⟩
-- TensorForge$Assembler readInstruction ()Z
abbrev zr_readInstruction_2_3 : Room := { frames := 8, cells := 0, slots := 0, locals := 107 }
def zp_readInstruction_2_3  (S0 : zz_S) : Int → zz_S → Prop := fun r S => zz_G S ∧ zz_fr [(1070, 3), (1070, 4), (1070, 5), (1070, 6), (1072, 2), (1072, 3)] [] (fun _ _ => False) S0 S ∧ (0 ≤ r ∧ r ≤ 1) ∧ ((r = 1 ∧ zt_l2 (zt_tk (S0 1071) (S0 1070 2)) (zt_te (S0 1071) (S0 1070 2)) (zt_tv (S0 1071) (S0 1070 2)) (zt_co (S0 1070 4) (zt_wl (S0 1071) (S0 1070 5) (S0 1070 3) 20)) (S0 1070 3) = 1) ∨ (r = 0 ∧ zt_l2 (zt_tk (S0 1071) (S0 1070 2)) (zt_te (S0 1071) (S0 1070 2)) (zt_tv (S0 1071) (S0 1070 2)) (zt_co (S0 1070 4) (zt_wl (S0 1071) (S0 1070 5) (S0 1070 3) 20)) (S0 1070 3) ≠ 1))
theorem zb_readInstruction_2_3_28 {g : mm_G} {l : Launch}  (S0 : zz_S) (n : Nat) (hn : zz_end ≤ n) (G_S0 : zz_G S0) (h0 : S0 1070 3 ≤ S0 1070 2) (x2 : Int) (S : zz_S) (G_S : zz_G S) (F_S : zz_fr [(1070, 3), (1070, 4), (1070, 5), (1070, 6), (1072, 2), (1072, 3)] [] (fun _ _ => False) S0 S) (i28_0 : 0 ≤ x2 ∧ x2 ≤ 1501) (i28_1 : 1 ≤ zt_co (S0 1070 4) (zt_wl (S0 1071) (S0 1070 5) (S0 1070 3) 20) ∧ zt_co (S0 1070 4) (zt_wl (S0 1071) (S0 1070 5) (S0 1070 3) 20) ≤ 9) (i28_2 : x2 ≤ S 1070 3) (i28_3 : S 1070 3 ≤ S0 1070 2) (i28_4 : zt_IC (zt_tk (S0 1071) (S0 1070 2)) (zt_te (S0 1071) (S0 1070 2)) (zt_tv (S0 1071) (S0 1070 2)) (S 1072 3) (S 1070 3) (zt_pa (zt_tk (S0 1071) (S0 1070 2)) (zt_te (S0 1071) (S0 1070 2)) (zt_tv (S0 1071) (S0 1070 2)) 1600 (zt_tk (S0 1071) (S0 1070 2) (S0 1070 3)) (zt_te (S0 1071) (S0 1070 2) (S0 1070 3)) (fun _ => false))) (i28_5 : zt_bi (S 1072 3) 7 = zt_bi (S 1072 3) 6) (R : Nat) (hR : (1500 + 1 - x2).toNat = R) (k28 : ∀ (x2 : Int) (S : zz_S), zz_G S → zz_fr [(1070, 3), (1070, 4), (1070, 5), (1070, 6), (1072, 2), (1072, 3)] [] (fun _ _ => False) S0 S → (0 ≤ x2 ∧ x2 ≤ 1501) → (1 ≤ zt_co (S0 1070 4) (zt_wl (S0 1071) (S0 1070 5) (S0 1070 3) 20) ∧ zt_co (S0 1070 4) (zt_wl (S0 1071) (S0 1070 5) (S0 1070 3) 20) ≤ 9) → (x2 ≤ S 1070 3) → (S 1070 3 ≤ S0 1070 2) → (zt_IC (zt_tk (S0 1071) (S0 1070 2)) (zt_te (S0 1071) (S0 1070 2)) (zt_tv (S0 1071) (S0 1070 2)) (S 1072 3) (S 1070 3) (zt_pa (zt_tk (S0 1071) (S0 1070 2)) (zt_te (S0 1071) (S0 1070 2)) (zt_tv (S0 1071) (S0 1070 2)) 1600 (zt_tk (S0 1071) (S0 1070 2) (S0 1070 3)) (zt_te (S0 1071) (S0 1070 2) (S0 1070 3)) (fun _ => false))) → (zt_bi (S 1072 3) 7 = zt_bi (S 1072 3) 6) → (1500 + 1 - x2).toNat < R → zz_E g l zy_readInstruction_2_3 zr_readInstruction_2_3 (zz_QI n (zp_readInstruction_2_3  S0)) S n 28 [some (.ref 1072), none, some (zi x2)] [] 0 0) : zz_E g l zy_readInstruction_2_3 zr_readInstruction_2_3 (zz_QI n (zp_readInstruction_2_3  S0)) S n 28 [some (.ref 1072), none, some (zi x2)] [] 0 0 := by
  have gb9 := zz_G.r G_S0 1070 2 (-1) 1500 rfl rfl
  refine zz_iload_n (x := x2) rfl zd_2_3_28 ?_
  refine zz_sipush (by decide) zd_2_3_29 ?_
  refine zz_icmp_gt (by omega) (by omega) zd_2_3_32 (fun c16 => ?_) (fun c16 => ?_)
  · refine zz_iconst zd_2_3_69 ?_
    exact zz_zret zd_2_3_70 rfl (by omega) (Nat.zero_le _) (Nat.zero_le _) ⟨_, _, rfl, G_S, F_S, by omega, (by exfalso; omega)⟩
  · refine zz_aload_n (x := 1072) rfl zd_2_3_35 ?_
    refine zz_getr (kd := 0) (z := 1070) zd_2_3_36 zf_Assembler_9 zT_1072 rfl (zz_ltn hn rfl) (zz_G.eq G_S 1072 0 1070 rfl rfl) (by decide) 1070 rfl ?_
    have g17 := zz_G.r G_S0 1070 2 (-1) 1500 rfl rfl
    have e18 : S 1070 2 = S0 1070 2 := (zz_rc F_S rfl rfl (fun h => h) rfl)
    have g19 := zz_G.r G_S 1070 3 0 1500 rfl rfl
    have g20 := zz_G.r G_S 1070 4 (-2147483648) 2147483647 rfl rfl
    have g21 := zz_G.r G_S 1070 5 0 1500 rfl rfl
    have g22 := zz_G.r G_S 1070 6 (-2147483648) 2147483647 rfl rfl
    refine zz_callVV [] zd_2_3_39 zk_Assembler_35 zT_1070 (zz_ltn hn rfl) rfl rfl ⟨Nat.le_of_ble_eq_true rfl, Nat.le_of_ble_eq_true rfl⟩ ⟨rfl, rfl⟩ (Nat.zero_le _) (Nat.zero_le _) (zc_nextToken_11_7  S n hn G_S ) (fun S23 hP => ?_)
    obtain ⟨G_S23, fS23, o25, o26, o27, o28, o29, o30, o31, o32, o33⟩ := hP
    rw [show S 1071 = S0 1071 from funext (fun u => (zz_rc F_S (zz_nc1 rfl) rfl (fun h => h) rfl)), show S 1070 2 = S0 1070 2 from (zz_rc F_S rfl rfl (fun h => h) rfl)] at o25
    rw [show S 1071 = S0 1071 from funext (fun u => (zz_rc F_S (zz_nc1 rfl) rfl (fun h => h) rfl)), show S 1070 2 = S0 1070 2 from (zz_rc F_S rfl rfl (fun h => h) rfl)] at o26
    rw [show S 1071 = S0 1071 from funext (fun u => (zz_rc F_S (zz_nc1 rfl) rfl (fun h => h) rfl)), show S 1070 2 = S0 1070 2 from (zz_rc F_S rfl rfl (fun h => h) rfl)] at o27
    rw [show S 1070 2 = S0 1070 2 from (zz_rc F_S rfl rfl (fun h => h) rfl)] at o32
    rw [show S 1071 = S0 1071 from funext (fun u => (zz_rc F_S (zz_nc1 rfl) rfl (fun h => h) rfl)), show S 1070 2 = S0 1070 2 from (zz_rc F_S rfl rfl (fun h => h) rfl)] at o33
    have F_S23 := zz_fr.trans F_S fS23 rfl zz_nv
    have hz9 := zt_c0 (s := S23 1070 4) (f := (S0 1071)) (q := S23 1070 5) (p := S23 1070 3) (by omega)
    refine zz_aload_n (x := 1072) rfl zd_2_3_42 ?_
    refine zz_getr (kd := 0) (z := 1070) zd_2_3_43 zf_Assembler_9 zT_1072 rfl (zz_ltn hn rfl) (zz_G.eq G_S23 1072 0 1070 rfl rfl) (by decide) 1070 rfl ?_
    have g34 := zz_G.r G_S23 1070 4 (-2147483648) 2147483647 rfl rfl
    refine zz_geti (z := S23 1070 4) zd_2_3_46 zf_Assembler_38 zT_1070 rfl (zz_ltn hn rfl) rfl ?_
    refine zz_if_ne (by omega) zd_2_3_49 (fun c35 => ?_) (fun c35 => ?_)
    · refine zz_aload_n (x := 1072) rfl zd_2_3_54 ?_
      have g36 := zz_G.r G_S 1072 3 (-2147483648) 2147483647 rfl rfl
      have e37 : S23 1072 3 = S 1072 3 := (zz_rc fS23 rfl rfl (fun h => h) rfl)
      have e38 : S23 1070 2 = S0 1070 2 := (zz_rc fS23 rfl rfl (fun h => h) (zz_rc F_S rfl rfl (fun h => h) rfl))
      have g39 := zz_G.r G_S23 1070 3 0 1500 rfl rfl
      have g40 := zz_G.r G_S23 1070 5 0 1500 rfl rfl
      refine zz_callVI [] zd_2_3_55 zk_Assembler_54 zT_1072 (zz_ltn hn rfl) rfl rfl ⟨Nat.le_of_ble_eq_true rfl, Nat.le_of_ble_eq_true rfl⟩ ⟨rfl, rfl⟩ (Nat.zero_le _) (Nat.zero_le _) (zc_readPart_2_5  S23 n hn G_S23 (by rw [show S23 1072 3 = S 1072 3 by omega]; exact i28_5)) (fun v42 S41 hP => ?_)
      obtain ⟨G_S41, fS41, o43, o44, o45, o46, o47⟩ := hP
      rw [show S23 1071 = S0 1071 from funext (fun u => (zz_rc fS23 (zz_nc1 rfl) rfl (fun h => h) (zz_rc F_S (zz_nc1 rfl) rfl (fun h => h) rfl))), show S23 1070 2 = S0 1070 2 from (zz_rc fS23 rfl rfl (fun h => h) (zz_rc F_S rfl rfl (fun h => h) rfl)), show S23 1072 3 = S 1072 3 from (zz_rc fS23 rfl rfl (fun h => h) rfl)] at o44
      rw [show S23 1071 = S0 1071 from funext (fun u => (zz_rc fS23 (zz_nc1 rfl) rfl (fun h => h) (zz_rc F_S (zz_nc1 rfl) rfl (fun h => h) rfl))), show S23 1070 2 = S0 1070 2 from (zz_rc fS23 rfl rfl (fun h => h) (zz_rc F_S rfl rfl (fun h => h) rfl)), show S23 1072 3 = S 1072 3 from (zz_rc fS23 rfl rfl (fun h => h) rfl)] at o45
      rw [show S23 1070 2 = S0 1070 2 from (zz_rc fS23 rfl rfl (fun h => h) (zz_rc F_S rfl rfl (fun h => h) rfl))] at o47
      have F_S41 := zz_fr.trans F_S23 fS41 rfl zz_nv
      rcases (by omega : v42 = 0 ∨ v42 = 1) with rfl | rfl
      · refine zz_if_ne (by omega) zd_2_3_58 (fun c48 => ?_) (fun c48 => ?_)
        · exfalso; omega
        · refine zz_iconst zd_2_3_61 ?_
          exact zz_zret zd_2_3_62 rfl (by omega) (Nat.zero_le _) (Nat.zero_le _) ⟨_, _, rfl, G_S41, F_S41, by omega, (Or.inr ⟨rfl, by have h9 := zt_ICN i28_4 (by omega) o25 o26 (by omega) (o44.resolve_left (fun h => absurd h.1 (by decide))).2; unfold zt_l2; rw [if_pos (by omega), if_neg (by omega)]; decide⟩)⟩
      · refine zz_if_ne (by omega) zd_2_3_58 (fun c49 => ?_) (fun c49 => ?_)
        · refine zz_iinc [some (.ref 1072), none, some (zi (x2 + 1))] zd_2_3_63 rfl rfl ?_
          refine zz_goto zd_2_3_66 ?_
          have g50 := zz_G.r G_S41 1070 3 0 1500 rfl rfl
          have g51 := zz_G.r G_S41 1072 3 (-2147483648) 2147483647 rfl rfl
          refine zz_less (ls1 := [some (.ref 1072), none, some (zi (x2 + 1))]) ⟨rfl, ⟨rfl, trivial⟩⟩ ?_
          exact k28 (x2 + 1) S41 G_S41 F_S41 (by omega) (by omega) (by omega) (by omega) (by have h9 := o44.resolve_right (fun h => absurd h.1 (by decide)); exact zt_ICS i28_4 (by omega) o25 o26 (by omega) h9.2.1 h9.2.2.1 (o45 rfl) h9.2.2.2.1 (by omega)) (zt_up67 (o45 rfl) i28_5 (by have h9 := zt_pwr (zt_tk (S0 1071) (S0 1070 2)) (zt_te (S0 1071) (S0 1070 2)) (zt_tv (S0 1071) (S0 1070 2)) (zt_co (S23 1070 4) (zt_wl (S0 1071) (S23 1070 5) (S23 1070 3) 20)) (S23 1070 3); omega)) (by omega)
        · exfalso; omega
    · refine zz_iconst zd_2_3_52 ?_
      exact zz_zret zd_2_3_53 rfl (by omega) (Nat.zero_le _) (Nat.zero_le _) ⟨_, _, rfl, G_S23, F_S23, by omega, (Or.inl ⟨rfl, by have h9 := zt_ICE i28_4 (by omega) (by omega); unfold zt_l2; rw [if_pos (by omega), if_pos h9]⟩)⟩
theorem zi_readInstruction_2_3 {g : mm_G} {l : Launch}  (S0 : zz_S) (n : Nat) (hn : zz_end ≤ n) (G_S0 : zz_G S0) (h0 : S0 1070 3 ≤ S0 1070 2) : ∀ N : Nat, (∀ (x2 : Int) (S : zz_S), zz_G S → zz_fr [(1070, 3), (1070, 4), (1070, 5), (1070, 6), (1072, 2), (1072, 3)] [] (fun _ _ => False) S0 S → (0 ≤ x2 ∧ x2 ≤ 1501) → (1 ≤ zt_co (S0 1070 4) (zt_wl (S0 1071) (S0 1070 5) (S0 1070 3) 20) ∧ zt_co (S0 1070 4) (zt_wl (S0 1071) (S0 1070 5) (S0 1070 3) 20) ≤ 9) → (x2 ≤ S 1070 3) → (S 1070 3 ≤ S0 1070 2) → (zt_IC (zt_tk (S0 1071) (S0 1070 2)) (zt_te (S0 1071) (S0 1070 2)) (zt_tv (S0 1071) (S0 1070 2)) (S 1072 3) (S 1070 3) (zt_pa (zt_tk (S0 1071) (S0 1070 2)) (zt_te (S0 1071) (S0 1070 2)) (zt_tv (S0 1071) (S0 1070 2)) 1600 (zt_tk (S0 1071) (S0 1070 2) (S0 1070 3)) (zt_te (S0 1071) (S0 1070 2) (S0 1070 3)) (fun _ => false))) → (zt_bi (S 1072 3) 7 = zt_bi (S 1072 3) 6) → (1500 + 1 - x2).toNat < N → zz_E g l zy_readInstruction_2_3 zr_readInstruction_2_3 (zz_QI n (zp_readInstruction_2_3  S0)) S n 28 [some (.ref 1072), none, some (zi x2)] [] 0 0) := by
  intro N
  induction N with
  | zero => exact fun x2 S _ _ _ _ _ _ _ _ h => absurd h (Nat.not_lt_zero _)
  | succ N ih =>
    exact fun x2 S a b j0 j1 j2 j3 j4 j5 hR => zb_readInstruction_2_3_28  S0 n hn G_S0 h0 x2 S a b j0 j1 j2 j3 j4 j5 _ rfl (fun x2 S a b j0 j1 j2 j3 j4 j5 h => ih x2 S a b j0 j1 j2 j3 j4 j5 (Nat.lt_of_lt_of_le h (Nat.le_of_lt_succ hR)))
theorem zc_readInstruction_2_3 {g : mm_G} {l : Launch}  (S0 : zz_S) (n : Nat) (hn : zz_end ≤ n) (G_S0 : zz_G S0) (h0 : S0 1070 3 ≤ S0 1070 2) : mm_Met g l zy_readInstruction_2_3 zr_readInstruction_2_3 [.ref 1072] (zz_M S0 n) n (zz_QI n (zp_readInstruction_2_3  S0)) := by
  refine zz_enter (by decide) (Nat.le_of_ble_eq_true rfl) (zz_less (ls1 := [some (.ref 1072)]) ⟨rfl, trivial⟩ ?_)
  have F_S0 : zz_fr [(1070, 3), (1070, 4), (1070, 5), (1070, 6), (1072, 2), (1072, 3)] [] (fun _ _ => False) S0 S0 := zz_fr.refl
  have k28 : ∀ (x2 : Int) (S : zz_S), zz_G S → zz_fr [(1070, 3), (1070, 4), (1070, 5), (1070, 6), (1072, 2), (1072, 3)] [] (fun _ _ => False) S0 S → (0 ≤ x2 ∧ x2 ≤ 1501) → (1 ≤ zt_co (S0 1070 4) (zt_wl (S0 1071) (S0 1070 5) (S0 1070 3) 20) ∧ zt_co (S0 1070 4) (zt_wl (S0 1071) (S0 1070 5) (S0 1070 3) 20) ≤ 9) → (x2 ≤ S 1070 3) → (S 1070 3 ≤ S0 1070 2) → (zt_IC (zt_tk (S0 1071) (S0 1070 2)) (zt_te (S0 1071) (S0 1070 2)) (zt_tv (S0 1071) (S0 1070 2)) (S 1072 3) (S 1070 3) (zt_pa (zt_tk (S0 1071) (S0 1070 2)) (zt_te (S0 1071) (S0 1070 2)) (zt_tv (S0 1071) (S0 1070 2)) 1600 (zt_tk (S0 1071) (S0 1070 2) (S0 1070 3)) (zt_te (S0 1071) (S0 1070 2) (S0 1070 3)) (fun _ => false))) → (zt_bi (S 1072 3) 7 = zt_bi (S 1072 3) 6) → zz_E g l zy_readInstruction_2_3 zr_readInstruction_2_3 (zz_QI n (zp_readInstruction_2_3  S0)) S n 28 [some (.ref 1072), none, some (zi x2)] [] 0 0 := fun x2 S a b j0 j1 j2 j3 j4 j5 => (zi_readInstruction_2_3 (g := g) (l := l)  S0 n hn G_S0 h0 _) x2 S a b j0 j1 j2 j3 j4 j5 (Nat.lt_succ_self _)
  have g3_ := zz_G.r G_S0 1070 3 0 1500 rfl rfl
  refine zz_aload_n (x := 1072) rfl zd_2_3_0 ?_
  have g1 := zz_G.r G_S0 1070 3 0 1500 rfl rfl
  have g2 := zz_G.r G_S0 1070 4 (-2147483648) 2147483647 rfl rfl
  have g3 := zz_G.r G_S0 1070 5 0 1500 rfl rfl
  refine zz_callVI [] zd_2_3_1 zk_Assembler_44 zT_1072 (zz_ltn hn rfl) rfl rfl ⟨Nat.le_of_ble_eq_true rfl, Nat.le_of_ble_eq_true rfl⟩ ⟨rfl, rfl⟩ (Nat.zero_le _) (Nat.zero_le _) (zc_kindTold_2_4  S0 n hn G_S0 ) (fun v5 S4 hP => ?_)
  obtain ⟨rfl, o6, o7⟩ := hP
  refine zz_istore_n [some (.ref 1072), some (zi v5)] zd_2_3_4 (by decide) rfl ?_
  refine zz_iload_n (x := v5) rfl zd_2_3_5 ?_
  refine zz_iconst zd_2_3_6 ?_
  refine zz_icmp_ne (by omega) (by omega) zd_2_3_7 (fun c8 => ?_) (fun c8 => ?_)
  · refine zz_aload_n (x := 1072) rfl zd_2_3_12 ?_
    refine zz_iconst zd_2_3_13 ?_
    refine zz_iload_n (x := v5) rfl zd_2_3_14 ?_
    refine zz_callSJ [zi 0, zi v5] zd_2_3_15 zk_Assembler_50 rfl rfl ⟨Nat.le_of_ble_eq_true rfl, Nat.le_of_ble_eq_true rfl⟩ ⟨rfl, rfl⟩ (Nat.zero_le _) (Nat.zero_le _) (zc_bits_12_4 0 v5 S0 n hn G_S0 (by omega) (by omega)) (fun v10 S9 hP => ?_)
    obtain ⟨rfl, o11⟩ := hP
    refine zz_putl zd_2_3_18 zf_Assembler_19 zT_1072 rfl (zz_ltn hn rfl) (fun S12 qS12 => ?_)
    have G_S12 := zz_G.put G_S0 qS12 (-9223372036854775808) 9223372036854775807 rfl (by omega)
    have F_S12 := zz_fr.puts F_S0 qS12 rfl
    refine zz_aload_n (x := 1072) rfl zd_2_3_21 ?_
    refine zz_iconst zd_2_3_22 ?_
    refine zz_puti zd_2_3_23 zf_Assembler_23 zT_1072 rfl (zz_ltn hn rfl) (fun S13 qS13 => ?_)
    have G_S13 := zz_G.put G_S12 qS13 (-2147483648) 2147483647 rfl (by omega)
    have F_S13 := zz_fr.puts F_S12 qS13 rfl
    refine zz_iconst zd_2_3_26 ?_
    refine zz_istore_n [some (.ref 1072), some (zi v5), some (zi 0)] zd_2_3_27 (by decide) rfl ?_
    have e14 : S13 1070 3 = S0 1070 3 := (zz_ro qS13 (fun h => absurd h.1 (by decide)) (zz_ro qS12 (fun h => absurd h.1 (by decide)) rfl))
    have e15 : S13 1072 3 = 0 := (zz_rs qS13)
    refine zz_less (ls1 := [some (.ref 1072), none, some (zi 0)]) ⟨rfl, ⟨rfl, trivial⟩⟩ ?_
    exact k28 0 S13 G_S13 F_S13 (by omega) (by omega) (by omega) (by omega) (by rw [show S13 1072 3 = 0 by omega, show S13 1070 3 = S0 1070 3 by omega]; exact zt_IC0 (by omega)) (by rw [show S13 1072 3 = 0 by omega]; unfold zt_bi; rw [zt_bt0, zt_bt0])
  · refine zz_iconst zd_2_3_10 ?_
    exact zz_zret zd_2_3_11 rfl (by omega) (Nat.zero_le _) (Nat.zero_le _) ⟨_, _, rfl, G_S0, F_S0, by omega, (Or.inr ⟨rfl, by unfold zt_l2; rw [if_neg (by omega)]; decide⟩)⟩
theorem zk_Assembler_41 : mm_Vl "TensorForge$Assembler" 41 7 0 zy_readInstruction_2_3 := ⟨zyw_readInstruction_2_3, (R_Assembler, F_Assembler, 4), rfl, mm_tb_1 573 (by decide +kernel) rfl, mm_tb_1 575 (by decide +kernel) rfl, mm_tb_s 7 (by decide +kernel) rfl⟩
theorem zg_2_2_71 : zq_at zy_readInto_2_2.2.1 71 154 ∧ zq_at zy_readInto_2_2.2.1 72 0 ∧ zq_at zy_readInto_2_2.2.1 73 5 ∧ zq_at zy_readInto_2_2.2.1 76 43 ∧ zq_at zy_readInto_2_2.2.1 77 42 ∧ zq_at zy_readInto_2_2.2.1 78 180 ∧ zq_at zy_readInto_2_2.2.1 79 0 ∧ zq_at zy_readInto_2_2.2.1 80 15 ∧ zq_at zy_readInto_2_2.2.1 81 42 ∧ zq_at zy_readInto_2_2.2.1 82 180 ∧ zq_at zy_readInto_2_2.2.1 83 0 ∧ zq_at zy_readInto_2_2.2.1 84 19 ∧ zq_at zy_readInto_2_2.2.1 85 80 ∧ zq_at zy_readInto_2_2.2.1 86 42 ∧ zq_at zy_readInto_2_2.2.1 87 89 ∧ zq_at zy_readInto_2_2.2.1 88 180 ∧ zq_at zy_readInto_2_2.2.1 89 0 ∧ zq_at zy_readInto_2_2.2.1 90 15 ∧ zq_at zy_readInto_2_2.2.1 91 4 ∧ zq_at zy_readInto_2_2.2.1 92 96 ∧ zq_at zy_readInto_2_2.2.1 93 181 ∧ zq_at zy_readInto_2_2.2.1 94 0 ∧ zq_at zy_readInto_2_2.2.1 95 15 := by decide +kernel
theorem zd_2_2_71 : zz_B zy_readInto_2_2 71 (Instr.ifCond .ne) 76 74 := ⟨5, zq_154 zg_2_2_71.1 zg_2_2_71.2.1 zg_2_2_71.2.2.1 (by decide), rfl, rfl⟩
theorem zd_2_2_76 : zz_D zy_readInto_2_2 76 (.aload_n 1) 1 77 := ⟨zq_43 zg_2_2_71.2.2.2.1, rfl⟩
theorem zd_2_2_77 : zz_D zy_readInto_2_2 77 (.aload_n 0) 1 78 := ⟨zq_42 zg_2_2_71.2.2.2.2.1, rfl⟩
theorem zd_2_2_78 : zz_D zy_readInto_2_2 78 (.getfield 15) 3 81 := ⟨zq_180 zg_2_2_71.2.2.2.2.2.1 zg_2_2_71.2.2.2.2.2.2.1 zg_2_2_71.2.2.2.2.2.2.2.1 rfl, rfl⟩
theorem zd_2_2_81 : zz_D zy_readInto_2_2 81 (.aload_n 0) 1 82 := ⟨zq_42 zg_2_2_71.2.2.2.2.2.2.2.2.1, rfl⟩
theorem zd_2_2_82 : zz_D zy_readInto_2_2 82 (.getfield 19) 3 85 := ⟨zq_180 zg_2_2_71.2.2.2.2.2.2.2.2.2.1 zg_2_2_71.2.2.2.2.2.2.2.2.2.2.1 zg_2_2_71.2.2.2.2.2.2.2.2.2.2.2.1 rfl, rfl⟩
theorem zd_2_2_85 : zz_D zy_readInto_2_2 85 (.lastore) 1 86 := ⟨zq_80 zg_2_2_71.2.2.2.2.2.2.2.2.2.2.2.2.1, rfl⟩
theorem zd_2_2_86 : zz_D zy_readInto_2_2 86 (.aload_n 0) 1 87 := ⟨zq_42 zg_2_2_71.2.2.2.2.2.2.2.2.2.2.2.2.2.1, rfl⟩
theorem zd_2_2_87 : zz_D zy_readInto_2_2 87 (.dup) 1 88 := ⟨zq_89 zg_2_2_71.2.2.2.2.2.2.2.2.2.2.2.2.2.2.1, rfl⟩
theorem zd_2_2_88 : zz_D zy_readInto_2_2 88 (.getfield 15) 3 91 := ⟨zq_180 zg_2_2_71.2.2.2.2.2.2.2.2.2.2.2.2.2.2.2.1 zg_2_2_71.2.2.2.2.2.2.2.2.2.2.2.2.2.2.2.2.1 zg_2_2_71.2.2.2.2.2.2.2.2.2.2.2.2.2.2.2.2.2.1 rfl, rfl⟩
theorem zd_2_2_91 : zz_D zy_readInto_2_2 91 (.iconst 1) 1 92 := ⟨zq_4 zg_2_2_71.2.2.2.2.2.2.2.2.2.2.2.2.2.2.2.2.2.2.1, rfl⟩
theorem zd_2_2_92 : zz_D zy_readInto_2_2 92 (.iadd) 1 93 := ⟨zq_96 zg_2_2_71.2.2.2.2.2.2.2.2.2.2.2.2.2.2.2.2.2.2.2.1, rfl⟩
theorem zd_2_2_93 : zz_D zy_readInto_2_2 93 (.putfield 15) 3 96 := ⟨zq_181 zg_2_2_71.2.2.2.2.2.2.2.2.2.2.2.2.2.2.2.2.2.2.2.2.1 zg_2_2_71.2.2.2.2.2.2.2.2.2.2.2.2.2.2.2.2.2.2.2.2.2.1 zg_2_2_71.2.2.2.2.2.2.2.2.2.2.2.2.2.2.2.2.2.2.2.2.2.2 rfl, rfl⟩
-- TensorForge$Assembler readInto ([J)I
abbrev zr_readInto_2_2 : Room := { frames := 9, cells := 0, slots := 0, locals := 121 }
def zp_readInto_2_2 (p0 : Int) (S0 : zz_S) : Int → zz_S → Prop := fun r S => zz_G S ∧ zz_fr [(1070, 2), (1070, 3), (1070, 4), (1070, 5), (1070, 6), (1072, 1), (1072, 2), (1072, 3)] [] (fun a i => a = zz_rf 4 p0) S0 S ∧ ((-2147483648) ≤ r ∧ r ≤ 2147483647) ∧ (r = zt_as (S0 1071) (S0 1070 1) 1502 0 0 0)
theorem zb_readInto_2_2_14 {g : mm_G} {l : Launch} (p0 : Int) (S0 : zz_S) (n : Nat) (hn : zz_end ≤ n) (G_S0 : zz_G S0) (hp0 : 0 ≤ p0 ∧ p0 ≤ 1) (x2 : Int) (S : zz_S) (G_S : zz_G S) (F_S : zz_fr [(1070, 2), (1070, 3), (1070, 4), (1070, 5), (1070, 6), (1072, 1), (1072, 2), (1072, 3)] [] (fun a i => a = zz_rf 4 p0) S0 S) (i14_0 : 0 ≤ x2 ∧ x2 ≤ 1501) (i14_1 : x2 ≤ S 1070 2 + 1) (i14_2 : 0 ≤ S 1072 1 ∧ S 1072 1 ≤ 600) (i14_3 : -1 ≤ S 1070 2 ∧ S 1070 2 ≤ S0 1070 1) (i14_4 : zt_as (S0 1071) (S0 1070 1) (1502 - x2).toNat (S 1070 2 + 1) x2 (S 1072 1) = zt_as (S0 1071) (S0 1070 1) 1502 0 0 0) (R : Nat) (hR : (1500 + 1 - x2).toNat = R) (k14 : ∀ (x2 : Int) (S : zz_S), zz_G S → zz_fr [(1070, 2), (1070, 3), (1070, 4), (1070, 5), (1070, 6), (1072, 1), (1072, 2), (1072, 3)] [] (fun a i => a = zz_rf 4 p0) S0 S → (0 ≤ x2 ∧ x2 ≤ 1501) → (x2 ≤ S 1070 2 + 1) → (0 ≤ S 1072 1 ∧ S 1072 1 ≤ 600) → (-1 ≤ S 1070 2 ∧ S 1070 2 ≤ S0 1070 1) → (zt_as (S0 1071) (S0 1070 1) (1502 - x2).toNat (S 1070 2 + 1) x2 (S 1072 1) = zt_as (S0 1071) (S0 1070 1) 1502 0 0 0) → (1500 + 1 - x2).toNat < R → zz_E g l zy_readInto_2_2 zr_readInto_2_2 (zz_QI n (zp_readInto_2_2 p0 S0)) S n 14 [some (.ref 1072), some (.ref (zz_rf 4 p0)), some (zi x2)] [] 0 0) : zz_E g l zy_readInto_2_2 zr_readInto_2_2 (zz_QI n (zp_readInto_2_2 p0 S0)) S n 14 [some (.ref 1072), some (.ref (zz_rf 4 p0)), some (zi x2)] [] 0 0 := by
  have b_p0 := zz_rf4 (z := p0) (by omega)
  have gc9 := zz_G.r G_S0 1070 1 0 1500 rfl rfl
  refine zz_iload_n (x := x2) rfl zd_2_2_14 ?_
  refine zz_sipush (by decide) zd_2_2_15 ?_
  refine zz_icmp_gt (by omega) (by omega) zd_2_2_18 (fun c7 => ?_) (fun c7 => ?_)
  · refine zz_iconst zd_2_2_102 ?_
    exact zz_iret zd_2_2_103 rfl (Nat.zero_le _) (Nat.zero_le _) ⟨_, _, rfl, G_S, F_S, by omega, (by have h9 := i14_4; rw [show (1502 - x2).toNat = (1502 - (x2 + 1)).toNat + 1 by omega, zt_as1, if_pos (by omega)] at h9; exact h9)⟩
  · refine zz_aload_n (x := 1072) rfl zd_2_2_21 ?_
    refine zz_getr (kd := 0) (z := 1070) zd_2_2_22 zf_Assembler_9 zT_1072 rfl (zz_ltn hn rfl) (zz_G.eq G_S 1072 0 1070 rfl rfl) (by decide) 1070 rfl ?_
    have g8 := zz_G.r G_S0 1070 1 0 1500 rfl rfl
    have e9 : S 1070 1 = S0 1070 1 := (zz_rc F_S rfl rfl (by first | decide | omega) rfl)
    have g10 := zz_G.r G_S 1070 2 (-1) 1500 rfl rfl
    have g11 := zz_G.r G_S 1070 3 0 1500 rfl rfl
    refine zz_callVI [] zd_2_2_25 zk_Assembler_31 zT_1070 (zz_ltn hn rfl) rfl rfl ⟨Nat.le_of_ble_eq_true rfl, Nat.le_of_ble_eq_true rfl⟩ ⟨rfl, rfl⟩ (Nat.zero_le _) (Nat.zero_le _) (zc_nextLine_11_6  S n hn G_S ) (fun v13 S12 hP => ?_)
    obtain ⟨G_S12, fS12, o14, o15⟩ := hP
    rw [show S 1071 = S0 1071 from funext (fun u => (zz_rc F_S (zz_nc1 rfl) rfl (by first | decide | omega) rfl)), show S 1070 1 = S0 1070 1 from (zz_rc F_S rfl rfl (by first | decide | omega) rfl)] at o15
    have F_S12 := zz_fr.trans F_S fS12 rfl zz_nv
    rcases (by omega : v13 = 0 ∨ v13 = 1) with rfl | rfl
    · refine zz_if_eq (by omega) zd_2_2_28 (fun c16 => ?_) (fun c16 => ?_)
      · refine zz_iconst zd_2_2_102 ?_
        exact zz_iret zd_2_2_103 rfl (Nat.zero_le _) (Nat.zero_le _) ⟨_, _, rfl, G_S12, F_S12, by omega, (by have h9 := i14_4; rw [show (1502 - x2).toNat = (1502 - (x2 + 1)).toNat + 1 by omega, zt_as1, if_pos (by omega)] at h9; exact h9)⟩
      · exfalso; omega
    · refine zz_if_eq (by omega) zd_2_2_28 (fun c17 => ?_) (fun c17 => ?_)
      · exfalso; omega
      · refine zz_aload_n (x := 1072) rfl zd_2_2_31 ?_
        refine zz_getr (kd := 0) (z := 1070) zd_2_2_32 zf_Assembler_9 zT_1072 rfl (zz_ltn hn rfl) (zz_G.eq G_S12 1072 0 1070 rfl rfl) (by decide) 1070 rfl ?_
        have g18 := zz_G.r G_S12 1070 2 (-1) 1500 rfl rfl
        have g19 := zz_G.r G_S12 1070 3 0 1500 rfl rfl
        refine zz_callVV [] zd_2_2_35 zk_Assembler_35 zT_1070 (zz_ltn hn rfl) rfl rfl ⟨Nat.le_of_ble_eq_true rfl, Nat.le_of_ble_eq_true rfl⟩ ⟨rfl, rfl⟩ (Nat.zero_le _) (Nat.zero_le _) (zc_nextToken_11_7  S12 n hn G_S12 ) (fun S20 hP => ?_)
        obtain ⟨G_S20, fS20, o22, o23, o24, o25, o26, o27, o28, o29, o30⟩ := hP
        rw [show S12 1071 = S0 1071 from funext (fun u => (zz_rc fS12 (zz_nc1 rfl) rfl (fun h => h) (zz_rc F_S (zz_nc1 rfl) rfl (by first | decide | omega) rfl)))] at o22
        rw [show S12 1071 = S0 1071 from funext (fun u => (zz_rc fS12 (zz_nc1 rfl) rfl (fun h => h) (zz_rc F_S (zz_nc1 rfl) rfl (by first | decide | omega) rfl)))] at o23
        rw [show S12 1071 = S0 1071 from funext (fun u => (zz_rc fS12 (zz_nc1 rfl) rfl (fun h => h) (zz_rc F_S (zz_nc1 rfl) rfl (by first | decide | omega) rfl)))] at o24
        rw [show S12 1071 = S0 1071 from funext (fun u => (zz_rc fS12 (zz_nc1 rfl) rfl (fun h => h) (zz_rc F_S (zz_nc1 rfl) rfl (by first | decide | omega) rfl)))] at o30
        have F_S20 := zz_fr.trans F_S12 fS20 rfl zz_nv
        have hu9 : S12 1070 2 = zt_U 10 (S0 1071) (S0 1070 1) (S 1070 2 + 1) := by omega
        have hb8 := (zt_Ub (c := 10) (f := (S0 1071)) (e := S0 1070 1) (p := S 1070 2 + 1) (by omega)).1
        have hl9 := zt_l2x (tk := zt_tk (S0 1071) (S12 1070 2)) (te := zt_te (S0 1071) (S12 1070 2)) (tv := zt_tv (S0 1071) (S12 1070 2)) (p := S 1070 2 + 1)
        rw [show S12 1070 3 = S 1070 2 + 1 by omega] at o22 o23; rw [← o22, ← o23] at hl9
        have hz9 := zt_c0 (s := S20 1070 4) (f := (S0 1071)) (q := S20 1070 5) (p := S20 1070 3) (by omega)
        refine zz_aload_n (x := 1072) rfl zd_2_2_38 ?_
        refine zz_getr (kd := 0) (z := 1070) zd_2_2_39 zf_Assembler_9 zT_1072 rfl (zz_ltn hn rfl) (zz_G.eq G_S20 1072 0 1070 rfl rfl) (by decide) 1070 rfl ?_
        have g31 := zz_G.r G_S20 1070 4 (-2147483648) 2147483647 rfl rfl
        refine zz_geti (z := S20 1070 4) zd_2_2_42 zf_Assembler_38 zT_1070 rfl (zz_ltn hn rfl) rfl ?_
        refine zz_if_eq (by omega) zd_2_2_45 (fun c32 => ?_) (fun c32 => ?_)
        · refine zz_iinc [some (.ref 1072), some (.ref (zz_rf 4 p0)), some (zi (x2 + 1))] zd_2_2_96 rfl rfl ?_
          refine zz_goto zd_2_2_99 ?_
          have e33 : S20 1070 2 = S12 1070 2 := (zz_rc fS20 rfl rfl (fun h => h) rfl)
          have g34 := zz_G.r G_S 1072 1 0 600 rfl rfl
          have e35 : S20 1072 1 = S 1072 1 := (zz_rc fS20 rfl rfl (fun h => h) (zz_rc fS12 rfl rfl (fun h => h) rfl))
          refine zz_less (ls1 := [some (.ref 1072), some (.ref (zz_rf 4 p0)), some (zi (x2 + 1))]) ⟨rfl, ⟨rfl, ⟨rfl, trivial⟩⟩⟩ ?_
          exact k14 (x2 + 1) S20 G_S20 F_S20 (by omega) (by omega) (by omega) (by omega) (by have h9 := i14_4; rw [if_pos (by omega)] at hl9; rw [show (1502 - x2).toNat = (1502 - (x2 + 1)).toNat + 1 by omega, zt_as1, if_neg (by omega), ← hu9, hl9, if_neg (by omega)] at h9; rw [show S20 1070 2 = S12 1070 2 by omega, show S20 1072 1 = S 1072 1 + 0 by omega]; exact h9) (by omega)
        · refine zz_aload_n (x := 1072) rfl zd_2_2_48 ?_
          have g36 := zz_G.r G_S 1072 1 0 600 rfl rfl
          refine zz_geti (z := S 1072 1) zd_2_2_49 zf_Assembler_15 zT_1072 rfl (zz_ltn hn rfl) (zz_rc fS20 rfl rfl (fun h => h) (zz_rc fS12 rfl rfl (fun h => h) rfl)) ?_
          refine zz_sipush (by decide) zd_2_2_52 ?_
          refine zz_icmp_ge (by omega) (by omega) zd_2_2_55 (fun c37 => ?_) (fun c37 => ?_)
          · refine zz_iload_n (x := x2) rfl zd_2_2_74 ?_
            exact zz_iret zd_2_2_75 rfl (Nat.zero_le _) (Nat.zero_le _) ⟨_, _, rfl, G_S20, F_S20, by omega, (by have h7 := zt_l2b (zt_tk (S0 1071) (S12 1070 2)) (zt_te (S0 1071) (S12 1070 2)) (zt_tv (S0 1071) (S12 1070 2)) (zt_co (S20 1070 4) (zt_wl (S0 1071) (S20 1070 5) (S20 1070 3) 20)) (S20 1070 3); have h9 := i14_4; rw [if_neg (by omega)] at hl9; rw [show (1502 - x2).toNat = (1502 - (x2 + 1)).toNat + 1 by omega, zt_as1, if_neg (by omega), ← hu9, hl9, if_pos (by omega)] at h9; exact h9)⟩
          · refine zz_aload_n (x := 1072) rfl zd_2_2_58 ?_
            refine zz_geti (z := S 1072 1) zd_2_2_59 zf_Assembler_15 zT_1072 rfl (zz_ltn hn rfl) (zz_rc fS20 rfl rfl (fun h => h) (zz_rc fS12 rfl rfl (fun h => h) rfl)) ?_
            refine zz_aload_n (x := zz_rf 4 p0) rfl zd_2_2_62 ?_
            refine zz_alen zd_2_2_63 (zT_k4 (by omega)) rfl (zN_k4 hn (by omega)) ?_
            refine zz_icmp_ge (by omega) (by omega) zd_2_2_64 (fun c38 => ?_) (fun c38 => ?_)
            · exfalso; omega
            · refine zz_aload_n (x := 1072) rfl zd_2_2_67 ?_
              have e39 : S20 1070 2 = S12 1070 2 := (zz_rc fS20 rfl rfl (fun h => h) rfl)
              have g40 := zz_G.r G_S20 1070 3 0 1500 rfl rfl
              have g41 := zz_G.r G_S20 1070 5 0 1500 rfl rfl
              refine zz_callVI [] zd_2_2_68 zk_Assembler_41 zT_1072 (zz_ltn hn rfl) rfl rfl ⟨Nat.le_of_ble_eq_true rfl, Nat.le_of_ble_eq_true rfl⟩ ⟨rfl, rfl⟩ (Nat.zero_le _) (Nat.zero_le _) (zc_readInstruction_2_3  S20 n hn G_S20 (by omega)) (fun v43 S42 hP => ?_)
              obtain ⟨G_S42, fS42, o44, o45⟩ := hP
              rw [show S20 1071 = S0 1071 from funext (fun u => (zz_rc fS20 (zz_nc1 rfl) rfl (fun h => h) (zz_rc fS12 (zz_nc1 rfl) rfl (fun h => h) (zz_rc F_S (zz_nc1 rfl) rfl (by first | decide | omega) rfl)))), show S20 1070 2 = S12 1070 2 from (zz_rc fS20 rfl rfl (fun h => h) rfl)] at o45
              have F_S42 := zz_fr.trans F_S20 fS42 rfl zz_nv
              rcases (by omega : v43 = 0 ∨ v43 = 1) with rfl | rfl
              · refine zz_if_ne (by omega) zd_2_2_71 (fun c46 => ?_) (fun c46 => ?_)
                · exfalso; omega
                · refine zz_iload_n (x := x2) rfl zd_2_2_74 ?_
                  exact zz_iret zd_2_2_75 rfl (Nat.zero_le _) (Nat.zero_le _) ⟨_, _, rfl, G_S42, F_S42, by omega, (by have h8 := (o45.resolve_left (fun h => absurd h.1 (by decide))).2; have h7 := zt_l2b (zt_tk (S0 1071) (S12 1070 2)) (zt_te (S0 1071) (S12 1070 2)) (zt_tv (S0 1071) (S12 1070 2)) (zt_co (S20 1070 4) (zt_wl (S0 1071) (S20 1070 5) (S20 1070 3) 20)) (S20 1070 3); have h9 := i14_4; rw [if_neg (by omega)] at hl9; rw [show (1502 - x2).toNat = (1502 - (x2 + 1)).toNat + 1 by omega, zt_as1, if_neg (by omega), ← hu9, hl9, if_pos (by omega)] at h9; exact h9)⟩
              · refine zz_if_ne (by omega) zd_2_2_71 (fun c47 => ?_) (fun c47 => ?_)
                · refine zz_aload_n (x := zz_rf 4 p0) rfl zd_2_2_76 ?_
                  refine zz_aload_n (x := 1072) rfl zd_2_2_77 ?_
                  refine zz_geti (z := S 1072 1) zd_2_2_78 zf_Assembler_15 zT_1072 rfl (zz_ltn hn rfl) (zz_rc fS42 rfl rfl (fun h => h) (zz_rc fS20 rfl rfl (fun h => h) (zz_rc fS12 rfl rfl (fun h => h) rfl))) ?_
                  refine zz_aload_n (x := 1072) rfl zd_2_2_81 ?_
                  have g48 := zz_G.r G_S42 1072 2 (-9223372036854775808) 9223372036854775807 rfl rfl
                  refine zz_getl (z := S42 1072 2) zd_2_2_82 zf_Assembler_19 zT_1072 rfl (zz_ltn hn rfl) rfl ?_
                  refine zz_last zd_2_2_85 (zT_k4 (by omega)) rfl (zN_k4 hn (by omega)) (by decide) (by omega) (fun S49 qS49 => ?_)
                  have G_S49 := zz_G.put G_S42 qS49 (-9223372036854775808) 9223372036854775807 (zR_k4 (by omega)) (by omega)
                  have F_S49 := zz_fr.putv F_S42 qS49 (rfl)
                  refine zz_aload_n (x := 1072) rfl zd_2_2_86 ?_
                  refine zz_dup rfl zd_2_2_87 ?_
                  refine zz_geti (z := S 1072 1) zd_2_2_88 zf_Assembler_15 zT_1072 rfl (zz_ltn hn rfl) (zz_ro qS49 (fun h => absurd h.1 (by have := zz_rf4 (z := p0) (by omega); omega)) (zz_rc fS42 rfl rfl (fun h => h) (zz_rc fS20 rfl rfl (fun h => h) (zz_rc fS12 rfl rfl (fun h => h) rfl)))) ?_
                  refine zz_iconst zd_2_2_91 ?_
                  refine zz_iadd zd_2_2_92 ?_
                  refine zz_puti zd_2_2_93 zf_Assembler_15 zT_1072 rfl (zz_ltn hn rfl) (fun S50 qS50 => ?_)
                  have G_S50 := zz_G.put G_S49 qS50 0 600 rfl (by omega)
                  have F_S50 := zz_fr.puts F_S49 qS50 rfl
                  refine zz_iinc [some (.ref 1072), some (.ref (zz_rf 4 p0)), some (zi (x2 + 1))] zd_2_2_96 rfl rfl ?_
                  refine zz_goto zd_2_2_99 ?_
                  have e51 : S50 1070 2 = S12 1070 2 := (zz_ro qS50 (fun h => absurd h.1 (by decide)) (zz_ro qS49 (fun h => absurd h.1 (by have := zz_rf4 (z := p0) (by omega); omega)) (zz_rc fS42 rfl rfl (fun h => h) (zz_rc fS20 rfl rfl (fun h => h) rfl))))
                  have e52 : S50 1072 1 = (S 1072 1) + 1 := (zz_rs qS50)
                  refine zz_less (ls1 := [some (.ref 1072), some (.ref (zz_rf 4 p0)), some (zi (x2 + 1))]) ⟨rfl, ⟨rfl, ⟨rfl, trivial⟩⟩⟩ ?_
                  exact k14 (x2 + 1) S50 G_S50 F_S50 (by omega) (by omega) (by omega) (by omega) (by have h8 := o45.resolve_right (fun h => absurd h.1 (by decide)); have h9 := i14_4; rw [if_neg (by omega), h8.2] at hl9; rw [show (1502 - x2).toNat = (1502 - (x2 + 1)).toNat + 1 by omega, zt_as1, if_neg (by omega), ← hu9, hl9, if_neg (by omega)] at h9; rw [show S50 1070 2 = S12 1070 2 by omega, show S50 1072 1 = S 1072 1 + 1 by omega]; exact h9) (by omega)
                · exfalso; omega
theorem zi_readInto_2_2 {g : mm_G} {l : Launch} (p0 : Int) (S0 : zz_S) (n : Nat) (hn : zz_end ≤ n) (G_S0 : zz_G S0) (hp0 : 0 ≤ p0 ∧ p0 ≤ 1) : ∀ N : Nat, (∀ (x2 : Int) (S : zz_S), zz_G S → zz_fr [(1070, 2), (1070, 3), (1070, 4), (1070, 5), (1070, 6), (1072, 1), (1072, 2), (1072, 3)] [] (fun a i => a = zz_rf 4 p0) S0 S → (0 ≤ x2 ∧ x2 ≤ 1501) → (x2 ≤ S 1070 2 + 1) → (0 ≤ S 1072 1 ∧ S 1072 1 ≤ 600) → (-1 ≤ S 1070 2 ∧ S 1070 2 ≤ S0 1070 1) → (zt_as (S0 1071) (S0 1070 1) (1502 - x2).toNat (S 1070 2 + 1) x2 (S 1072 1) = zt_as (S0 1071) (S0 1070 1) 1502 0 0 0) → (1500 + 1 - x2).toNat < N → zz_E g l zy_readInto_2_2 zr_readInto_2_2 (zz_QI n (zp_readInto_2_2 p0 S0)) S n 14 [some (.ref 1072), some (.ref (zz_rf 4 p0)), some (zi x2)] [] 0 0) := by
  intro N
  induction N with
  | zero => exact fun x2 S _ _ _ _ _ _ _ h => absurd h (Nat.not_lt_zero _)
  | succ N ih =>
    exact fun x2 S a b j0 j1 j2 j3 j4 hR => zb_readInto_2_2_14 p0 S0 n hn G_S0 hp0 x2 S a b j0 j1 j2 j3 j4 _ rfl (fun x2 S a b j0 j1 j2 j3 j4 h => ih x2 S a b j0 j1 j2 j3 j4 (Nat.lt_of_lt_of_le h (Nat.le_of_lt_succ hR)))
theorem zc_readInto_2_2 {g : mm_G} {l : Launch} (p0 : Int) (S0 : zz_S) (n : Nat) (hn : zz_end ≤ n) (G_S0 : zz_G S0) (hp0 : 0 ≤ p0 ∧ p0 ≤ 1) : mm_Met g l zy_readInto_2_2 zr_readInto_2_2 [.ref 1072, .ref (zz_rf 4 p0)] (zz_M S0 n) n (zz_QI n (zp_readInto_2_2 p0 S0)) := by
  refine zz_enter (by decide) (Nat.le_of_ble_eq_true rfl) (zz_less (ls1 := [some (.ref 1072), some (.ref (zz_rf 4 p0))]) ⟨rfl, ⟨rfl, trivial⟩⟩ ?_)
  have F_S0 : zz_fr [(1070, 2), (1070, 3), (1070, 4), (1070, 5), (1070, 6), (1072, 1), (1072, 2), (1072, 3)] [] (fun a i => a = zz_rf 4 p0) S0 S0 := zz_fr.refl
  have k14 : ∀ (x2 : Int) (S : zz_S), zz_G S → zz_fr [(1070, 2), (1070, 3), (1070, 4), (1070, 5), (1070, 6), (1072, 1), (1072, 2), (1072, 3)] [] (fun a i => a = zz_rf 4 p0) S0 S → (0 ≤ x2 ∧ x2 ≤ 1501) → (x2 ≤ S 1070 2 + 1) → (0 ≤ S 1072 1 ∧ S 1072 1 ≤ 600) → (-1 ≤ S 1070 2 ∧ S 1070 2 ≤ S0 1070 1) → (zt_as (S0 1071) (S0 1070 1) (1502 - x2).toNat (S 1070 2 + 1) x2 (S 1072 1) = zt_as (S0 1071) (S0 1070 1) 1502 0 0 0) → zz_E g l zy_readInto_2_2 zr_readInto_2_2 (zz_QI n (zp_readInto_2_2 p0 S0)) S n 14 [some (.ref 1072), some (.ref (zz_rf 4 p0)), some (zi x2)] [] 0 0 := fun x2 S a b j0 j1 j2 j3 j4 => (zi_readInto_2_2 (g := g) (l := l) p0 S0 n hn G_S0 hp0 _) x2 S a b j0 j1 j2 j3 j4 (Nat.lt_succ_self _)
  have b_p0 := zz_rf4 (z := p0) (by omega)
  refine zz_aload_n (x := 1072) rfl zd_2_2_0 ?_
  refine zz_iconst zd_2_2_1 ?_
  refine zz_puti zd_2_2_2 zf_Assembler_15 zT_1072 rfl (zz_ltn hn rfl) (fun S1 qS1 => ?_)
  have G_S1 := zz_G.put G_S0 qS1 0 600 rfl (by omega)
  have F_S1 := zz_fr.puts F_S0 qS1 rfl
  refine zz_aload_n (x := 1072) rfl zd_2_2_5 ?_
  refine zz_getr (kd := 0) (z := 1070) zd_2_2_6 zf_Assembler_9 zT_1072 rfl (zz_ltn hn rfl) (zz_G.eq G_S1 1072 0 1070 rfl rfl) (by decide) 1070 rfl ?_
  refine zz_callVV [] zd_2_2_9 zk_Assembler_26 zT_1070 (zz_ltn hn rfl) rfl rfl ⟨Nat.le_of_ble_eq_true rfl, Nat.le_of_ble_eq_true rfl⟩ ⟨rfl, rfl⟩ (Nat.zero_le _) (Nat.zero_le _) (zc_rewind_11_5  S1 n hn G_S1 ) (fun S2 hP => ?_)
  obtain ⟨G_S2, fS2, o4⟩ := hP
  have F_S2 := zz_fr.trans F_S1 fS2 rfl zz_nv
  have gc9 := zz_G.r G_S0 1070 1 0 1500 rfl rfl
  refine zz_iconst zd_2_2_12 ?_
  refine zz_istore_n [some (.ref 1072), some (.ref (zz_rf 4 p0)), some (zi 0)] zd_2_2_13 (by decide) rfl ?_
  have g5 := zz_G.r G_S2 1070 2 (-1) 1500 rfl rfl
  have e6 : S2 1072 1 = 0 := (zz_rc fS2 rfl rfl (fun h => h) (zz_rs qS1))
  refine zz_less (ls1 := [some (.ref 1072), some (.ref (zz_rf 4 p0)), some (zi 0)]) ⟨rfl, ⟨rfl, ⟨rfl, trivial⟩⟩⟩ ?_
  exact k14 0 S2 G_S2 F_S2 (by omega) (by omega) (by omega) (by omega) (by rw [show S2 1070 2 = -1 by omega, show S2 1072 1 = 0 by omega]; rfl)
theorem zk_TF_162 : mm_Vl "TensorForge" 162 7 1 zy_readInto_2_2 := ⟨zyw_readInto_2_2, (R_Assembler, F_Assembler, 4), rfl, mm_tb_1 560 (by decide +kernel) rfl, mm_tb_1 561 (by decide +kernel) rfl, mm_tb_1 562 (by decide +kernel) rfl⟩
theorem zf_TF_166 : mm_Fl "TensorForge" 166 7 1 .int false := ⟨R_Assembler, F_Assembler, 4, t_Assembler, rfl, i_Assembler, by decide, mm_tb_1 322 (by decide +kernel) rfl, rfl, t_Assembler_ok, n_Assembler, rfl, by decide +kernel⟩
abbrev zy_takeSpareWords_1_30 : mm_Y := (⟨"TensorForge", "takeSpareWords", "(I)V"⟩, prog_1_method_30_code, 3, none)
theorem zyw_takeSpareWords_1_30 : mm_Yw zy_takeSpareWords_1_30 1 := ⟨mm_tb_1 692 (by decide +kernel) rfl, mm_tb_1 1 (by decide +kernel) rfl, ⟨by decide, by decide⟩, by decide +kernel⟩
theorem zg_1_13_11 : zq_at zy_assemble_1_13.2.1 11 60 ∧ zq_at zy_assemble_1_13.2.1 12 27 ∧ zq_at zy_assemble_1_13.2.1 13 2 ∧ zq_at zy_assemble_1_13.2.1 14 160 ∧ zq_at zy_assemble_1_13.2.1 15 0 ∧ zq_at zy_assemble_1_13.2.1 16 14 ∧ zq_at zy_assemble_1_13.2.1 28 27 ∧ zq_at zy_assemble_1_13.2.1 29 172 ∧ zq_at zy_assemble_1_13.2.1 17 42 ∧ zq_at zy_assemble_1_13.2.1 18 42 ∧ zq_at zy_assemble_1_13.2.1 19 180 ∧ zq_at zy_assemble_1_13.2.1 20 0 ∧ zq_at zy_assemble_1_13.2.1 21 58 ∧ zq_at zy_assemble_1_13.2.1 22 180 ∧ zq_at zy_assemble_1_13.2.1 23 0 ∧ zq_at zy_assemble_1_13.2.1 24 166 ∧ zq_at zy_assemble_1_13.2.1 25 182 ∧ zq_at zy_assemble_1_13.2.1 26 0 ∧ zq_at zy_assemble_1_13.2.1 27 169 := by decide +kernel
theorem zd_1_13_11 : zz_D zy_assemble_1_13 11 (.istore_n 1) 1 12 := ⟨zq_60 zg_1_13_11.1, rfl⟩
theorem zd_1_13_12 : zz_D zy_assemble_1_13 12 (.iload_n 1) 1 13 := ⟨zq_27 zg_1_13_11.2.1, rfl⟩
theorem zd_1_13_13 : zz_D zy_assemble_1_13 13 (.iconst (-1)) 1 14 := ⟨zq_2 zg_1_13_11.2.2.1, rfl⟩
theorem zd_1_13_14 : zz_B zy_assemble_1_13 14 (Instr.if_icmp .ne) 28 17 := ⟨14, zq_160 zg_1_13_11.2.2.2.1 zg_1_13_11.2.2.2.2.1 zg_1_13_11.2.2.2.2.2.1 (by decide), rfl, rfl⟩
theorem zd_1_13_28 : zz_D zy_assemble_1_13 28 (.iload_n 1) 1 29 := ⟨zq_27 zg_1_13_11.2.2.2.2.2.2.1, rfl⟩
theorem zd_1_13_29 : zz_D zy_assemble_1_13 29 (.ireturn) 1 30 := ⟨zq_172 zg_1_13_11.2.2.2.2.2.2.2.1, rfl⟩
theorem zd_1_13_17 : zz_D zy_assemble_1_13 17 (.aload_n 0) 1 18 := ⟨zq_42 zg_1_13_11.2.2.2.2.2.2.2.2.1, rfl⟩
theorem zd_1_13_18 : zz_D zy_assemble_1_13 18 (.aload_n 0) 1 19 := ⟨zq_42 zg_1_13_11.2.2.2.2.2.2.2.2.2.1, rfl⟩
theorem zd_1_13_19 : zz_D zy_assemble_1_13 19 (.getfield 58) 3 22 := ⟨zq_180 zg_1_13_11.2.2.2.2.2.2.2.2.2.2.1 zg_1_13_11.2.2.2.2.2.2.2.2.2.2.2.1 zg_1_13_11.2.2.2.2.2.2.2.2.2.2.2.2.1 rfl, rfl⟩
theorem zd_1_13_22 : zz_D zy_assemble_1_13 22 (.getfield 166) 3 25 := ⟨zq_180 zg_1_13_11.2.2.2.2.2.2.2.2.2.2.2.2.2.1 zg_1_13_11.2.2.2.2.2.2.2.2.2.2.2.2.2.2.1 zg_1_13_11.2.2.2.2.2.2.2.2.2.2.2.2.2.2.2.1 rfl, rfl⟩
theorem zd_1_13_25 : zz_D zy_assemble_1_13 25 (.invokevirtual 169) 3 28 := ⟨zq_182 zg_1_13_11.2.2.2.2.2.2.2.2.2.2.2.2.2.2.2.2.1 zg_1_13_11.2.2.2.2.2.2.2.2.2.2.2.2.2.2.2.2.2.1 zg_1_13_11.2.2.2.2.2.2.2.2.2.2.2.2.2.2.2.2.2.2 rfl, rfl⟩
theorem zg_1_30_0 : zq_at zy_takeSpareWords_1_30.2.1 0 42 ∧ zq_at zy_takeSpareWords_1_30.2.1 1 180 ∧ zq_at zy_takeSpareWords_1_30.2.1 2 0 ∧ zq_at zy_takeSpareWords_1_30.2.1 3 19 ∧ zq_at zy_takeSpareWords_1_30.2.1 4 77 ∧ zq_at zy_takeSpareWords_1_30.2.1 5 42 ∧ zq_at zy_takeSpareWords_1_30.2.1 6 42 ∧ zq_at zy_takeSpareWords_1_30.2.1 7 180 ∧ zq_at zy_takeSpareWords_1_30.2.1 8 0 ∧ zq_at zy_takeSpareWords_1_30.2.1 9 23 ∧ zq_at zy_takeSpareWords_1_30.2.1 10 181 ∧ zq_at zy_takeSpareWords_1_30.2.1 11 0 ∧ zq_at zy_takeSpareWords_1_30.2.1 12 19 ∧ zq_at zy_takeSpareWords_1_30.2.1 13 42 ∧ zq_at zy_takeSpareWords_1_30.2.1 14 44 ∧ zq_at zy_takeSpareWords_1_30.2.1 15 181 ∧ zq_at zy_takeSpareWords_1_30.2.1 16 0 ∧ zq_at zy_takeSpareWords_1_30.2.1 17 23 ∧ zq_at zy_takeSpareWords_1_30.2.1 18 42 ∧ zq_at zy_takeSpareWords_1_30.2.1 19 27 ∧ zq_at zy_takeSpareWords_1_30.2.1 20 181 ∧ zq_at zy_takeSpareWords_1_30.2.1 21 0 ∧ zq_at zy_takeSpareWords_1_30.2.1 22 26 ∧ zq_at zy_takeSpareWords_1_30.2.1 23 177 := by decide +kernel
theorem zd_1_30_0 : zz_D zy_takeSpareWords_1_30 0 (.aload_n 0) 1 1 := ⟨zq_42 zg_1_30_0.1, rfl⟩
theorem zd_1_30_1 : zz_D zy_takeSpareWords_1_30 1 (.getfield 19) 3 4 := ⟨zq_180 zg_1_30_0.2.1 zg_1_30_0.2.2.1 zg_1_30_0.2.2.2.1 rfl, rfl⟩
theorem zd_1_30_4 : zz_D zy_takeSpareWords_1_30 4 (.astore_n 2) 1 5 := ⟨zq_77 zg_1_30_0.2.2.2.2.1, rfl⟩
theorem zd_1_30_5 : zz_D zy_takeSpareWords_1_30 5 (.aload_n 0) 1 6 := ⟨zq_42 zg_1_30_0.2.2.2.2.2.1, rfl⟩
theorem zd_1_30_6 : zz_D zy_takeSpareWords_1_30 6 (.aload_n 0) 1 7 := ⟨zq_42 zg_1_30_0.2.2.2.2.2.2.1, rfl⟩
theorem zd_1_30_7 : zz_D zy_takeSpareWords_1_30 7 (.getfield 23) 3 10 := ⟨zq_180 zg_1_30_0.2.2.2.2.2.2.2.1 zg_1_30_0.2.2.2.2.2.2.2.2.1 zg_1_30_0.2.2.2.2.2.2.2.2.2.1 rfl, rfl⟩
theorem zd_1_30_10 : zz_D zy_takeSpareWords_1_30 10 (.putfield 19) 3 13 := ⟨zq_181 zg_1_30_0.2.2.2.2.2.2.2.2.2.2.1 zg_1_30_0.2.2.2.2.2.2.2.2.2.2.2.1 zg_1_30_0.2.2.2.2.2.2.2.2.2.2.2.2.1 rfl, rfl⟩
theorem zd_1_30_13 : zz_D zy_takeSpareWords_1_30 13 (.aload_n 0) 1 14 := ⟨zq_42 zg_1_30_0.2.2.2.2.2.2.2.2.2.2.2.2.2.1, rfl⟩
theorem zd_1_30_14 : zz_D zy_takeSpareWords_1_30 14 (.aload_n 2) 1 15 := ⟨zq_44 zg_1_30_0.2.2.2.2.2.2.2.2.2.2.2.2.2.2.1, rfl⟩
theorem zd_1_30_15 : zz_D zy_takeSpareWords_1_30 15 (.putfield 23) 3 18 := ⟨zq_181 zg_1_30_0.2.2.2.2.2.2.2.2.2.2.2.2.2.2.2.1 zg_1_30_0.2.2.2.2.2.2.2.2.2.2.2.2.2.2.2.2.1 zg_1_30_0.2.2.2.2.2.2.2.2.2.2.2.2.2.2.2.2.2.1 rfl, rfl⟩
theorem zd_1_30_18 : zz_D zy_takeSpareWords_1_30 18 (.aload_n 0) 1 19 := ⟨zq_42 zg_1_30_0.2.2.2.2.2.2.2.2.2.2.2.2.2.2.2.2.2.2.1, rfl⟩
theorem zd_1_30_19 : zz_D zy_takeSpareWords_1_30 19 (.iload_n 1) 1 20 := ⟨zq_27 zg_1_30_0.2.2.2.2.2.2.2.2.2.2.2.2.2.2.2.2.2.2.2.1, rfl⟩
theorem zd_1_30_20 : zz_D zy_takeSpareWords_1_30 20 (.putfield 26) 3 23 := ⟨zq_181 zg_1_30_0.2.2.2.2.2.2.2.2.2.2.2.2.2.2.2.2.2.2.2.2.1 zg_1_30_0.2.2.2.2.2.2.2.2.2.2.2.2.2.2.2.2.2.2.2.2.2.1 zg_1_30_0.2.2.2.2.2.2.2.2.2.2.2.2.2.2.2.2.2.2.2.2.2.2.1 rfl, rfl⟩
theorem zd_1_30_23 : zz_D zy_takeSpareWords_1_30 23 (.return_) 1 24 := ⟨zq_177 zg_1_30_0.2.2.2.2.2.2.2.2.2.2.2.2.2.2.2.2.2.2.2.2.2.2.2, rfl⟩
-- TensorForge takeSpareWords (I)V
abbrev zr_takeSpareWords_1_30 : Room := { frames := 0, cells := 0, slots := 0, locals := 0 }
def zp_takeSpareWords_1_30 (p0 : Int) (S0 : zz_S) : zz_S → Prop := fun S => zz_G S ∧ zz_fr [(1000, 9), (1000, 10), (1000, 11)] [] (fun _ _ => False) S0 S
theorem zc_takeSpareWords_1_30 {g : mm_G} {l : Launch} (p0 : Int) (S0 : zz_S) (n : Nat) (hn : zz_end ≤ n) (G_S0 : zz_G S0) (hp0 : 0 ≤ p0 ∧ p0 ≤ 600) : mm_Met g l zy_takeSpareWords_1_30 zr_takeSpareWords_1_30 [.ref 1000, zi p0] (zz_M S0 n) n (zz_QV n (zp_takeSpareWords_1_30 p0 S0)) := by
  refine zz_enter (by decide) (Nat.le_of_ble_eq_true rfl) (zz_less (ls1 := [some (.ref 1000), some (zi p0)]) ⟨rfl, ⟨rfl, trivial⟩⟩ ?_)
  have F_S0 : zz_fr [(1000, 9), (1000, 10), (1000, 11)] [] (fun _ _ => False) S0 S0 := zz_fr.refl
  refine zz_aload_n (x := 1000) rfl zd_1_30_0 ?_
  have g1 := zz_G.r G_S0 1000 9 0 1 rfl rfl
  refine zz_getr (kd := 2) (z := S0 1000 9) zd_1_30_1 zf_TF_19 zT_1000 rfl (zz_ltn hn rfl) rfl (by omega) (zz_rf 4 (S0 1000 9)) rfl ?_
  refine zz_astore_n [some (.ref 1000), some (zi p0), some (.ref (zz_rf 4 (S0 1000 9)))] zd_1_30_4 (by decide) rfl ?_
  refine zz_aload_n (x := 1000) rfl zd_1_30_5 ?_
  refine zz_aload_n (x := 1000) rfl zd_1_30_6 ?_
  have g2 := zz_G.r G_S0 1000 10 0 1 rfl rfl
  refine zz_getr (kd := 2) (z := S0 1000 10) zd_1_30_7 zf_TF_23 zT_1000 rfl (zz_ltn hn rfl) rfl (by omega) (zz_rf 4 (S0 1000 10)) rfl ?_
  refine zz_putr (kd := 2) (S0 1000 10) zd_1_30_10 zf_TF_19 zT_1000 rfl (zz_ltn hn rfl) (by omega) rfl (fun _ => rfl) (fun _ => rfl) (fun S3 qS3 => ?_)
  have G_S3 := zz_G.put G_S0 qS3 0 1 rfl (by omega)
  have F_S3 := zz_fr.puts F_S0 qS3 rfl
  refine zz_aload_n (x := 1000) rfl zd_1_30_13 ?_
  refine zz_aload_n (x := zz_rf 4 (S0 1000 9)) rfl zd_1_30_14 ?_
  refine zz_putr (kd := 2) (S0 1000 9) zd_1_30_15 zf_TF_23 zT_1000 rfl (zz_ltn hn rfl) (by omega) rfl (fun _ => rfl) (fun _ => rfl) (fun S4 qS4 => ?_)
  have G_S4 := zz_G.put G_S3 qS4 0 1 rfl (by omega)
  have F_S4 := zz_fr.puts F_S3 qS4 rfl
  refine zz_aload_n (x := 1000) rfl zd_1_30_18 ?_
  refine zz_iload_n (x := p0) rfl zd_1_30_19 ?_
  refine zz_puti zd_1_30_20 zf_TF_26 zT_1000 rfl (zz_ltn hn rfl) (fun S5 qS5 => ?_)
  have G_S5 := zz_G.put G_S4 qS5 0 600 rfl (by omega)
  have F_S5 := zz_fr.puts F_S4 qS5 rfl
  exact zz_vret zd_1_30_23 rfl (Nat.zero_le _) (Nat.zero_le _) ⟨_, rfl, G_S5, F_S5⟩
theorem zk_TF_169 : mm_Vl "TensorForge" 169 0 1 zy_takeSpareWords_1_30 := ⟨zyw_takeSpareWords_1_30, (R_TF, F_TF, 12), rfl, mm_tb_1 689 (by decide +kernel) rfl, mm_tb_1 691 (by decide +kernel) rfl, mm_tb_s 13 (by decide +kernel) rfl⟩
-- TensorForge assemble ()I
abbrev zr_assemble_1_13 : Room := { frames := 10, cells := 0, slots := 0, locals := 135 }
def zp_assemble_1_13  (S0 : zz_S) : Int → zz_S → Prop := fun r S => zz_G S ∧ zz_fr [(1000, 9), (1000, 10), (1000, 11), (1070, 2), (1070, 3), (1070, 4), (1070, 5), (1070, 6), (1072, 1), (1072, 2), (1072, 3)] [] (fun a i => a = zz_rf 4 (S0 1000 10)) S0 S ∧ ((-2147483648) ≤ r ∧ r ≤ 2147483647) ∧ (r = zt_as (S0 1071) (S0 1070 1) 1502 0 0 0)
theorem zc_assemble_1_13 {g : mm_G} {l : Launch}  (S0 : zz_S) (n : Nat) (hn : zz_end ≤ n) (G_S0 : zz_G S0)  : mm_Met g l zy_assemble_1_13 zr_assemble_1_13 [.ref 1000] (zz_M S0 n) n (zz_QI n (zp_assemble_1_13  S0)) := by
  refine zz_enter (by decide) (Nat.le_of_ble_eq_true rfl) (zz_less (ls1 := [some (.ref 1000)]) ⟨rfl, trivial⟩ ?_)
  have F_S0 : zz_fr [(1000, 9), (1000, 10), (1000, 11), (1070, 2), (1070, 3), (1070, 4), (1070, 5), (1070, 6), (1072, 1), (1072, 2), (1072, 3)] [] (fun a i => a = zz_rf 4 (S0 1000 10)) S0 S0 := zz_fr.refl
  refine zz_aload_n (x := 1000) rfl zd_1_13_0 ?_
  refine zz_getr (kd := 0) (z := 1072) zd_1_13_1 zf_TF_58 zT_1000 rfl (zz_ltn hn rfl) (zz_G.eq G_S0 1000 3 1072 rfl rfl) (by decide) 1072 rfl ?_
  refine zz_aload_n (x := 1000) rfl zd_1_13_4 ?_
  have g1 := zz_G.r G_S0 1000 10 0 1 rfl rfl
  refine zz_getr (kd := 2) (z := S0 1000 10) zd_1_13_5 zf_TF_23 zT_1000 rfl (zz_ltn hn rfl) rfl (by omega) (zz_rf 4 (S0 1000 10)) rfl ?_
  have g2 := zz_G.r G_S0 1070 1 0 1500 rfl rfl
  refine zz_callVI [.ref (zz_rf 4 (S0 1000 10))] zd_1_13_8 zk_TF_162 zT_1072 (zz_ltn hn rfl) rfl rfl ⟨Nat.le_of_ble_eq_true rfl, Nat.le_of_ble_eq_true rfl⟩ ⟨rfl, rfl⟩ (Nat.zero_le _) (Nat.zero_le _) (zc_readInto_2_2 (S0 1000 10) S0 n hn G_S0 (by omega)) (fun v4 S3 hP => ?_)
  obtain ⟨G_S3, fS3, o5, o6⟩ := hP
  have g7 := zz_G.r G_S0 1000 10 0 1 rfl rfl
  have F_S3 := zz_fr.trans F_S0 fS3 rfl (fun a i h => Or.inr (Or.inr (h)))
  have b8 := zz_rf4 (z := (S0 1000 10)) (by omega)
  refine zz_istore_n [some (.ref 1000), some (zi v4)] zd_1_13_11 (by decide) rfl ?_
  refine zz_iload_n (x := v4) rfl zd_1_13_12 ?_
  refine zz_iconst zd_1_13_13 ?_
  refine zz_icmp_ne (by omega) (by omega) zd_1_13_14 (fun c9 => ?_) (fun c9 => ?_)
  · refine zz_iload_n (x := v4) rfl zd_1_13_28 ?_
    exact zz_iret zd_1_13_29 rfl (Nat.zero_le _) (Nat.zero_le _) ⟨_, _, rfl, G_S3, F_S3, by omega, by omega⟩
  · refine zz_aload_n (x := 1000) rfl zd_1_13_17 ?_
    refine zz_aload_n (x := 1000) rfl zd_1_13_18 ?_
    refine zz_getr (kd := 0) (z := 1072) zd_1_13_19 zf_TF_58 zT_1000 rfl (zz_ltn hn rfl) (zz_G.eq G_S3 1000 3 1072 rfl rfl) (by decide) 1072 rfl ?_
    have g10 := zz_G.r G_S3 1072 1 0 600 rfl rfl
    refine zz_geti (z := S3 1072 1) zd_1_13_22 zf_TF_166 zT_1072 rfl (zz_ltn hn rfl) rfl ?_
    refine zz_callVV [zi (S3 1072 1)] zd_1_13_25 zk_TF_169 zT_1000 (zz_ltn hn rfl) rfl rfl ⟨Nat.le_of_ble_eq_true rfl, Nat.le_of_ble_eq_true rfl⟩ ⟨rfl, rfl⟩ (Nat.zero_le _) (Nat.zero_le _) (zc_takeSpareWords_1_30 (S3 1072 1) S3 n hn G_S3 (by omega)) (fun S11 hP => ?_)
    obtain ⟨G_S11, fS11⟩ := hP
    have F_S11 := zz_fr.trans F_S3 fS11 rfl zz_nv
    refine zz_iload_n (x := v4) rfl zd_1_13_28 ?_
    exact zz_iret zd_1_13_29 rfl (Nat.zero_le _) (Nat.zero_le _) ⟨_, _, rfl, G_S11, F_S11, by omega, by omega⟩
abbrev zy_listing_1_14 : mm_Y := (⟨"TensorForge", "listing", "(II)I"⟩, prog_1_method_14_code, 3, (some .int))
theorem zyw_listing_1_14 : mm_Yw zy_listing_1_14 2 := ⟨mm_tb_1 1250 (by decide +kernel) rfl, mm_tb_1 1 (by decide +kernel) rfl, ⟨by decide, by decide⟩, by decide +kernel⟩
theorem zt_1_14_16 : zz_Thr zy_listing_1_14 16 101 172 105 := ⟨by decide +kernel, by decide +kernel, by decide +kernel, by decide +kernel, by decide +kernel⟩
theorem zxl_TF_101_172_105 : mm_Xl "TensorForge" 101 172 105 1 := ⟨mm_tb_1 1133 (by decide +kernel) rfl, mm_tb_1 1134 (by decide +kernel) rfl, mm_tb_1 18 (by decide +kernel) rfl, ⟨41, by decide +kernel⟩, zxa_TF_105⟩
abbrev zy_writeInstruction_5_3 : mm_Y := (⟨"TensorForge$Line", "writeInstruction", "(J)V"⟩, prog_5_method_3_code, 3, none)
theorem zyw_writeInstruction_5_3 : mm_Yw zy_writeInstruction_5_3 1 := ⟨mm_tb_1 1255 (by decide +kernel) rfl, mm_tb_1 11 (by decide +kernel) rfl, ⟨by decide, by decide⟩, by decide +kernel⟩
theorem zk_Line_21 : mm_Sl "TensorForge$Line" 21 2 zy_get_12_2 := ⟨zyw_get_12_2, mm_tb_1 1256 (by decide +kernel) rfl, mm_tb_1 493 (by decide +kernel) rfl⟩
theorem zk_Line_25 : mm_Sl "TensorForge$Line" 25 1 zy_nameOf_12_12 := ⟨zyw_nameOf_12_12, mm_tb_1 1257 (by decide +kernel) rfl, mm_tb_1 582 (by decide +kernel) rfl⟩
abbrev zy_addToken_5_10 : mm_Y := (⟨"TensorForge$Line", "addToken", "(Ljava/lang/String;)V"⟩, prog_5_method_10_code, 3, none)
theorem zyw_addToken_5_10 : mm_Yw zy_addToken_5_10 1 := ⟨mm_tb_1 1261 (by decide +kernel) rfl, mm_tb_1 11 (by decide +kernel) rfl, ⟨by decide, by decide⟩, by decide +kernel⟩
abbrev zy_addSign_5_12 : mm_Y := (⟨"TensorForge$Line", "addSign", "(C)V"⟩, prog_5_method_12_code, 2, none)
theorem zyw_addSign_5_12 : mm_Yw zy_addSign_5_12 1 := ⟨mm_tb_1 1265 (by decide +kernel) rfl, mm_tb_1 11 (by decide +kernel) rfl, ⟨by decide, by decide⟩, by decide +kernel⟩
theorem zg_1_14_0 : zq_at zy_listing_1_14.2.1 0 27 ∧ zq_at zy_listing_1_14.2.1 1 155 ∧ zq_at zy_listing_1_14.2.1 2 0 ∧ zq_at zy_listing_1_14.2.1 3 15 ∧ zq_at zy_listing_1_14.2.1 4 27 ∧ zq_at zy_listing_1_14.2.1 5 42 ∧ zq_at zy_listing_1_14.2.1 6 180 ∧ zq_at zy_listing_1_14.2.1 7 0 ∧ zq_at zy_listing_1_14.2.1 8 26 ∧ zq_at zy_listing_1_14.2.1 9 162 ∧ zq_at zy_listing_1_14.2.1 10 0 ∧ zq_at zy_listing_1_14.2.1 11 7 ∧ zq_at zy_listing_1_14.2.1 12 28 ∧ zq_at zy_listing_1_14.2.1 13 156 ∧ zq_at zy_listing_1_14.2.1 14 0 ∧ zq_at zy_listing_1_14.2.1 15 13 ∧ zq_at zy_listing_1_14.2.1 26 42 ∧ zq_at zy_listing_1_14.2.1 27 180 ∧ zq_at zy_listing_1_14.2.1 28 0 ∧ zq_at zy_listing_1_14.2.1 29 83 ∧ zq_at zy_listing_1_14.2.1 30 42 ∧ zq_at zy_listing_1_14.2.1 31 180 ∧ zq_at zy_listing_1_14.2.1 32 0 ∧ zq_at zy_listing_1_14.2.1 33 19 := by decide +kernel
theorem zd_1_14_0 : zz_D zy_listing_1_14 0 (.iload_n 1) 1 1 := ⟨zq_27 zg_1_14_0.1, rfl⟩
theorem zd_1_14_1 : zz_B zy_listing_1_14 1 (Instr.ifCond .lt) 16 4 := ⟨15, zq_155 zg_1_14_0.2.1 zg_1_14_0.2.2.1 zg_1_14_0.2.2.2.1 (by decide), rfl, rfl⟩
theorem zd_1_14_4 : zz_D zy_listing_1_14 4 (.iload_n 1) 1 5 := ⟨zq_27 zg_1_14_0.2.2.2.2.1, rfl⟩
theorem zd_1_14_5 : zz_D zy_listing_1_14 5 (.aload_n 0) 1 6 := ⟨zq_42 zg_1_14_0.2.2.2.2.2.1, rfl⟩
theorem zd_1_14_6 : zz_D zy_listing_1_14 6 (.getfield 26) 3 9 := ⟨zq_180 zg_1_14_0.2.2.2.2.2.2.1 zg_1_14_0.2.2.2.2.2.2.2.1 zg_1_14_0.2.2.2.2.2.2.2.2.1 rfl, rfl⟩
theorem zd_1_14_9 : zz_B zy_listing_1_14 9 (Instr.if_icmp .ge) 16 12 := ⟨7, zq_162 zg_1_14_0.2.2.2.2.2.2.2.2.2.1 zg_1_14_0.2.2.2.2.2.2.2.2.2.2.1 zg_1_14_0.2.2.2.2.2.2.2.2.2.2.2.1 (by decide), rfl, rfl⟩
theorem zd_1_14_12 : zz_D zy_listing_1_14 12 (.iload_n 2) 1 13 := ⟨zq_28 zg_1_14_0.2.2.2.2.2.2.2.2.2.2.2.2.1, rfl⟩
theorem zd_1_14_13 : zz_B zy_listing_1_14 13 (Instr.ifCond .ge) 26 16 := ⟨13, zq_156 zg_1_14_0.2.2.2.2.2.2.2.2.2.2.2.2.2.1 zg_1_14_0.2.2.2.2.2.2.2.2.2.2.2.2.2.2.1 zg_1_14_0.2.2.2.2.2.2.2.2.2.2.2.2.2.2.2.1 (by decide), rfl, rfl⟩
theorem zd_1_14_26 : zz_D zy_listing_1_14 26 (.aload_n 0) 1 27 := ⟨zq_42 zg_1_14_0.2.2.2.2.2.2.2.2.2.2.2.2.2.2.2.2.1, rfl⟩
theorem zd_1_14_27 : zz_D zy_listing_1_14 27 (.getfield 83) 3 30 := ⟨zq_180 zg_1_14_0.2.2.2.2.2.2.2.2.2.2.2.2.2.2.2.2.2.1 zg_1_14_0.2.2.2.2.2.2.2.2.2.2.2.2.2.2.2.2.2.2.1 zg_1_14_0.2.2.2.2.2.2.2.2.2.2.2.2.2.2.2.2.2.2.2.1 rfl, rfl⟩
theorem zd_1_14_30 : zz_D zy_listing_1_14 30 (.aload_n 0) 1 31 := ⟨zq_42 zg_1_14_0.2.2.2.2.2.2.2.2.2.2.2.2.2.2.2.2.2.2.2.2.1, rfl⟩
theorem zd_1_14_31 : zz_D zy_listing_1_14 31 (.getfield 19) 3 34 := ⟨zq_180 zg_1_14_0.2.2.2.2.2.2.2.2.2.2.2.2.2.2.2.2.2.2.2.2.2.1 zg_1_14_0.2.2.2.2.2.2.2.2.2.2.2.2.2.2.2.2.2.2.2.2.2.2.1 zg_1_14_0.2.2.2.2.2.2.2.2.2.2.2.2.2.2.2.2.2.2.2.2.2.2.2 rfl, rfl⟩
theorem zg_1_14_34 : zq_at zy_listing_1_14.2.1 34 27 ∧ zq_at zy_listing_1_14.2.1 35 47 ∧ zq_at zy_listing_1_14.2.1 36 182 ∧ zq_at zy_listing_1_14.2.1 37 0 ∧ zq_at zy_listing_1_14.2.1 38 174 := by decide +kernel
theorem zd_1_14_34 : zz_D zy_listing_1_14 34 (.iload_n 1) 1 35 := ⟨zq_27 zg_1_14_34.1, rfl⟩
theorem zd_1_14_35 : zz_D zy_listing_1_14 35 (.laload) 1 36 := ⟨zq_47 zg_1_14_34.2.1, rfl⟩
theorem zd_1_14_36 : zz_D zy_listing_1_14 36 (.invokevirtual 174) 3 39 := ⟨zq_182 zg_1_14_34.2.2.1 zg_1_14_34.2.2.2.1 zg_1_14_34.2.2.2.2 rfl, rfl⟩
theorem zg_5_3_0 : zq_at zy_writeInstruction_5_3.2.1 0 42 ∧ zq_at zy_writeInstruction_5_3.2.1 1 3 ∧ zq_at zy_writeInstruction_5_3.2.1 2 181 ∧ zq_at zy_writeInstruction_5_3.2.1 3 0 ∧ zq_at zy_writeInstruction_5_3.2.1 4 15 ∧ zq_at zy_writeInstruction_5_3.2.1 5 42 ∧ zq_at zy_writeInstruction_5_3.2.1 6 31 ∧ zq_at zy_writeInstruction_5_3.2.1 7 3 ∧ zq_at zy_writeInstruction_5_3.2.1 8 184 ∧ zq_at zy_writeInstruction_5_3.2.1 9 0 ∧ zq_at zy_writeInstruction_5_3.2.1 10 21 ∧ zq_at zy_writeInstruction_5_3.2.1 11 184 ∧ zq_at zy_writeInstruction_5_3.2.1 12 0 ∧ zq_at zy_writeInstruction_5_3.2.1 13 25 ∧ zq_at zy_writeInstruction_5_3.2.1 14 182 ∧ zq_at zy_writeInstruction_5_3.2.1 15 0 ∧ zq_at zy_writeInstruction_5_3.2.1 16 29 := by decide +kernel
theorem zd_5_3_0 : zz_D zy_writeInstruction_5_3 0 (.aload_n 0) 1 1 := ⟨zq_42 zg_5_3_0.1, rfl⟩
theorem zd_5_3_1 : zz_D zy_writeInstruction_5_3 1 (.iconst 0) 1 2 := ⟨zq_3 zg_5_3_0.2.1, rfl⟩
theorem zd_5_3_2 : zz_D zy_writeInstruction_5_3 2 (.putfield 15) 3 5 := ⟨zq_181 zg_5_3_0.2.2.1 zg_5_3_0.2.2.2.1 zg_5_3_0.2.2.2.2.1 rfl, rfl⟩
theorem zd_5_3_5 : zz_D zy_writeInstruction_5_3 5 (.aload_n 0) 1 6 := ⟨zq_42 zg_5_3_0.2.2.2.2.2.1, rfl⟩
theorem zd_5_3_6 : zz_D zy_writeInstruction_5_3 6 (.lload_n 1) 1 7 := ⟨zq_31 zg_5_3_0.2.2.2.2.2.2.1, rfl⟩
theorem zd_5_3_7 : zz_D zy_writeInstruction_5_3 7 (.iconst 0) 1 8 := ⟨zq_3 zg_5_3_0.2.2.2.2.2.2.2.1, rfl⟩
theorem zd_5_3_8 : zz_D zy_writeInstruction_5_3 8 (.invokestatic 21) 3 11 := ⟨zq_184 zg_5_3_0.2.2.2.2.2.2.2.2.1 zg_5_3_0.2.2.2.2.2.2.2.2.2.1 zg_5_3_0.2.2.2.2.2.2.2.2.2.2.1 rfl, rfl⟩
theorem zd_5_3_11 : zz_D zy_writeInstruction_5_3 11 (.invokestatic 25) 3 14 := ⟨zq_184 zg_5_3_0.2.2.2.2.2.2.2.2.2.2.2.1 zg_5_3_0.2.2.2.2.2.2.2.2.2.2.2.2.1 zg_5_3_0.2.2.2.2.2.2.2.2.2.2.2.2.2.1 rfl, rfl⟩
theorem zd_5_3_14 : zz_D zy_writeInstruction_5_3 14 (.invokevirtual 29) 3 17 := ⟨zq_182 zg_5_3_0.2.2.2.2.2.2.2.2.2.2.2.2.2.2.1 zg_5_3_0.2.2.2.2.2.2.2.2.2.2.2.2.2.2.2.1 zg_5_3_0.2.2.2.2.2.2.2.2.2.2.2.2.2.2.2.2 rfl, rfl⟩
theorem zg_5_10_0 : zq_at zy_addToken_5_10.2.1 0 42 ∧ zq_at zy_addToken_5_10.2.1 1 180 ∧ zq_at zy_addToken_5_10.2.1 2 0 ∧ zq_at zy_addToken_5_10.2.1 3 15 ∧ zq_at zy_addToken_5_10.2.1 4 158 ∧ zq_at zy_addToken_5_10.2.1 5 0 ∧ zq_at zy_addToken_5_10.2.1 6 9 ∧ zq_at zy_addToken_5_10.2.1 13 3 ∧ zq_at zy_addToken_5_10.2.1 14 61 ∧ zq_at zy_addToken_5_10.2.1 7 42 ∧ zq_at zy_addToken_5_10.2.1 8 16 ∧ zq_at zy_addToken_5_10.2.1 9 32 ∧ zq_at zy_addToken_5_10.2.1 10 182 ∧ zq_at zy_addToken_5_10.2.1 11 0 ∧ zq_at zy_addToken_5_10.2.1 12 69 := by decide +kernel
theorem zd_5_10_0 : zz_D zy_addToken_5_10 0 (.aload_n 0) 1 1 := ⟨zq_42 zg_5_10_0.1, rfl⟩
theorem zd_5_10_1 : zz_D zy_addToken_5_10 1 (.getfield 15) 3 4 := ⟨zq_180 zg_5_10_0.2.1 zg_5_10_0.2.2.1 zg_5_10_0.2.2.2.1 rfl, rfl⟩
theorem zd_5_10_4 : zz_B zy_addToken_5_10 4 (Instr.ifCond .le) 13 7 := ⟨9, zq_158 zg_5_10_0.2.2.2.2.1 zg_5_10_0.2.2.2.2.2.1 zg_5_10_0.2.2.2.2.2.2.1 (by decide), rfl, rfl⟩
theorem zd_5_10_13 : zz_D zy_addToken_5_10 13 (.iconst 0) 1 14 := ⟨zq_3 zg_5_10_0.2.2.2.2.2.2.2.1, rfl⟩
theorem zd_5_10_14 : zz_D zy_addToken_5_10 14 (.istore_n 2) 1 15 := ⟨zq_61 zg_5_10_0.2.2.2.2.2.2.2.2.1, rfl⟩
theorem zd_5_10_7 : zz_D zy_addToken_5_10 7 (.aload_n 0) 1 8 := ⟨zq_42 zg_5_10_0.2.2.2.2.2.2.2.2.2.1, rfl⟩
theorem zd_5_10_8 : zz_D zy_addToken_5_10 8 (.bipush 32) 2 10 := ⟨zq_16 zg_5_10_0.2.2.2.2.2.2.2.2.2.2.1 zg_5_10_0.2.2.2.2.2.2.2.2.2.2.2.1 (by decide), rfl⟩
theorem zd_5_10_10 : zz_D zy_addToken_5_10 10 (.invokevirtual 69) 3 13 := ⟨zq_182 zg_5_10_0.2.2.2.2.2.2.2.2.2.2.2.2.1 zg_5_10_0.2.2.2.2.2.2.2.2.2.2.2.2.2.1 zg_5_10_0.2.2.2.2.2.2.2.2.2.2.2.2.2.2 rfl, rfl⟩
theorem zg_5_12_0 : zq_at zy_addSign_5_12.2.1 0 42 ∧ zq_at zy_addSign_5_12.2.1 1 180 ∧ zq_at zy_addSign_5_12.2.1 2 0 ∧ zq_at zy_addSign_5_12.2.1 3 15 ∧ zq_at zy_addSign_5_12.2.1 4 42 ∧ zq_at zy_addSign_5_12.2.1 5 180 ∧ zq_at zy_addSign_5_12.2.1 6 0 ∧ zq_at zy_addSign_5_12.2.1 7 11 ∧ zq_at zy_addSign_5_12.2.1 8 190 ∧ zq_at zy_addSign_5_12.2.1 9 162 ∧ zq_at zy_addSign_5_12.2.1 10 0 ∧ zq_at zy_addSign_5_12.2.1 11 23 ∧ zq_at zy_addSign_5_12.2.1 32 177 ∧ zq_at zy_addSign_5_12.2.1 12 42 ∧ zq_at zy_addSign_5_12.2.1 13 180 ∧ zq_at zy_addSign_5_12.2.1 14 0 ∧ zq_at zy_addSign_5_12.2.1 15 11 ∧ zq_at zy_addSign_5_12.2.1 16 42 ∧ zq_at zy_addSign_5_12.2.1 17 180 ∧ zq_at zy_addSign_5_12.2.1 18 0 ∧ zq_at zy_addSign_5_12.2.1 19 15 ∧ zq_at zy_addSign_5_12.2.1 20 27 ∧ zq_at zy_addSign_5_12.2.1 21 85 ∧ zq_at zy_addSign_5_12.2.1 22 42 := by decide +kernel
theorem zd_5_12_0 : zz_D zy_addSign_5_12 0 (.aload_n 0) 1 1 := ⟨zq_42 zg_5_12_0.1, rfl⟩
theorem zd_5_12_1 : zz_D zy_addSign_5_12 1 (.getfield 15) 3 4 := ⟨zq_180 zg_5_12_0.2.1 zg_5_12_0.2.2.1 zg_5_12_0.2.2.2.1 rfl, rfl⟩
theorem zd_5_12_4 : zz_D zy_addSign_5_12 4 (.aload_n 0) 1 5 := ⟨zq_42 zg_5_12_0.2.2.2.2.1, rfl⟩
theorem zd_5_12_5 : zz_D zy_addSign_5_12 5 (.getfield 11) 3 8 := ⟨zq_180 zg_5_12_0.2.2.2.2.2.1 zg_5_12_0.2.2.2.2.2.2.1 zg_5_12_0.2.2.2.2.2.2.2.1 rfl, rfl⟩
theorem zd_5_12_8 : zz_D zy_addSign_5_12 8 (.arraylength) 1 9 := ⟨zq_190 zg_5_12_0.2.2.2.2.2.2.2.2.1, rfl⟩
theorem zd_5_12_9 : zz_B zy_addSign_5_12 9 (Instr.if_icmp .ge) 32 12 := ⟨23, zq_162 zg_5_12_0.2.2.2.2.2.2.2.2.2.1 zg_5_12_0.2.2.2.2.2.2.2.2.2.2.1 zg_5_12_0.2.2.2.2.2.2.2.2.2.2.2.1 (by decide), rfl, rfl⟩
theorem zd_5_12_32 : zz_D zy_addSign_5_12 32 (.return_) 1 33 := ⟨zq_177 zg_5_12_0.2.2.2.2.2.2.2.2.2.2.2.2.1, rfl⟩
theorem zd_5_12_12 : zz_D zy_addSign_5_12 12 (.aload_n 0) 1 13 := ⟨zq_42 zg_5_12_0.2.2.2.2.2.2.2.2.2.2.2.2.2.1, rfl⟩
theorem zd_5_12_13 : zz_D zy_addSign_5_12 13 (.getfield 11) 3 16 := ⟨zq_180 zg_5_12_0.2.2.2.2.2.2.2.2.2.2.2.2.2.2.1 zg_5_12_0.2.2.2.2.2.2.2.2.2.2.2.2.2.2.2.1 zg_5_12_0.2.2.2.2.2.2.2.2.2.2.2.2.2.2.2.2.1 rfl, rfl⟩
theorem zd_5_12_16 : zz_D zy_addSign_5_12 16 (.aload_n 0) 1 17 := ⟨zq_42 zg_5_12_0.2.2.2.2.2.2.2.2.2.2.2.2.2.2.2.2.2.1, rfl⟩
theorem zd_5_12_17 : zz_D zy_addSign_5_12 17 (.getfield 15) 3 20 := ⟨zq_180 zg_5_12_0.2.2.2.2.2.2.2.2.2.2.2.2.2.2.2.2.2.2.1 zg_5_12_0.2.2.2.2.2.2.2.2.2.2.2.2.2.2.2.2.2.2.2.1 zg_5_12_0.2.2.2.2.2.2.2.2.2.2.2.2.2.2.2.2.2.2.2.2.1 rfl, rfl⟩
theorem zd_5_12_20 : zz_D zy_addSign_5_12 20 (.iload_n 1) 1 21 := ⟨zq_27 zg_5_12_0.2.2.2.2.2.2.2.2.2.2.2.2.2.2.2.2.2.2.2.2.2.1, rfl⟩
theorem zd_5_12_21 : zz_D zy_addSign_5_12 21 (.castore) 1 22 := ⟨zq_85 zg_5_12_0.2.2.2.2.2.2.2.2.2.2.2.2.2.2.2.2.2.2.2.2.2.2.1, rfl⟩
theorem zd_5_12_22 : zz_D zy_addSign_5_12 22 (.aload_n 0) 1 23 := ⟨zq_42 zg_5_12_0.2.2.2.2.2.2.2.2.2.2.2.2.2.2.2.2.2.2.2.2.2.2.2, rfl⟩
theorem zg_5_12_23 : zq_at zy_addSign_5_12.2.1 23 89 ∧ zq_at zy_addSign_5_12.2.1 24 180 ∧ zq_at zy_addSign_5_12.2.1 25 0 ∧ zq_at zy_addSign_5_12.2.1 26 15 ∧ zq_at zy_addSign_5_12.2.1 27 4 ∧ zq_at zy_addSign_5_12.2.1 28 96 ∧ zq_at zy_addSign_5_12.2.1 29 181 ∧ zq_at zy_addSign_5_12.2.1 30 0 ∧ zq_at zy_addSign_5_12.2.1 31 15 := by decide +kernel
theorem zd_5_12_23 : zz_D zy_addSign_5_12 23 (.dup) 1 24 := ⟨zq_89 zg_5_12_23.1, rfl⟩
theorem zd_5_12_24 : zz_D zy_addSign_5_12 24 (.getfield 15) 3 27 := ⟨zq_180 zg_5_12_23.2.1 zg_5_12_23.2.2.1 zg_5_12_23.2.2.2.1 rfl, rfl⟩
theorem zd_5_12_27 : zz_D zy_addSign_5_12 27 (.iconst 1) 1 28 := ⟨zq_4 zg_5_12_23.2.2.2.2.1, rfl⟩
theorem zd_5_12_28 : zz_D zy_addSign_5_12 28 (.iadd) 1 29 := ⟨zq_96 zg_5_12_23.2.2.2.2.2.1, rfl⟩
theorem zd_5_12_29 : zz_D zy_addSign_5_12 29 (.putfield 15) 3 32 := ⟨zq_181 zg_5_12_23.2.2.2.2.2.2.1 zg_5_12_23.2.2.2.2.2.2.2.1 zg_5_12_23.2.2.2.2.2.2.2.2 rfl, rfl⟩
-- TensorForge$Line addSign (C)V
abbrev zr_addSign_5_12 : Room := { frames := 0, cells := 0, slots := 0, locals := 0 }
def zp_addSign_5_12 (p0 : Int) (S0 : zz_S) : zz_S → Prop := fun S => zz_G S ∧ zz_fr [(1077, 1)] [1078] (fun _ _ => False) S0 S ∧ (∀ (u : List Int), zs_P (S0 1077 1) (S0 1078) u → u.length ≤ 127 → zs_P (S 1077 1) (S 1078) (u ++ [p0]))
theorem zc_addSign_5_12 {g : mm_G} {l : Launch} (p0 : Int) (S0 : zz_S) (n : Nat) (hn : zz_end ≤ n) (G_S0 : zz_G S0) (hp0 : 0 ≤ p0 ∧ p0 ≤ 65535) : mm_Met g l zy_addSign_5_12 zr_addSign_5_12 [.ref 1077, zi p0] (zz_M S0 n) n (zz_QV n (zp_addSign_5_12 p0 S0)) := by
  refine zz_enter (by decide) (Nat.le_of_ble_eq_true rfl) (zz_less (ls1 := [some (.ref 1077), some (zi p0)]) ⟨rfl, ⟨rfl, trivial⟩⟩ ?_)
  have F_S0 : zz_fr [(1077, 1)] [1078] (fun _ _ => False) S0 S0 := zz_fr.refl
  refine zz_aload_n (x := 1077) rfl zd_5_12_0 ?_
  have g1 := zz_G.r G_S0 1077 1 0 128 rfl rfl
  refine zz_geti (z := S0 1077 1) zd_5_12_1 zf_Line_15 zT_1077 rfl (zz_ltn hn rfl) rfl ?_
  refine zz_aload_n (x := 1077) rfl zd_5_12_4 ?_
  refine zz_getr (kd := 0) (z := 1078) zd_5_12_5 zf_Line_11 zT_1077 rfl (zz_ltn hn rfl) (zz_G.eq G_S0 1077 0 1078 rfl rfl) (by decide) 1078 rfl ?_
  refine zz_alen zd_5_12_8 zT_1078 rfl (zz_ltn hn rfl) ?_
  refine zz_icmp_ge (by omega) (by omega) zd_5_12_9 (fun c2 => ?_) (fun c2 => ?_)
  · exact zz_vret zd_5_12_32 rfl (Nat.zero_le _) (Nat.zero_le _) ⟨_, rfl, G_S0, F_S0, (fun u h hl => absurd h.1 (by omega))⟩
  · refine zz_aload_n (x := 1077) rfl zd_5_12_12 ?_
    refine zz_getr (kd := 0) (z := 1078) zd_5_12_13 zf_Line_11 zT_1077 rfl (zz_ltn hn rfl) (zz_G.eq G_S0 1077 0 1078 rfl rfl) (by decide) 1078 rfl ?_
    refine zz_aload_n (x := 1077) rfl zd_5_12_16 ?_
    refine zz_geti (z := S0 1077 1) zd_5_12_17 zf_Line_15 zT_1077 rfl (zz_ltn hn rfl) rfl ?_
    refine zz_iload_n (x := p0) rfl zd_5_12_20 ?_
    refine zz_cast zd_5_12_21 zT_1078 rfl (zz_ltn hn rfl) (by decide) (by omega) (by omega) (fun S3 qS3 => ?_)
    have G_S3 := zz_G.put G_S0 qS3 0 65535 rfl (by omega)
    have F_S3 := zz_fr.putc F_S0 qS3 rfl
    refine zz_aload_n (x := 1077) rfl zd_5_12_22 ?_
    refine zz_dup rfl zd_5_12_23 ?_
    refine zz_geti (z := S0 1077 1) zd_5_12_24 zf_Line_15 zT_1077 rfl (zz_ltn hn rfl) (zz_ro qS3 (fun h => absurd h.1 (by decide)) rfl) ?_
    refine zz_iconst zd_5_12_27 ?_
    refine zz_iadd zd_5_12_28 ?_
    refine zz_puti zd_5_12_29 zf_Line_15 zT_1077 rfl (zz_ltn hn rfl) (fun S4 qS4 => ?_)
    have G_S4 := zz_G.put G_S3 qS4 0 128 rfl (by omega)
    have F_S4 := zz_fr.puts F_S3 qS4 rfl
    have e5 : S4 1077 1 = (S0 1077 1) + 1 := (zz_rs qS4)
    exact zz_vret zd_5_12_32 rfl (Nat.zero_le _) (Nat.zero_le _) ⟨_, rfl, G_S4, F_S4, (fun u h hl => zs_Pq h qS3 qS4 rfl rfl (by decide))⟩
theorem zk_Line_69 : mm_Vl "TensorForge$Line" 69 10 1 zy_addSign_5_12 := ⟨zyw_addSign_5_12, (R_Line, F_Line, 2), rfl, mm_tb_1 1262 (by decide +kernel) rfl, mm_tb_1 1264 (by decide +kernel) rfl, mm_tb_s 55 (by decide +kernel) rfl⟩
theorem zkT_Line_141 : mm_Yw zy_length_21_54 0 ∧ Cond.methodLink "TensorForge$Line" 141 zy_length_21_54.1 ∈ mm_tb ∧ Cond.instanceMethod zy_length_21_54.1 ∈ mm_tb ∧ Cond.selects "java/lang/String" zy_length_21_54.1 zy_length_21_54.1 ∈ mm_tb := ⟨zyw_length_21_54, mm_tb_1 1266 (by decide +kernel) rfl, mm_tb_1 599 (by decide +kernel) rfl, mm_tb_1 600 (by decide +kernel) rfl⟩
theorem zkT_Line_147 : mm_Yw zy_charAt_21_56 1 ∧ Cond.methodLink "TensorForge$Line" 147 zy_charAt_21_56.1 ∈ mm_tb ∧ Cond.instanceMethod zy_charAt_21_56.1 ∈ mm_tb ∧ Cond.selects "java/lang/String" zy_charAt_21_56.1 zy_charAt_21_56.1 ∈ mm_tb := ⟨zyw_charAt_21_56, mm_tb_1 1267 (by decide +kernel) rfl, mm_tb_1 609 (by decide +kernel) rfl, mm_tb_1 610 (by decide +kernel) rfl⟩
theorem zg_5_10_15 : zq_at zy_addToken_5_10.2.1 15 28 ∧ zq_at zy_addToken_5_10.2.1 16 43 ∧ zq_at zy_addToken_5_10.2.1 17 182 ∧ zq_at zy_addToken_5_10.2.1 18 0 ∧ zq_at zy_addToken_5_10.2.1 19 141 ∧ zq_at zy_addToken_5_10.2.1 20 162 ∧ zq_at zy_addToken_5_10.2.1 21 0 ∧ zq_at zy_addToken_5_10.2.1 22 18 ∧ zq_at zy_addToken_5_10.2.1 38 177 ∧ zq_at zy_addToken_5_10.2.1 23 42 ∧ zq_at zy_addToken_5_10.2.1 24 43 ∧ zq_at zy_addToken_5_10.2.1 25 28 ∧ zq_at zy_addToken_5_10.2.1 26 182 ∧ zq_at zy_addToken_5_10.2.1 27 0 ∧ zq_at zy_addToken_5_10.2.1 28 147 ∧ zq_at zy_addToken_5_10.2.1 29 182 ∧ zq_at zy_addToken_5_10.2.1 30 0 ∧ zq_at zy_addToken_5_10.2.1 31 69 ∧ zq_at zy_addToken_5_10.2.1 32 132 ∧ zq_at zy_addToken_5_10.2.1 33 2 ∧ zq_at zy_addToken_5_10.2.1 34 1 ∧ zq_at zy_addToken_5_10.2.1 35 167 ∧ zq_at zy_addToken_5_10.2.1 36 255 ∧ zq_at zy_addToken_5_10.2.1 37 236 := by decide +kernel
theorem zd_5_10_15 : zz_D zy_addToken_5_10 15 (.iload_n 2) 1 16 := ⟨zq_28 zg_5_10_15.1, rfl⟩
theorem zd_5_10_16 : zz_D zy_addToken_5_10 16 (.aload_n 1) 1 17 := ⟨zq_43 zg_5_10_15.2.1, rfl⟩
theorem zd_5_10_17 : zz_D zy_addToken_5_10 17 (.invokevirtual 141) 3 20 := ⟨zq_182 zg_5_10_15.2.2.1 zg_5_10_15.2.2.2.1 zg_5_10_15.2.2.2.2.1 rfl, rfl⟩
theorem zd_5_10_20 : zz_B zy_addToken_5_10 20 (Instr.if_icmp .ge) 38 23 := ⟨18, zq_162 zg_5_10_15.2.2.2.2.2.1 zg_5_10_15.2.2.2.2.2.2.1 zg_5_10_15.2.2.2.2.2.2.2.1 (by decide), rfl, rfl⟩
theorem zd_5_10_38 : zz_D zy_addToken_5_10 38 (.return_) 1 39 := ⟨zq_177 zg_5_10_15.2.2.2.2.2.2.2.2.1, rfl⟩
theorem zd_5_10_23 : zz_D zy_addToken_5_10 23 (.aload_n 0) 1 24 := ⟨zq_42 zg_5_10_15.2.2.2.2.2.2.2.2.2.1, rfl⟩
theorem zd_5_10_24 : zz_D zy_addToken_5_10 24 (.aload_n 1) 1 25 := ⟨zq_43 zg_5_10_15.2.2.2.2.2.2.2.2.2.2.1, rfl⟩
theorem zd_5_10_25 : zz_D zy_addToken_5_10 25 (.iload_n 2) 1 26 := ⟨zq_28 zg_5_10_15.2.2.2.2.2.2.2.2.2.2.2.1, rfl⟩
theorem zd_5_10_26 : zz_D zy_addToken_5_10 26 (.invokevirtual 147) 3 29 := ⟨zq_182 zg_5_10_15.2.2.2.2.2.2.2.2.2.2.2.2.1 zg_5_10_15.2.2.2.2.2.2.2.2.2.2.2.2.2.1 zg_5_10_15.2.2.2.2.2.2.2.2.2.2.2.2.2.2.1 rfl, rfl⟩
theorem zd_5_10_29 : zz_D zy_addToken_5_10 29 (.invokevirtual 69) 3 32 := ⟨zq_182 zg_5_10_15.2.2.2.2.2.2.2.2.2.2.2.2.2.2.2.1 zg_5_10_15.2.2.2.2.2.2.2.2.2.2.2.2.2.2.2.2.1 zg_5_10_15.2.2.2.2.2.2.2.2.2.2.2.2.2.2.2.2.2.1 rfl, rfl⟩
theorem zd_5_10_32 : zz_D zy_addToken_5_10 32 (.iinc 2 1) 3 35 := ⟨zq_132 zg_5_10_15.2.2.2.2.2.2.2.2.2.2.2.2.2.2.2.2.2.2.1 zg_5_10_15.2.2.2.2.2.2.2.2.2.2.2.2.2.2.2.2.2.2.2.1 zg_5_10_15.2.2.2.2.2.2.2.2.2.2.2.2.2.2.2.2.2.2.2.2.1 (by decide), rfl⟩
theorem zd_5_10_35 : zz_B zy_addToken_5_10 35 Instr.goto 15 38 := ⟨(-20), zq_167 zg_5_10_15.2.2.2.2.2.2.2.2.2.2.2.2.2.2.2.2.2.2.2.2.2.1 zg_5_10_15.2.2.2.2.2.2.2.2.2.2.2.2.2.2.2.2.2.2.2.2.2.2.1 zg_5_10_15.2.2.2.2.2.2.2.2.2.2.2.2.2.2.2.2.2.2.2.2.2.2.2 (by decide), rfl, rfl⟩
-- TensorForge$Line addToken (Ljava/lang/String;)V
abbrev zr_addToken_5_10 : Room := { frames := 4, cells := 0, slots := 0, locals := 54 }
def zp_addToken_5_10 (p0 : Nat) (S0 : zz_S) : zz_S → Prop := fun S => zz_G S ∧ zz_fr [(1077, 1)] [1078] (fun _ _ => False) S0 S ∧ (∀ (u : List Int) (m : Nat), zs_L (S0 1077 1) (S0 1078) u m → m ≤ 80 → zs_L (S 1077 1) (S 1078) (zs_tk u (zt_tw p0)) (m + 1 + (zt_tw p0).length))
theorem zb_addToken_5_10_15 {g : mm_G} {l : Launch} (p0 : Nat) (S0 : zz_S) (n : Nat) (hn : zz_end ≤ n) (G_S0 : zz_G S0) (hp0 : p0 < 59) (x2 : Int) (S : zz_S) (G_S : zz_G S) (F_S : zz_fr [(1077, 1)] [1078] (fun _ _ => False) S0 S) (i15_0 : 0 ≤ x2 ∧ x2 ≤ 38) (i15_1 : ∀ (u : List Int), zs_P (S0 1077 1) (S0 1078) u → u.length ≤ 80 → zs_P (S 1077 1) (S 1078) (zs_pre u ++ (zt_tw p0).take x2.toNat)) (R : Nat) (hR : (2147483647 - x2).toNat = R) (k15 : ∀ (x2 : Int) (S : zz_S), zz_G S → zz_fr [(1077, 1)] [1078] (fun _ _ => False) S0 S → (0 ≤ x2 ∧ x2 ≤ 38) → (∀ (u : List Int), zs_P (S0 1077 1) (S0 1078) u → u.length ≤ 80 → zs_P (S 1077 1) (S 1078) (zs_pre u ++ (zt_tw p0).take x2.toNat)) → (2147483647 - x2).toNat < R → zz_E g l zy_addToken_5_10 zr_addToken_5_10 (zz_QV n (zp_addToken_5_10 p0 S0)) S n 15 [some (.ref 1077), some (.ref (100 + p0)), some (zi x2)] [] 0 0) : zz_E g l zy_addToken_5_10 zr_addToken_5_10 (zz_QV n (zp_addToken_5_10 p0 S0)) S n 15 [some (.ref 1077), some (.ref (100 + p0)), some (zi x2)] [] 0 0 := by
  refine zz_iload_n (x := x2) rfl zd_5_10_15 ?_
  refine zz_aload_n (x := 100 + p0) rfl zd_5_10_16 ?_
  refine zz_callT (t := p0) [] (zz_stl (by omega)) (by omega) zd_5_10_17 zkT_Line_141 rfl rfl ⟨Nat.le_of_ble_eq_true rfl, Nat.le_of_ble_eq_true rfl⟩ ⟨rfl, rfl⟩ (Nat.zero_le _) (Nat.zero_le _) (zc_length_21_54 p0 S n hn G_S (by omega)) (fun v8 S7 hP => ?_)
  obtain ⟨rfl, o9, o10⟩ := hP
  refine zz_icmp_ge (by omega) (by omega) zd_5_10_20 (fun c11 => ?_) (fun c11 => ?_)
  · have g12 := zz_G.r G_S 1077 1 0 128 rfl rfl
    exact zz_vret zd_5_10_38 rfl (Nat.zero_le _) (Nat.zero_le _) ⟨_, rfl, G_S, F_S, (fun u m h hm => zs_Lt (zs_TE (i15_1 u h.1 (Nat.le_trans h.2 hm)) (by have h9 := zt_twl p0 (by omega); omega)) h.2)⟩
  · refine zz_aload_n (x := 1077) rfl zd_5_10_23 ?_
    refine zz_aload_n (x := 100 + p0) rfl zd_5_10_24 ?_
    refine zz_iload_n (x := x2) rfl zd_5_10_25 ?_
    refine zz_callT (t := p0) [zi x2] (zz_stl (by omega)) (by omega) zd_5_10_26 zkT_Line_147 rfl rfl ⟨Nat.le_of_ble_eq_true rfl, Nat.le_of_ble_eq_true rfl⟩ ⟨rfl, rfl⟩ (Nat.zero_le _) (Nat.zero_le _) (zc_charAt_21_56 p0 x2 S n hn G_S (by omega) (by omega) (by omega)) (fun v14 S13 hP => ?_)
    obtain ⟨rfl, o15, o16⟩ := hP
    have g17 := zz_G.r G_S 1077 1 0 128 rfl rfl
    refine zz_callVV [zi v14] zd_5_10_29 zk_Line_69 zT_1077 (zz_ltn hn rfl) rfl rfl ⟨Nat.le_of_ble_eq_true rfl, Nat.le_of_ble_eq_true rfl⟩ ⟨rfl, rfl⟩ (Nat.zero_le _) (Nat.zero_le _) (zc_addSign_5_12 v14 S n hn G_S (by omega)) (fun S18 hP => ?_)
    obtain ⟨G_S18, fS18, o20⟩ := hP
    have F_S18 := zz_fr.trans F_S fS18 rfl zz_nv
    refine zz_iinc [some (.ref 1077), some (.ref (100 + p0)), some (zi (x2 + 1))] zd_5_10_32 rfl rfl ?_
    refine zz_goto zd_5_10_35 ?_
    have g21 := zz_G.r G_S18 1077 1 0 128 rfl rfl
    refine zz_less (ls1 := [some (.ref 1077), some (.ref (100 + p0)), some (zi (x2 + 1))]) ⟨rfl, ⟨rfl, ⟨rfl, trivial⟩⟩⟩ ?_
    exact k15 (x2 + 1) S18 G_S18 F_S18 (by omega) (fun u h hl => zs_TS (i15_1 u h hl) (by omega) (by have h9 := zt_twl p0 (by omega); omega) rfl o16 hl (by omega) o20) (by omega)
theorem zi_addToken_5_10 {g : mm_G} {l : Launch} (p0 : Nat) (S0 : zz_S) (n : Nat) (hn : zz_end ≤ n) (G_S0 : zz_G S0) (hp0 : p0 < 59) : ∀ N : Nat, (∀ (x2 : Int) (S : zz_S), zz_G S → zz_fr [(1077, 1)] [1078] (fun _ _ => False) S0 S → (0 ≤ x2 ∧ x2 ≤ 38) → (∀ (u : List Int), zs_P (S0 1077 1) (S0 1078) u → u.length ≤ 80 → zs_P (S 1077 1) (S 1078) (zs_pre u ++ (zt_tw p0).take x2.toNat)) → (2147483647 - x2).toNat < N → zz_E g l zy_addToken_5_10 zr_addToken_5_10 (zz_QV n (zp_addToken_5_10 p0 S0)) S n 15 [some (.ref 1077), some (.ref (100 + p0)), some (zi x2)] [] 0 0) := by
  intro N
  induction N with
  | zero => exact fun x2 S _ _ _ _ h => absurd h (Nat.not_lt_zero _)
  | succ N ih =>
    exact fun x2 S a b j0 j1 hR => zb_addToken_5_10_15 p0 S0 n hn G_S0 hp0 x2 S a b j0 j1 _ rfl (fun x2 S a b j0 j1 h => ih x2 S a b j0 j1 (Nat.lt_of_lt_of_le h (Nat.le_of_lt_succ hR)))
theorem zc_addToken_5_10 {g : mm_G} {l : Launch} (p0 : Nat) (S0 : zz_S) (n : Nat) (hn : zz_end ≤ n) (G_S0 : zz_G S0) (hp0 : p0 < 59) : mm_Met g l zy_addToken_5_10 zr_addToken_5_10 [.ref 1077, .ref (100 + p0)] (zz_M S0 n) n (zz_QV n (zp_addToken_5_10 p0 S0)) := by
  refine zz_enter (by decide) (Nat.le_of_ble_eq_true rfl) (zz_less (ls1 := [some (.ref 1077), some (.ref (100 + p0))]) ⟨rfl, ⟨rfl, trivial⟩⟩ ?_)
  have F_S0 : zz_fr [(1077, 1)] [1078] (fun _ _ => False) S0 S0 := zz_fr.refl
  have k15 : ∀ (x2 : Int) (S : zz_S), zz_G S → zz_fr [(1077, 1)] [1078] (fun _ _ => False) S0 S → (0 ≤ x2 ∧ x2 ≤ 38) → (∀ (u : List Int), zs_P (S0 1077 1) (S0 1078) u → u.length ≤ 80 → zs_P (S 1077 1) (S 1078) (zs_pre u ++ (zt_tw p0).take x2.toNat)) → zz_E g l zy_addToken_5_10 zr_addToken_5_10 (zz_QV n (zp_addToken_5_10 p0 S0)) S n 15 [some (.ref 1077), some (.ref (100 + p0)), some (zi x2)] [] 0 0 := fun x2 S a b j0 j1 => (zi_addToken_5_10 (g := g) (l := l) p0 S0 n hn G_S0 hp0 _) x2 S a b j0 j1 (Nat.lt_succ_self _)
  refine zz_aload_n (x := 1077) rfl zd_5_10_0 ?_
  have g1 := zz_G.r G_S0 1077 1 0 128 rfl rfl
  refine zz_geti (z := S0 1077 1) zd_5_10_1 zf_Line_15 zT_1077 rfl (zz_ltn hn rfl) rfl ?_
  refine zz_if_le (by omega) zd_5_10_4 (fun c2 => ?_) (fun c2 => ?_)
  · refine zz_iconst zd_5_10_13 ?_
    refine zz_istore_n [some (.ref 1077), some (.ref (100 + p0)), some (zi 0)] zd_5_10_14 (by decide) rfl ?_
    refine zz_less (ls1 := [some (.ref 1077), some (.ref (100 + p0)), some (zi 0)]) ⟨rfl, ⟨rfl, ⟨rfl, trivial⟩⟩⟩ ?_
    exact k15 0 S0 G_S0 F_S0 (by omega) (fun u h hl => zs_T0 (zs_preZ h (by omega)))
  · refine zz_aload_n (x := 1077) rfl zd_5_10_7 ?_
    refine zz_bipush (by decide) zd_5_10_8 ?_
    refine zz_callVV [zi 32] zd_5_10_10 zk_Line_69 zT_1077 (zz_ltn hn rfl) rfl rfl ⟨Nat.le_of_ble_eq_true rfl, Nat.le_of_ble_eq_true rfl⟩ ⟨rfl, rfl⟩ (Nat.zero_le _) (Nat.zero_le _) (zc_addSign_5_12 32 S0 n hn G_S0 (by omega)) (fun S3 hP => ?_)
    obtain ⟨G_S3, fS3, o5⟩ := hP
    have F_S3 := zz_fr.trans F_S0 fS3 rfl zz_nv
    refine zz_iconst zd_5_10_13 ?_
    refine zz_istore_n [some (.ref 1077), some (.ref (100 + p0)), some (zi 0)] zd_5_10_14 (by decide) rfl ?_
    have g6 := zz_G.r G_S3 1077 1 0 128 rfl rfl
    refine zz_less (ls1 := [some (.ref 1077), some (.ref (100 + p0)), some (zi 0)]) ⟨rfl, ⟨rfl, ⟨rfl, trivial⟩⟩⟩ ?_
    exact k15 0 S3 G_S3 F_S3 (by omega) (fun u h hl => zs_T0 (zs_preA h (by omega) (o5 u h (by omega))))
theorem zk_Line_29 : mm_Vl "TensorForge$Line" 29 10 1 zy_addToken_5_10 := ⟨zyw_addToken_5_10, (R_Line, F_Line, 2), rfl, mm_tb_1 1258 (by decide +kernel) rfl, mm_tb_1 1260 (by decide +kernel) rfl, mm_tb_s 54 (by decide +kernel) rfl⟩
abbrev zy_addUnlessNothing_5_6 : mm_Y := (⟨"TensorForge$Line", "addUnlessNothing", "(Ljava/lang/String;JI)V"⟩, prog_5_method_6_code, 5, none)
theorem zyw_addUnlessNothing_5_6 : mm_Yw zy_addUnlessNothing_5_6 3 := ⟨mm_tb_1 1272 (by decide +kernel) rfl, mm_tb_1 11 (by decide +kernel) rfl, ⟨by decide, by decide⟩, by decide +kernel⟩
theorem zg_5_3_17 : zq_at zy_writeInstruction_5_3.2.1 17 42 ∧ zq_at zy_writeInstruction_5_3.2.1 18 18 ∧ zq_at zy_writeInstruction_5_3.2.1 19 33 ∧ zq_at zy_writeInstruction_5_3.2.1 20 31 ∧ zq_at zy_writeInstruction_5_3.2.1 21 8 ∧ zq_at zy_writeInstruction_5_3.2.1 22 182 ∧ zq_at zy_writeInstruction_5_3.2.1 23 0 ∧ zq_at zy_writeInstruction_5_3.2.1 24 35 := by decide +kernel
theorem zd_5_3_17 : zz_D zy_writeInstruction_5_3 17 (.aload_n 0) 1 18 := ⟨zq_42 zg_5_3_17.1, rfl⟩
theorem zd_5_3_18 : zz_D zy_writeInstruction_5_3 18 (.ldc 33) 2 20 := ⟨zq_18 zg_5_3_17.2.1 zg_5_3_17.2.2.1, rfl⟩
theorem zd_5_3_20 : zz_D zy_writeInstruction_5_3 20 (.lload_n 1) 1 21 := ⟨zq_31 zg_5_3_17.2.2.2.1, rfl⟩
theorem zd_5_3_21 : zz_D zy_writeInstruction_5_3 21 (.iconst 5) 1 22 := ⟨zq_8 zg_5_3_17.2.2.2.2.1, rfl⟩
theorem zd_5_3_22 : zz_D zy_writeInstruction_5_3 22 (.invokevirtual 35) 3 25 := ⟨zq_182 zg_5_3_17.2.2.2.2.2.1 zg_5_3_17.2.2.2.2.2.2.1 zg_5_3_17.2.2.2.2.2.2.2 rfl, rfl⟩
theorem zg_5_6_0 : zq_at zy_addUnlessNothing_5_6.2.1 0 32 ∧ zq_at zy_addUnlessNothing_5_6.2.1 1 21 ∧ zq_at zy_addUnlessNothing_5_6.2.1 2 4 ∧ zq_at zy_addUnlessNothing_5_6.2.1 3 184 ∧ zq_at zy_addUnlessNothing_5_6.2.1 4 0 ∧ zq_at zy_addUnlessNothing_5_6.2.1 5 39 := by decide +kernel
theorem zd_5_6_0 : zz_D zy_addUnlessNothing_5_6 0 (.lload_n 2) 1 1 := ⟨zq_32 zg_5_6_0.1, rfl⟩
theorem zd_5_6_1 : zz_D zy_addUnlessNothing_5_6 1 (.iload 4) 2 3 := ⟨zq_21 zg_5_6_0.2.1 zg_5_6_0.2.2.1, rfl⟩
theorem zd_5_6_3 : zz_D zy_addUnlessNothing_5_6 3 (.invokestatic 39) 3 6 := ⟨zq_184 zg_5_6_0.2.2.2.1 zg_5_6_0.2.2.2.2.1 zg_5_6_0.2.2.2.2.2 rfl, rfl⟩
theorem zg_12_2_10 : zq_at zy_get_12_2.2.1 10 3 ∧ zq_at zy_get_12_2.2.1 11 172 := by decide +kernel
theorem zd_12_2_10 : zz_D zy_get_12_2 10 (.iconst 0) 1 11 := ⟨zq_3 zg_12_2_10.1, rfl⟩
theorem zd_12_2_11 : zz_D zy_get_12_2 11 (.ireturn) 1 12 := ⟨zq_172 zg_12_2_10.2, rfl⟩
-- TensorForge$Words get (JI)I
abbrev zr_get_12_2 : Room := { frames := 0, cells := 0, slots := 0, locals := 0 }
def zp_get_12_2 (p0 : Int) (p1 : Int) (S0 : zz_S) : Int → zz_S → Prop := fun r S => S0 = S ∧ ((-2147483648) ≤ r ∧ r ≤ 2147483647)
theorem zc_get_12_2 {g : mm_G} {l : Launch} (p0 : Int) (p1 : Int) (S0 : zz_S) (n : Nat) (hn : zz_end ≤ n) (G_S0 : zz_G S0) (hp0 : (-9223372036854775808) ≤ p0 ∧ p0 ≤ 9223372036854775807) (hp1 : (-2147483648) ≤ p1 ∧ p1 ≤ 2147483647) : mm_Met g l zy_get_12_2 zr_get_12_2 [zl p0, zi p1] (zz_M S0 n) n (zz_QI n (zp_get_12_2 p0 p1 S0)) := by
  refine zz_enter (by decide) (Nat.le_of_ble_eq_true rfl) (zz_less (ls1 := [some (zl p0), none, some (zi p1)]) ⟨rfl, ⟨rfl, trivial⟩⟩ ?_)
  refine zz_iload_n (x := p1) rfl zd_12_2_0 ?_
  refine zz_if_lt (by omega) zd_12_2_1 (fun c1 => ?_) (fun c1 => ?_)
  · refine zz_iconst zd_12_2_10 ?_
    exact zz_iret zd_12_2_11 rfl (Nat.zero_le _) (Nat.zero_le _) ⟨_, _, rfl, rfl, by omega⟩
  · refine zz_iload_n (x := p1) rfl zd_12_2_4 ?_
    refine zz_bipush (by decide) zd_12_2_5 ?_
    refine zz_icmp_lt (by omega) (by omega) zd_12_2_7 (fun c2 => ?_) (fun c2 => ?_)
    · refine zz_lload_n (x := p0) rfl zd_12_2_12 ?_
      refine zz_gets (q0 := 1) zd_12_2_13 rfl (by decide) zs_Words_9 ?_
      refine zz_iload_n (x := p1) rfl zd_12_2_16 ?_
      obtain ⟨v3, hv3, tv3⟩ := zz_sta1 (i := p1) (by omega)
      refine zz_tiald (N := 12) v3 zd_12_2_17 rfl (by decide) rfl (by decide) (by omega) tv3 ?_
      refine zz_lushr zd_12_2_18 (fun v4 hv4 ev4 => ?_)
      refine zz_l2i (by omega) zd_12_2_19 (fun v5 hv5 av5 ev5 => ?_)
      refine zz_gets (q0 := 2) zd_12_2_20 rfl (by decide) zs_Words_13 ?_
      refine zz_iload_n (x := p1) rfl zd_12_2_23 ?_
      obtain ⟨v6, hv6, tv6⟩ := zz_sta2 (i := p1) (by omega)
      refine zz_tiald (N := 12) v6 zd_12_2_24 rfl (by decide) rfl (by decide) (by omega) tv6 ?_
      refine zz_iand (by omega) (by omega) zd_12_2_25 (fun v7 hv7 av7 bv7 ev7 => ?_)
      exact zz_iret zd_12_2_26 rfl (Nat.zero_le _) (Nat.zero_le _) ⟨_, _, rfl, rfl, by omega⟩
    · refine zz_iconst zd_12_2_10 ?_
      exact zz_iret zd_12_2_11 rfl (Nat.zero_le _) (Nat.zero_le _) ⟨_, _, rfl, rfl, by omega⟩
-- TensorForge$Words has (JI)Z
abbrev zr_has_12_3 : Room := { frames := 1, cells := 0, slots := 0, locals := 14 }
def zp_has_12_3 (p0 : Int) (p1 : Int) (S0 : zz_S) : Int → zz_S → Prop := fun r S => S0 = S ∧ (0 ≤ r ∧ r ≤ 1)
theorem zc_has_12_3 {g : mm_G} {l : Launch} (p0 : Int) (p1 : Int) (S0 : zz_S) (n : Nat) (hn : zz_end ≤ n) (G_S0 : zz_G S0) (hp0 : (-9223372036854775808) ≤ p0 ∧ p0 ≤ 9223372036854775807) (hp1 : (-2147483648) ≤ p1 ∧ p1 ≤ 2147483647) : mm_Met g l zy_has_12_3 zr_has_12_3 [zl p0, zi p1] (zz_M S0 n) n (zz_QI n (zp_has_12_3 p0 p1 S0)) := by
  refine zz_enter (by decide) (Nat.le_of_ble_eq_true rfl) (zz_less (ls1 := [some (zl p0), none, some (zi p1)]) ⟨rfl, ⟨rfl, trivial⟩⟩ ?_)
  refine zz_lload_n (x := p0) rfl zd_12_3_0 ?_
  refine zz_iload_n (x := p1) rfl zd_12_3_1 ?_
  refine zz_callSI [zl p0, zi p1] zd_12_3_2 zk_Words_16 rfl rfl ⟨Nat.le_of_ble_eq_true rfl, Nat.le_of_ble_eq_true rfl⟩ ⟨rfl, rfl⟩ (Nat.zero_le _) (Nat.zero_le _) (zc_get_12_2 p0 p1 S0 n hn G_S0 (by omega) (by omega)) (fun v2 S1 hP => ?_)
  obtain ⟨rfl, o3⟩ := hP
  refine zz_if_eq (by omega) zd_12_3_5 (fun c4 => ?_) (fun c4 => ?_)
  · refine zz_iconst zd_12_3_12 ?_
    exact zz_zret zd_12_3_13 rfl (by omega) (Nat.zero_le _) (Nat.zero_le _) ⟨_, _, rfl, rfl, by omega⟩
  · refine zz_iconst zd_12_3_8 ?_
    refine zz_goto zd_12_3_9 ?_
    exact zz_zret zd_12_3_13 rfl (by omega) (Nat.zero_le _) (Nat.zero_le _) ⟨_, _, rfl, rfl, by omega⟩
theorem zk_Line_39 : mm_Sl "TensorForge$Line" 39 2 zy_has_12_3 := ⟨zyw_has_12_3, mm_tb_1 1273 (by decide +kernel) rfl, mm_tb_1 505 (by decide +kernel) rfl⟩
abbrev zy_addNumbered_5_9 : mm_Y := (⟨"TensorForge$Line", "addNumbered", "(Ljava/lang/String;I)V"⟩, prog_5_method_9_code, 3, none)
theorem zyw_addNumbered_5_9 : mm_Yw zy_addNumbered_5_9 2 := ⟨mm_tb_1 1277 (by decide +kernel) rfl, mm_tb_1 11 (by decide +kernel) rfl, ⟨by decide, by decide⟩, by decide +kernel⟩
abbrev zy_addNumber_5_11 : mm_Y := (⟨"TensorForge$Line", "addNumber", "(I)V"⟩, prog_5_method_11_code, 3, none)
theorem zyw_addNumber_5_11 : mm_Yw zy_addNumber_5_11 1 := ⟨mm_tb_1 1281 (by decide +kernel) rfl, mm_tb_1 11 (by decide +kernel) rfl, ⟨by decide, by decide⟩, by decide +kernel⟩
theorem zg_5_6_6 : zq_at zy_addUnlessNothing_5_6.2.1 6 153 ∧ zq_at zy_addUnlessNothing_5_6.2.1 7 0 ∧ zq_at zy_addUnlessNothing_5_6.2.1 8 14 ∧ zq_at zy_addUnlessNothing_5_6.2.1 20 177 ∧ zq_at zy_addUnlessNothing_5_6.2.1 9 42 ∧ zq_at zy_addUnlessNothing_5_6.2.1 10 43 ∧ zq_at zy_addUnlessNothing_5_6.2.1 11 32 ∧ zq_at zy_addUnlessNothing_5_6.2.1 12 21 ∧ zq_at zy_addUnlessNothing_5_6.2.1 13 4 ∧ zq_at zy_addUnlessNothing_5_6.2.1 14 184 ∧ zq_at zy_addUnlessNothing_5_6.2.1 15 0 ∧ zq_at zy_addUnlessNothing_5_6.2.1 16 21 ∧ zq_at zy_addUnlessNothing_5_6.2.1 17 182 ∧ zq_at zy_addUnlessNothing_5_6.2.1 18 0 ∧ zq_at zy_addUnlessNothing_5_6.2.1 19 83 := by decide +kernel
theorem zd_5_6_6 : zz_B zy_addUnlessNothing_5_6 6 (Instr.ifCond .eq) 20 9 := ⟨14, zq_153 zg_5_6_6.1 zg_5_6_6.2.1 zg_5_6_6.2.2.1 (by decide), rfl, rfl⟩
theorem zd_5_6_20 : zz_D zy_addUnlessNothing_5_6 20 (.return_) 1 21 := ⟨zq_177 zg_5_6_6.2.2.2.1, rfl⟩
theorem zd_5_6_9 : zz_D zy_addUnlessNothing_5_6 9 (.aload_n 0) 1 10 := ⟨zq_42 zg_5_6_6.2.2.2.2.1, rfl⟩
theorem zd_5_6_10 : zz_D zy_addUnlessNothing_5_6 10 (.aload_n 1) 1 11 := ⟨zq_43 zg_5_6_6.2.2.2.2.2.1, rfl⟩
theorem zd_5_6_11 : zz_D zy_addUnlessNothing_5_6 11 (.lload_n 2) 1 12 := ⟨zq_32 zg_5_6_6.2.2.2.2.2.2.1, rfl⟩
theorem zd_5_6_12 : zz_D zy_addUnlessNothing_5_6 12 (.iload 4) 2 14 := ⟨zq_21 zg_5_6_6.2.2.2.2.2.2.2.1 zg_5_6_6.2.2.2.2.2.2.2.2.1, rfl⟩
theorem zd_5_6_14 : zz_D zy_addUnlessNothing_5_6 14 (.invokestatic 21) 3 17 := ⟨zq_184 zg_5_6_6.2.2.2.2.2.2.2.2.2.1 zg_5_6_6.2.2.2.2.2.2.2.2.2.2.1 zg_5_6_6.2.2.2.2.2.2.2.2.2.2.2.1 rfl, rfl⟩
theorem zd_5_6_17 : zz_D zy_addUnlessNothing_5_6 17 (.invokevirtual 83) 3 20 := ⟨zq_182 zg_5_6_6.2.2.2.2.2.2.2.2.2.2.2.2.1 zg_5_6_6.2.2.2.2.2.2.2.2.2.2.2.2.2.1 zg_5_6_6.2.2.2.2.2.2.2.2.2.2.2.2.2.2 rfl, rfl⟩
theorem zg_5_9_0 : zq_at zy_addNumbered_5_9.2.1 0 42 ∧ zq_at zy_addNumbered_5_9.2.1 1 43 ∧ zq_at zy_addNumbered_5_9.2.1 2 182 ∧ zq_at zy_addNumbered_5_9.2.1 3 0 ∧ zq_at zy_addNumbered_5_9.2.1 4 29 ∧ zq_at zy_addNumbered_5_9.2.1 5 42 ∧ zq_at zy_addNumbered_5_9.2.1 6 28 ∧ zq_at zy_addNumbered_5_9.2.1 7 182 ∧ zq_at zy_addNumbered_5_9.2.1 8 0 ∧ zq_at zy_addNumbered_5_9.2.1 9 108 := by decide +kernel
theorem zd_5_9_0 : zz_D zy_addNumbered_5_9 0 (.aload_n 0) 1 1 := ⟨zq_42 zg_5_9_0.1, rfl⟩
theorem zd_5_9_1 : zz_D zy_addNumbered_5_9 1 (.aload_n 1) 1 2 := ⟨zq_43 zg_5_9_0.2.1, rfl⟩
theorem zd_5_9_2 : zz_D zy_addNumbered_5_9 2 (.invokevirtual 29) 3 5 := ⟨zq_182 zg_5_9_0.2.2.1 zg_5_9_0.2.2.2.1 zg_5_9_0.2.2.2.2.1 rfl, rfl⟩
theorem zd_5_9_5 : zz_D zy_addNumbered_5_9 5 (.aload_n 0) 1 6 := ⟨zq_42 zg_5_9_0.2.2.2.2.2.1, rfl⟩
theorem zd_5_9_6 : zz_D zy_addNumbered_5_9 6 (.iload_n 2) 1 7 := ⟨zq_28 zg_5_9_0.2.2.2.2.2.2.1, rfl⟩
theorem zd_5_9_7 : zz_D zy_addNumbered_5_9 7 (.invokevirtual 108) 3 10 := ⟨zq_182 zg_5_9_0.2.2.2.2.2.2.2.1 zg_5_9_0.2.2.2.2.2.2.2.2.1 zg_5_9_0.2.2.2.2.2.2.2.2.2 rfl, rfl⟩
theorem zg_5_11_0 : zq_at zy_addNumber_5_11.2.1 0 42 ∧ zq_at zy_addNumber_5_11.2.1 1 16 ∧ zq_at zy_addNumber_5_11.2.1 2 32 ∧ zq_at zy_addNumber_5_11.2.1 3 182 ∧ zq_at zy_addNumber_5_11.2.1 4 0 ∧ zq_at zy_addNumber_5_11.2.1 5 69 ∧ zq_at zy_addNumber_5_11.2.1 6 17 ∧ zq_at zy_addNumber_5_11.2.1 7 3 ∧ zq_at zy_addNumber_5_11.2.1 8 232 ∧ zq_at zy_addNumber_5_11.2.1 9 61 ∧ zq_at zy_addNumber_5_11.2.1 10 28 ∧ zq_at zy_addNumber_5_11.2.1 11 158 ∧ zq_at zy_addNumber_5_11.2.1 12 0 ∧ zq_at zy_addNumber_5_11.2.1 13 35 ∧ zq_at zy_addNumber_5_11.2.1 14 27 ∧ zq_at zy_addNumber_5_11.2.1 15 28 ∧ zq_at zy_addNumber_5_11.2.1 16 162 ∧ zq_at zy_addNumber_5_11.2.1 17 0 ∧ zq_at zy_addNumber_5_11.2.1 18 8 ∧ zq_at zy_addNumber_5_11.2.1 24 42 ∧ zq_at zy_addNumber_5_11.2.1 25 16 ∧ zq_at zy_addNumber_5_11.2.1 26 48 ∧ zq_at zy_addNumber_5_11.2.1 27 27 ∧ zq_at zy_addNumber_5_11.2.1 28 28 := by decide +kernel
theorem zd_5_11_0 : zz_D zy_addNumber_5_11 0 (.aload_n 0) 1 1 := ⟨zq_42 zg_5_11_0.1, rfl⟩
theorem zd_5_11_1 : zz_D zy_addNumber_5_11 1 (.bipush 32) 2 3 := ⟨zq_16 zg_5_11_0.2.1 zg_5_11_0.2.2.1 (by decide), rfl⟩
theorem zd_5_11_3 : zz_D zy_addNumber_5_11 3 (.invokevirtual 69) 3 6 := ⟨zq_182 zg_5_11_0.2.2.2.1 zg_5_11_0.2.2.2.2.1 zg_5_11_0.2.2.2.2.2.1 rfl, rfl⟩
theorem zd_5_11_6 : zz_D zy_addNumber_5_11 6 (.sipush 1000) 3 9 := ⟨zq_17 zg_5_11_0.2.2.2.2.2.2.1 zg_5_11_0.2.2.2.2.2.2.2.1 zg_5_11_0.2.2.2.2.2.2.2.2.1 (by decide), rfl⟩
theorem zd_5_11_9 : zz_D zy_addNumber_5_11 9 (.istore_n 2) 1 10 := ⟨zq_61 zg_5_11_0.2.2.2.2.2.2.2.2.2.1, rfl⟩
theorem zd_5_11_10 : zz_D zy_addNumber_5_11 10 (.iload_n 2) 1 11 := ⟨zq_28 zg_5_11_0.2.2.2.2.2.2.2.2.2.2.1, rfl⟩
theorem zd_5_11_11 : zz_B zy_addNumber_5_11 11 (Instr.ifCond .le) 46 14 := ⟨35, zq_158 zg_5_11_0.2.2.2.2.2.2.2.2.2.2.2.1 zg_5_11_0.2.2.2.2.2.2.2.2.2.2.2.2.1 zg_5_11_0.2.2.2.2.2.2.2.2.2.2.2.2.2.1 (by decide), rfl, rfl⟩
theorem zd_5_11_14 : zz_D zy_addNumber_5_11 14 (.iload_n 1) 1 15 := ⟨zq_27 zg_5_11_0.2.2.2.2.2.2.2.2.2.2.2.2.2.2.1, rfl⟩
theorem zd_5_11_15 : zz_D zy_addNumber_5_11 15 (.iload_n 2) 1 16 := ⟨zq_28 zg_5_11_0.2.2.2.2.2.2.2.2.2.2.2.2.2.2.2.1, rfl⟩
theorem zd_5_11_16 : zz_B zy_addNumber_5_11 16 (Instr.if_icmp .ge) 24 19 := ⟨8, zq_162 zg_5_11_0.2.2.2.2.2.2.2.2.2.2.2.2.2.2.2.2.1 zg_5_11_0.2.2.2.2.2.2.2.2.2.2.2.2.2.2.2.2.2.1 zg_5_11_0.2.2.2.2.2.2.2.2.2.2.2.2.2.2.2.2.2.2.1 (by decide), rfl, rfl⟩
theorem zd_5_11_24 : zz_D zy_addNumber_5_11 24 (.aload_n 0) 1 25 := ⟨zq_42 zg_5_11_0.2.2.2.2.2.2.2.2.2.2.2.2.2.2.2.2.2.2.2.1, rfl⟩
theorem zd_5_11_25 : zz_D zy_addNumber_5_11 25 (.bipush 48) 2 27 := ⟨zq_16 zg_5_11_0.2.2.2.2.2.2.2.2.2.2.2.2.2.2.2.2.2.2.2.2.1 zg_5_11_0.2.2.2.2.2.2.2.2.2.2.2.2.2.2.2.2.2.2.2.2.2.1 (by decide), rfl⟩
theorem zd_5_11_27 : zz_D zy_addNumber_5_11 27 (.iload_n 1) 1 28 := ⟨zq_27 zg_5_11_0.2.2.2.2.2.2.2.2.2.2.2.2.2.2.2.2.2.2.2.2.2.2.1, rfl⟩
theorem zd_5_11_28 : zz_D zy_addNumber_5_11 28 (.iload_n 2) 1 29 := ⟨zq_28 zg_5_11_0.2.2.2.2.2.2.2.2.2.2.2.2.2.2.2.2.2.2.2.2.2.2.2, rfl⟩
theorem zg_5_11_29 : zq_at zy_addNumber_5_11.2.1 29 108 ∧ zq_at zy_addNumber_5_11.2.1 30 16 ∧ zq_at zy_addNumber_5_11.2.1 31 10 ∧ zq_at zy_addNumber_5_11.2.1 32 112 ∧ zq_at zy_addNumber_5_11.2.1 33 96 ∧ zq_at zy_addNumber_5_11.2.1 34 146 ∧ zq_at zy_addNumber_5_11.2.1 35 182 ∧ zq_at zy_addNumber_5_11.2.1 36 0 ∧ zq_at zy_addNumber_5_11.2.1 37 69 ∧ zq_at zy_addNumber_5_11.2.1 38 28 ∧ zq_at zy_addNumber_5_11.2.1 39 16 ∧ zq_at zy_addNumber_5_11.2.1 40 10 ∧ zq_at zy_addNumber_5_11.2.1 41 108 ∧ zq_at zy_addNumber_5_11.2.1 42 61 ∧ zq_at zy_addNumber_5_11.2.1 43 167 ∧ zq_at zy_addNumber_5_11.2.1 44 255 ∧ zq_at zy_addNumber_5_11.2.1 45 223 ∧ zq_at zy_addNumber_5_11.2.1 19 28 ∧ zq_at zy_addNumber_5_11.2.1 20 4 ∧ zq_at zy_addNumber_5_11.2.1 21 160 ∧ zq_at zy_addNumber_5_11.2.1 22 0 ∧ zq_at zy_addNumber_5_11.2.1 23 17 ∧ zq_at zy_addNumber_5_11.2.1 46 177 := by decide +kernel
theorem zd_5_11_29 : zz_D zy_addNumber_5_11 29 (.idiv) 1 30 := ⟨zq_108 zg_5_11_29.1, rfl⟩
theorem zd_5_11_30 : zz_D zy_addNumber_5_11 30 (.bipush 10) 2 32 := ⟨zq_16 zg_5_11_29.2.1 zg_5_11_29.2.2.1 (by decide), rfl⟩
theorem zd_5_11_32 : zz_D zy_addNumber_5_11 32 (.irem) 1 33 := ⟨zq_112 zg_5_11_29.2.2.2.1, rfl⟩
theorem zd_5_11_33 : zz_D zy_addNumber_5_11 33 (.iadd) 1 34 := ⟨zq_96 zg_5_11_29.2.2.2.2.1, rfl⟩
theorem zd_5_11_34 : zz_D zy_addNumber_5_11 34 (.i2c) 1 35 := ⟨zq_146 zg_5_11_29.2.2.2.2.2.1, rfl⟩
theorem zd_5_11_35 : zz_D zy_addNumber_5_11 35 (.invokevirtual 69) 3 38 := ⟨zq_182 zg_5_11_29.2.2.2.2.2.2.1 zg_5_11_29.2.2.2.2.2.2.2.1 zg_5_11_29.2.2.2.2.2.2.2.2.1 rfl, rfl⟩
theorem zd_5_11_38 : zz_D zy_addNumber_5_11 38 (.iload_n 2) 1 39 := ⟨zq_28 zg_5_11_29.2.2.2.2.2.2.2.2.2.1, rfl⟩
theorem zd_5_11_39 : zz_D zy_addNumber_5_11 39 (.bipush 10) 2 41 := ⟨zq_16 zg_5_11_29.2.2.2.2.2.2.2.2.2.2.1 zg_5_11_29.2.2.2.2.2.2.2.2.2.2.2.1 (by decide), rfl⟩
theorem zd_5_11_41 : zz_D zy_addNumber_5_11 41 (.idiv) 1 42 := ⟨zq_108 zg_5_11_29.2.2.2.2.2.2.2.2.2.2.2.2.1, rfl⟩
theorem zd_5_11_42 : zz_D zy_addNumber_5_11 42 (.istore_n 2) 1 43 := ⟨zq_61 zg_5_11_29.2.2.2.2.2.2.2.2.2.2.2.2.2.1, rfl⟩
theorem zd_5_11_43 : zz_B zy_addNumber_5_11 43 Instr.goto 10 46 := ⟨(-33), zq_167 zg_5_11_29.2.2.2.2.2.2.2.2.2.2.2.2.2.2.1 zg_5_11_29.2.2.2.2.2.2.2.2.2.2.2.2.2.2.2.1 zg_5_11_29.2.2.2.2.2.2.2.2.2.2.2.2.2.2.2.2.1 (by decide), rfl, rfl⟩
theorem zd_5_11_19 : zz_D zy_addNumber_5_11 19 (.iload_n 2) 1 20 := ⟨zq_28 zg_5_11_29.2.2.2.2.2.2.2.2.2.2.2.2.2.2.2.2.2.1, rfl⟩
theorem zd_5_11_20 : zz_D zy_addNumber_5_11 20 (.iconst 1) 1 21 := ⟨zq_4 zg_5_11_29.2.2.2.2.2.2.2.2.2.2.2.2.2.2.2.2.2.2.1, rfl⟩
theorem zd_5_11_21 : zz_B zy_addNumber_5_11 21 (Instr.if_icmp .ne) 38 24 := ⟨17, zq_160 zg_5_11_29.2.2.2.2.2.2.2.2.2.2.2.2.2.2.2.2.2.2.2.1 zg_5_11_29.2.2.2.2.2.2.2.2.2.2.2.2.2.2.2.2.2.2.2.2.1 zg_5_11_29.2.2.2.2.2.2.2.2.2.2.2.2.2.2.2.2.2.2.2.2.2.1 (by decide), rfl, rfl⟩
theorem zd_5_11_46 : zz_D zy_addNumber_5_11 46 (.return_) 1 47 := ⟨zq_177 zg_5_11_29.2.2.2.2.2.2.2.2.2.2.2.2.2.2.2.2.2.2.2.2.2.2, rfl⟩
-- TensorForge$Line addNumber (I)V
abbrev zr_addNumber_5_11 : Room := { frames := 1, cells := 0, slots := 0, locals := 13 }
def zp_addNumber_5_11 (p0 : Int) (S0 : zz_S) : zz_S → Prop := fun S => zz_G S ∧ zz_fr [(1077, 1)] [1078] (fun _ _ => False) S0 S ∧ (∀ (u : List Int) (m : Nat), zs_L (S0 1077 1) (S0 1078) u m → m ≤ 120 → 0 ≤ p0 → zs_L (S 1077 1) (S 1078) (zs_num u p0) (m + 5))
theorem zb_addNumber_5_11_10 {g : mm_G} {l : Launch} (p0 : Int) (S0 : zz_S) (n : Nat) (hn : zz_end ≤ n) (G_S0 : zz_G S0) (hp0 : (-2147483648) ≤ p0 ∧ p0 ≤ 2147483647) (x2 : Int) (S : zz_S) (G_S : zz_G S) (F_S : zz_fr [(1077, 1)] [1078] (fun _ _ => False) S0 S) (i10_0 : 0 ≤ x2 ∧ x2 ≤ 1000) (i10_1 : x2 = 1000 ∨ x2 = 100 ∨ x2 = 10 ∨ x2 = 1 ∨ x2 = 0) (i10_2 : ∀ (u : List Int), zs_P (S0 1077 1) (S0 1078) u → u.length ≤ 120 → 0 ≤ p0 → zs_P (S 1077 1) (S 1078) ((u ++ [32]) ++ zs_nup p0 x2)) (R : Nat) (hR : x2.toNat = R) (k10 : ∀ (x2 : Int) (S : zz_S), zz_G S → zz_fr [(1077, 1)] [1078] (fun _ _ => False) S0 S → (0 ≤ x2 ∧ x2 ≤ 1000) → (x2 = 1000 ∨ x2 = 100 ∨ x2 = 10 ∨ x2 = 1 ∨ x2 = 0) → (∀ (u : List Int), zs_P (S0 1077 1) (S0 1078) u → u.length ≤ 120 → 0 ≤ p0 → zs_P (S 1077 1) (S 1078) ((u ++ [32]) ++ zs_nup p0 x2)) → x2.toNat < R → zz_E g l zy_addNumber_5_11 zr_addNumber_5_11 (zz_QV n (zp_addNumber_5_11 p0 S0)) S n 10 [some (.ref 1077), some (zi p0), some (zi x2)] [] 0 0) : zz_E g l zy_addNumber_5_11 zr_addNumber_5_11 (zz_QV n (zp_addNumber_5_11 p0 S0)) S n 10 [some (.ref 1077), some (zi p0), some (zi x2)] [] 0 0 := by
  refine zz_iload_n (x := x2) rfl zd_5_11_10 ?_
  refine zz_if_le (by omega) zd_5_11_11 (fun c6 => ?_) (fun c6 => ?_)
  · have g7 := zz_G.r G_S 1077 1 0 128 rfl rfl
    exact zz_vret zd_5_11_46 rfl (Nat.zero_le _) (Nat.zero_le _) ⟨_, rfl, G_S, F_S, (fun u m h hm hp => by have o9 := i10_2 u h.1 (Nat.le_trans h.2 hm) hp; rw [(show x2 = 0 by omega)] at o9; exact zs_Ln o9 h.2)⟩
  · refine zz_iload_n (x := p0) rfl zd_5_11_14 ?_
    refine zz_iload_n (x := x2) rfl zd_5_11_15 ?_
    refine zz_icmp_ge (by omega) (by omega) zd_5_11_16 (fun c8 => ?_) (fun c8 => ?_)
    · refine zz_aload_n (x := 1077) rfl zd_5_11_24 ?_
      refine zz_bipush (by decide) zd_5_11_25 ?_
      refine zz_iload_n (x := p0) rfl zd_5_11_27 ?_
      refine zz_iload_n (x := x2) rfl zd_5_11_28 ?_
      refine zz_idiv (by omega) (by omega) zd_5_11_29 (fun v9 hv9 av9 bv9 cv9 => ?_)
      have m10 := zz_divb (by omega) (by omega) av9
      skip
      refine zz_bipush (by decide) zd_5_11_30 ?_
      refine zz_irem (by omega) (by omega) zd_5_11_32 (fun v11 hv11 av11 bv11 cv11 => ?_)
      refine zz_iadd zd_5_11_33 ?_
      refine zz_i2c (by omega) zd_5_11_34 ?_
      have g12 := zz_G.r G_S 1077 1 0 128 rfl rfl
      refine zz_callVV [zi (48 + v11)] zd_5_11_35 zk_Line_69 zT_1077 (zz_ltn hn rfl) rfl rfl ⟨Nat.le_of_ble_eq_true rfl, Nat.le_of_ble_eq_true rfl⟩ ⟨rfl, rfl⟩ (Nat.zero_le _) (Nat.zero_le _) (zc_addSign_5_12 (48 + v11) S n hn G_S (by omega)) (fun S13 hP => ?_)
      obtain ⟨G_S13, fS13, o15⟩ := hP
      have F_S13 := zz_fr.trans F_S fS13 rfl zz_nv
      refine zz_iload_n (x := x2) rfl zd_5_11_38 ?_
      refine zz_bipush (by decide) zd_5_11_39 ?_
      refine zz_idiv (by omega) (by omega) zd_5_11_41 (fun v16 hv16 av16 bv16 cv16 => ?_)
      refine zz_istore_n [some (.ref 1077), some (zi p0), some (zi v16)] zd_5_11_42 (by decide) rfl ?_
      refine zz_goto zd_5_11_43 ?_
      have g17 := zz_G.r G_S13 1077 1 0 128 rfl rfl
      refine zz_less (ls1 := [some (.ref 1077), some (zi p0), some (zi v16)]) ⟨rfl, ⟨rfl, ⟨rfl, trivial⟩⟩⟩ ?_
      exact k10 v16 S13 G_S13 F_S13 (by omega) (zs_u10 (zs_u4 i10_1 (by omega)) av16) (fun u h hl hp => by have o9 := o15 _ (i10_2 u h hl hp) (by rw [List.length_append, List.length_append, List.length_singleton]; have := zs_nupl p0 x2; omega); rw [show 48 + v11 = zs_d p0 x2 from zs_dg hp (zs_u4 i10_1 (by omega)) av9 av11 rfl, List.append_assoc, zs_nupY (zs_u4 i10_1 (by omega)) (by omega) (zs_u1 (zs_u4 i10_1 (by omega)) av16)] at o9; exact o9) (by omega)
    · refine zz_iload_n (x := x2) rfl zd_5_11_19 ?_
      refine zz_iconst zd_5_11_20 ?_
      refine zz_icmp_ne (by omega) (by omega) zd_5_11_21 (fun c18 => ?_) (fun c18 => ?_)
      · refine zz_iload_n (x := x2) rfl zd_5_11_38 ?_
        refine zz_bipush (by decide) zd_5_11_39 ?_
        refine zz_idiv (by omega) (by omega) zd_5_11_41 (fun v19 hv19 av19 bv19 cv19 => ?_)
        refine zz_istore_n [some (.ref 1077), some (zi p0), some (zi v19)] zd_5_11_42 (by decide) rfl ?_
        refine zz_goto zd_5_11_43 ?_
        have g20 := zz_G.r G_S 1077 1 0 128 rfl rfl
        refine zz_less (ls1 := [some (.ref 1077), some (zi p0), some (zi v19)]) ⟨rfl, ⟨rfl, ⟨rfl, trivial⟩⟩⟩ ?_
        exact k10 v19 S G_S F_S (by omega) (zs_u10 (zs_u4 i10_1 (by omega)) av19) (fun u h hl hp => by rw [← zs_nupN (zs_u4 i10_1 (by omega)) (by omega) (by omega) (zs_u1 (zs_u4 i10_1 (by omega)) av19)]; exact i10_2 u h hl hp) (by omega)
      · refine zz_aload_n (x := 1077) rfl zd_5_11_24 ?_
        refine zz_bipush (by decide) zd_5_11_25 ?_
        refine zz_iload_n (x := p0) rfl zd_5_11_27 ?_
        refine zz_iload_n (x := x2) rfl zd_5_11_28 ?_
        refine zz_idiv (by omega) (by omega) zd_5_11_29 (fun v21 hv21 av21 bv21 cv21 => ?_)
        skip
        refine zz_bipush (by decide) zd_5_11_30 ?_
        refine zz_irem (by omega) (by omega) zd_5_11_32 (fun v22 hv22 av22 bv22 cv22 => ?_)
        refine zz_iadd zd_5_11_33 ?_
        refine zz_i2c (by omega) zd_5_11_34 ?_
        have g23 := zz_G.r G_S 1077 1 0 128 rfl rfl
        refine zz_callVV [zi (48 + v22)] zd_5_11_35 zk_Line_69 zT_1077 (zz_ltn hn rfl) rfl rfl ⟨Nat.le_of_ble_eq_true rfl, Nat.le_of_ble_eq_true rfl⟩ ⟨rfl, rfl⟩ (Nat.zero_le _) (Nat.zero_le _) (zc_addSign_5_12 (48 + v22) S n hn G_S (by omega)) (fun S24 hP => ?_)
        obtain ⟨G_S24, fS24, o26⟩ := hP
        have F_S24 := zz_fr.trans F_S fS24 rfl zz_nv
        refine zz_iload_n (x := x2) rfl zd_5_11_38 ?_
        refine zz_bipush (by decide) zd_5_11_39 ?_
        refine zz_idiv (by omega) (by omega) zd_5_11_41 (fun v27 hv27 av27 bv27 cv27 => ?_)
        refine zz_istore_n [some (.ref 1077), some (zi p0), some (zi v27)] zd_5_11_42 (by decide) rfl ?_
        refine zz_goto zd_5_11_43 ?_
        have g28 := zz_G.r G_S24 1077 1 0 128 rfl rfl
        refine zz_less (ls1 := [some (.ref 1077), some (zi p0), some (zi v27)]) ⟨rfl, ⟨rfl, ⟨rfl, trivial⟩⟩⟩ ?_
        exact k10 v27 S24 G_S24 F_S24 (by omega) (zs_u10 (zs_u4 i10_1 (by omega)) av27) (fun u h hl hp => by have o9 := o26 _ (i10_2 u h hl hp) (by rw [List.length_append, List.length_append, List.length_singleton]; have := zs_nupl p0 x2; omega); rw [show 48 + v22 = zs_d p0 x2 from zs_dg hp (zs_u4 i10_1 (by omega)) av21 av22 rfl, List.append_assoc, zs_nupY (zs_u4 i10_1 (by omega)) (by omega) (zs_u1 (zs_u4 i10_1 (by omega)) av27)] at o9; exact o9) (by omega)
theorem zi_addNumber_5_11 {g : mm_G} {l : Launch} (p0 : Int) (S0 : zz_S) (n : Nat) (hn : zz_end ≤ n) (G_S0 : zz_G S0) (hp0 : (-2147483648) ≤ p0 ∧ p0 ≤ 2147483647) : ∀ N : Nat, (∀ (x2 : Int) (S : zz_S), zz_G S → zz_fr [(1077, 1)] [1078] (fun _ _ => False) S0 S → (0 ≤ x2 ∧ x2 ≤ 1000) → (x2 = 1000 ∨ x2 = 100 ∨ x2 = 10 ∨ x2 = 1 ∨ x2 = 0) → (∀ (u : List Int), zs_P (S0 1077 1) (S0 1078) u → u.length ≤ 120 → 0 ≤ p0 → zs_P (S 1077 1) (S 1078) ((u ++ [32]) ++ zs_nup p0 x2)) → x2.toNat < N → zz_E g l zy_addNumber_5_11 zr_addNumber_5_11 (zz_QV n (zp_addNumber_5_11 p0 S0)) S n 10 [some (.ref 1077), some (zi p0), some (zi x2)] [] 0 0) := by
  intro N
  induction N with
  | zero => exact fun x2 S _ _ _ _ _ h => absurd h (Nat.not_lt_zero _)
  | succ N ih =>
    exact fun x2 S a b j0 j1 j2 hR => zb_addNumber_5_11_10 p0 S0 n hn G_S0 hp0 x2 S a b j0 j1 j2 _ rfl (fun x2 S a b j0 j1 j2 h => ih x2 S a b j0 j1 j2 (Nat.lt_of_lt_of_le h (Nat.le_of_lt_succ hR)))
theorem zc_addNumber_5_11 {g : mm_G} {l : Launch} (p0 : Int) (S0 : zz_S) (n : Nat) (hn : zz_end ≤ n) (G_S0 : zz_G S0) (hp0 : (-2147483648) ≤ p0 ∧ p0 ≤ 2147483647) : mm_Met g l zy_addNumber_5_11 zr_addNumber_5_11 [.ref 1077, zi p0] (zz_M S0 n) n (zz_QV n (zp_addNumber_5_11 p0 S0)) := by
  refine zz_enter (by decide) (Nat.le_of_ble_eq_true rfl) (zz_less (ls1 := [some (.ref 1077), some (zi p0)]) ⟨rfl, ⟨rfl, trivial⟩⟩ ?_)
  have F_S0 : zz_fr [(1077, 1)] [1078] (fun _ _ => False) S0 S0 := zz_fr.refl
  have k10 : ∀ (x2 : Int) (S : zz_S), zz_G S → zz_fr [(1077, 1)] [1078] (fun _ _ => False) S0 S → (0 ≤ x2 ∧ x2 ≤ 1000) → (x2 = 1000 ∨ x2 = 100 ∨ x2 = 10 ∨ x2 = 1 ∨ x2 = 0) → (∀ (u : List Int), zs_P (S0 1077 1) (S0 1078) u → u.length ≤ 120 → 0 ≤ p0 → zs_P (S 1077 1) (S 1078) ((u ++ [32]) ++ zs_nup p0 x2)) → zz_E g l zy_addNumber_5_11 zr_addNumber_5_11 (zz_QV n (zp_addNumber_5_11 p0 S0)) S n 10 [some (.ref 1077), some (zi p0), some (zi x2)] [] 0 0 := fun x2 S a b j0 j1 j2 => (zi_addNumber_5_11 (g := g) (l := l) p0 S0 n hn G_S0 hp0 _) x2 S a b j0 j1 j2 (Nat.lt_succ_self _)
  refine zz_aload_n (x := 1077) rfl zd_5_11_0 ?_
  refine zz_bipush (by decide) zd_5_11_1 ?_
  have g1 := zz_G.r G_S0 1077 1 0 128 rfl rfl
  refine zz_callVV [zi 32] zd_5_11_3 zk_Line_69 zT_1077 (zz_ltn hn rfl) rfl rfl ⟨Nat.le_of_ble_eq_true rfl, Nat.le_of_ble_eq_true rfl⟩ ⟨rfl, rfl⟩ (Nat.zero_le _) (Nat.zero_le _) (zc_addSign_5_12 32 S0 n hn G_S0 (by omega)) (fun S2 hP => ?_)
  obtain ⟨G_S2, fS2, o4⟩ := hP
  have F_S2 := zz_fr.trans F_S0 fS2 rfl zz_nv
  refine zz_sipush (by decide) zd_5_11_6 ?_
  refine zz_istore_n [some (.ref 1077), some (zi p0), some (zi 1000)] zd_5_11_9 (by decide) rfl ?_
  have g5 := zz_G.r G_S2 1077 1 0 128 rfl rfl
  refine zz_less (ls1 := [some (.ref 1077), some (zi p0), some (zi 1000)]) ⟨rfl, ⟨rfl, ⟨rfl, trivial⟩⟩⟩ ?_
  exact k10 1000 S2 G_S2 F_S2 (by omega) (Or.inl rfl) (fun u h hl hp => by rw [zs_nup0, List.append_nil]; exact o4 u h (by omega))
theorem zk_Line_108 : mm_Vl "TensorForge$Line" 108 10 1 zy_addNumber_5_11 := ⟨zyw_addNumber_5_11, (R_Line, F_Line, 2), rfl, mm_tb_1 1278 (by decide +kernel) rfl, mm_tb_1 1280 (by decide +kernel) rfl, mm_tb_s 58 (by decide +kernel) rfl⟩
theorem zg_5_9_10 : zq_at zy_addNumbered_5_9.2.1 10 177 := by decide +kernel
theorem zd_5_9_10 : zz_D zy_addNumbered_5_9 10 (.return_) 1 11 := ⟨zq_177 zg_5_9_10, rfl⟩
-- TensorForge$Line addNumbered (Ljava/lang/String;I)V
abbrev zr_addNumbered_5_9 : Room := { frames := 5, cells := 0, slots := 0, locals := 68 }
def zp_addNumbered_5_9 (p0 : Nat) (p1 : Int) (S0 : zz_S) : zz_S → Prop := fun S => zz_G S ∧ zz_fr [(1077, 1)] [1078] (fun _ _ => False) S0 S ∧ (∀ (u : List Int) (m : Nat), zs_L (S0 1077 1) (S0 1078) u m → m ≤ 70 → 0 ≤ p1 → zs_L (S 1077 1) (S 1078) (zs_nd u (zt_tw p0) p1) (m + (zt_tw p0).length + 6))
theorem zc_addNumbered_5_9 {g : mm_G} {l : Launch} (p0 : Nat) (p1 : Int) (S0 : zz_S) (n : Nat) (hn : zz_end ≤ n) (G_S0 : zz_G S0) (hp0 : p0 < 59) (hp1 : (-2147483648) ≤ p1 ∧ p1 ≤ 2147483647) : mm_Met g l zy_addNumbered_5_9 zr_addNumbered_5_9 [.ref 1077, .ref (100 + p0), zi p1] (zz_M S0 n) n (zz_QV n (zp_addNumbered_5_9 p0 p1 S0)) := by
  refine zz_enter (by decide) (Nat.le_of_ble_eq_true rfl) (zz_less (ls1 := [some (.ref 1077), some (.ref (100 + p0)), some (zi p1)]) ⟨rfl, ⟨rfl, ⟨rfl, trivial⟩⟩⟩ ?_)
  have F_S0 : zz_fr [(1077, 1)] [1078] (fun _ _ => False) S0 S0 := zz_fr.refl
  refine zz_aload_n (x := 1077) rfl zd_5_9_0 ?_
  refine zz_aload_n (x := 100 + p0) rfl zd_5_9_1 ?_
  have g1 := zz_G.r G_S0 1077 1 0 128 rfl rfl
  refine zz_callVV [.ref (100 + p0)] zd_5_9_2 zk_Line_29 zT_1077 (zz_ltn hn rfl) rfl rfl ⟨Nat.le_of_ble_eq_true rfl, Nat.le_of_ble_eq_true rfl⟩ ⟨rfl, rfl⟩ (Nat.zero_le _) (Nat.zero_le _) (zc_addToken_5_10 p0 S0 n hn G_S0 (by omega)) (fun S2 hP => ?_)
  obtain ⟨G_S2, fS2, o4⟩ := hP
  have F_S2 := zz_fr.trans F_S0 fS2 rfl zz_nv
  refine zz_aload_n (x := 1077) rfl zd_5_9_5 ?_
  refine zz_iload_n (x := p1) rfl zd_5_9_6 ?_
  have g5 := zz_G.r G_S2 1077 1 0 128 rfl rfl
  refine zz_callVV [zi p1] zd_5_9_7 zk_Line_108 zT_1077 (zz_ltn hn rfl) rfl rfl ⟨Nat.le_of_ble_eq_true rfl, Nat.le_of_ble_eq_true rfl⟩ ⟨rfl, rfl⟩ (Nat.zero_le _) (Nat.zero_le _) (zc_addNumber_5_11 p1 S2 n hn G_S2 (by omega)) (fun S6 hP => ?_)
  obtain ⟨G_S6, fS6, o8⟩ := hP
  have F_S6 := zz_fr.trans F_S2 fS6 rfl zz_nv
  have g9 := zz_G.r G_S6 1077 1 0 128 rfl rfl
  exact zz_vret zd_5_9_10 rfl (Nat.zero_le _) (Nat.zero_le _) ⟨_, rfl, G_S6, F_S6, (fun u m h hm hp => by have w9 := zt_twl p0 (by omega); have w8 := zs_m38 p0 (by omega); exact zs_Lm (o8 _ _ (o4 u m h (by omega)) (by omega) hp) (by omega))⟩
theorem zk_Line_83 : mm_Vl "TensorForge$Line" 83 10 2 zy_addNumbered_5_9 := ⟨zyw_addNumbered_5_9, (R_Line, F_Line, 2), rfl, mm_tb_1 1274 (by decide +kernel) rfl, mm_tb_1 1276 (by decide +kernel) rfl, mm_tb_s 57 (by decide +kernel) rfl⟩
-- TensorForge$Line addUnlessNothing (Ljava/lang/String;JI)V
abbrev zr_addUnlessNothing_5_6 : Room := { frames := 6, cells := 0, slots := 0, locals := 82 }
def zp_addUnlessNothing_5_6 (p0 : Nat) (p1 : Int) (p2 : Int) (S0 : zz_S) : zz_S → Prop := fun S => zz_G S ∧ zz_fr [(1077, 1)] [1078] (fun _ _ => False) S0 S
theorem zc_addUnlessNothing_5_6 {g : mm_G} {l : Launch} (p0 : Nat) (p1 : Int) (p2 : Int) (S0 : zz_S) (n : Nat) (hn : zz_end ≤ n) (G_S0 : zz_G S0) (hp0 : p0 < 59) (hp1 : (-9223372036854775808) ≤ p1 ∧ p1 ≤ 9223372036854775807) (hp2 : (-2147483648) ≤ p2 ∧ p2 ≤ 2147483647) : mm_Met g l zy_addUnlessNothing_5_6 zr_addUnlessNothing_5_6 [.ref 1077, .ref (100 + p0), zl p1, zi p2] (zz_M S0 n) n (zz_QV n (zp_addUnlessNothing_5_6 p0 p1 p2 S0)) := by
  refine zz_enter (by decide) (Nat.le_of_ble_eq_true rfl) (zz_less (ls1 := [some (.ref 1077), some (.ref (100 + p0)), some (zl p1), none, some (zi p2)]) ⟨rfl, ⟨rfl, ⟨rfl, ⟨rfl, trivial⟩⟩⟩⟩ ?_)
  have F_S0 : zz_fr [(1077, 1)] [1078] (fun _ _ => False) S0 S0 := zz_fr.refl
  refine zz_lload_n (x := p1) rfl zd_5_6_0 ?_
  refine zz_iload (x := p2) rfl zd_5_6_1 ?_
  refine zz_callSI [zl p1, zi p2] zd_5_6_3 zk_Line_39 rfl rfl ⟨Nat.le_of_ble_eq_true rfl, Nat.le_of_ble_eq_true rfl⟩ ⟨rfl, rfl⟩ (Nat.zero_le _) (Nat.zero_le _) (zc_has_12_3 p1 p2 S0 n hn G_S0 (by omega) (by omega)) (fun v2 S1 hP => ?_)
  obtain ⟨rfl, o3⟩ := hP
  rcases (by omega : v2 = 0 ∨ v2 = 1) with rfl | rfl
  · refine zz_if_eq (by omega) zd_5_6_6 (fun c4 => ?_) (fun c4 => ?_)
    · exact zz_vret zd_5_6_20 rfl (Nat.zero_le _) (Nat.zero_le _) ⟨_, rfl, G_S0, F_S0⟩
    · exfalso; omega
  · refine zz_if_eq (by omega) zd_5_6_6 (fun c5 => ?_) (fun c5 => ?_)
    · exfalso; omega
    · refine zz_aload_n (x := 1077) rfl zd_5_6_9 ?_
      refine zz_aload_n (x := 100 + p0) rfl zd_5_6_10 ?_
      refine zz_lload_n (x := p1) rfl zd_5_6_11 ?_
      refine zz_iload (x := p2) rfl zd_5_6_12 ?_
      refine zz_callSI [zl p1, zi p2] zd_5_6_14 zk_Line_21 rfl rfl ⟨Nat.le_of_ble_eq_true rfl, Nat.le_of_ble_eq_true rfl⟩ ⟨rfl, rfl⟩ (Nat.zero_le _) (Nat.zero_le _) (zc_get_12_2 p1 p2 S0 n hn G_S0 (by omega) (by omega)) (fun v7 S6 hP => ?_)
      obtain ⟨rfl, o8⟩ := hP
      have g9 := zz_G.r G_S0 1077 1 0 128 rfl rfl
      refine zz_callVV [.ref (100 + p0), zi v7] zd_5_6_17 zk_Line_83 zT_1077 (zz_ltn hn rfl) rfl rfl ⟨Nat.le_of_ble_eq_true rfl, Nat.le_of_ble_eq_true rfl⟩ ⟨rfl, rfl⟩ (Nat.zero_le _) (Nat.zero_le _) (zc_addNumbered_5_9 p0 v7 S0 n hn G_S0 (by omega) (by omega)) (fun S10 hP => ?_)
      obtain ⟨G_S10, fS10, o12⟩ := hP
      have F_S10 := zz_fr.trans F_S0 fS10 rfl zz_nv
      exact zz_vret zd_5_6_20 rfl (Nat.zero_le _) (Nat.zero_le _) ⟨_, rfl, G_S10, F_S10⟩
theorem zk_Line_35 : mm_Vl "TensorForge$Line" 35 10 3 zy_addUnlessNothing_5_6 := ⟨zyw_addUnlessNothing_5_6, (R_Line, F_Line, 2), rfl, mm_tb_1 1269 (by decide +kernel) rfl, mm_tb_1 1271 (by decide +kernel) rfl, mm_tb_s 56 (by decide +kernel) rfl⟩
abbrev zy_addIf_5_7 : mm_Y := (⟨"TensorForge$Line", "addIf", "(ZLjava/lang/String;)V"⟩, prog_5_method_7_code, 3, none)
theorem zyw_addIf_5_7 : mm_Yw zy_addIf_5_7 2 := ⟨mm_tb_1 1296 (by decide +kernel) rfl, mm_tb_1 11 (by decide +kernel) rfl, ⟨by decide, by decide⟩, by decide +kernel⟩
theorem zg_5_3_25 : zq_at zy_writeInstruction_5_3.2.1 25 31 ∧ zq_at zy_writeInstruction_5_3.2.1 26 16 ∧ zq_at zy_writeInstruction_5_3.2.1 27 6 ∧ zq_at zy_writeInstruction_5_3.2.1 28 184 ∧ zq_at zy_writeInstruction_5_3.2.1 29 0 ∧ zq_at zy_writeInstruction_5_3.2.1 30 39 ∧ zq_at zy_writeInstruction_5_3.2.1 31 154 ∧ zq_at zy_writeInstruction_5_3.2.1 32 0 ∧ zq_at zy_writeInstruction_5_3.2.1 33 12 ∧ zq_at zy_writeInstruction_5_3.2.1 34 31 ∧ zq_at zy_writeInstruction_5_3.2.1 35 16 ∧ zq_at zy_writeInstruction_5_3.2.1 36 7 ∧ zq_at zy_writeInstruction_5_3.2.1 37 184 ∧ zq_at zy_writeInstruction_5_3.2.1 38 0 ∧ zq_at zy_writeInstruction_5_3.2.1 39 39 ∧ zq_at zy_writeInstruction_5_3.2.1 40 153 ∧ zq_at zy_writeInstruction_5_3.2.1 41 0 ∧ zq_at zy_writeInstruction_5_3.2.1 42 21 ∧ zq_at zy_writeInstruction_5_3.2.1 61 42 ∧ zq_at zy_writeInstruction_5_3.2.1 62 18 ∧ zq_at zy_writeInstruction_5_3.2.1 63 49 ∧ zq_at zy_writeInstruction_5_3.2.1 64 31 ∧ zq_at zy_writeInstruction_5_3.2.1 65 16 ∧ zq_at zy_writeInstruction_5_3.2.1 66 8 := by decide +kernel
theorem zd_5_3_25 : zz_D zy_writeInstruction_5_3 25 (.lload_n 1) 1 26 := ⟨zq_31 zg_5_3_25.1, rfl⟩
theorem zd_5_3_26 : zz_D zy_writeInstruction_5_3 26 (.bipush 6) 2 28 := ⟨zq_16 zg_5_3_25.2.1 zg_5_3_25.2.2.1 (by decide), rfl⟩
theorem zd_5_3_28 : zz_D zy_writeInstruction_5_3 28 (.invokestatic 39) 3 31 := ⟨zq_184 zg_5_3_25.2.2.2.1 zg_5_3_25.2.2.2.2.1 zg_5_3_25.2.2.2.2.2.1 rfl, rfl⟩
theorem zd_5_3_31 : zz_B zy_writeInstruction_5_3 31 (Instr.ifCond .ne) 43 34 := ⟨12, zq_154 zg_5_3_25.2.2.2.2.2.2.1 zg_5_3_25.2.2.2.2.2.2.2.1 zg_5_3_25.2.2.2.2.2.2.2.2.1 (by decide), rfl, rfl⟩
theorem zd_5_3_34 : zz_D zy_writeInstruction_5_3 34 (.lload_n 1) 1 35 := ⟨zq_31 zg_5_3_25.2.2.2.2.2.2.2.2.2.1, rfl⟩
theorem zd_5_3_35 : zz_D zy_writeInstruction_5_3 35 (.bipush 7) 2 37 := ⟨zq_16 zg_5_3_25.2.2.2.2.2.2.2.2.2.2.1 zg_5_3_25.2.2.2.2.2.2.2.2.2.2.2.1 (by decide), rfl⟩
theorem zd_5_3_37 : zz_D zy_writeInstruction_5_3 37 (.invokestatic 39) 3 40 := ⟨zq_184 zg_5_3_25.2.2.2.2.2.2.2.2.2.2.2.2.1 zg_5_3_25.2.2.2.2.2.2.2.2.2.2.2.2.2.1 zg_5_3_25.2.2.2.2.2.2.2.2.2.2.2.2.2.2.1 rfl, rfl⟩
theorem zd_5_3_40 : zz_B zy_writeInstruction_5_3 40 (Instr.ifCond .eq) 61 43 := ⟨21, zq_153 zg_5_3_25.2.2.2.2.2.2.2.2.2.2.2.2.2.2.2.1 zg_5_3_25.2.2.2.2.2.2.2.2.2.2.2.2.2.2.2.2.1 zg_5_3_25.2.2.2.2.2.2.2.2.2.2.2.2.2.2.2.2.2.1 (by decide), rfl, rfl⟩
theorem zd_5_3_61 : zz_D zy_writeInstruction_5_3 61 (.aload_n 0) 1 62 := ⟨zq_42 zg_5_3_25.2.2.2.2.2.2.2.2.2.2.2.2.2.2.2.2.2.2.1, rfl⟩
theorem zd_5_3_62 : zz_D zy_writeInstruction_5_3 62 (.ldc 49) 2 64 := ⟨zq_18 zg_5_3_25.2.2.2.2.2.2.2.2.2.2.2.2.2.2.2.2.2.2.2.1 zg_5_3_25.2.2.2.2.2.2.2.2.2.2.2.2.2.2.2.2.2.2.2.2.1, rfl⟩
theorem zd_5_3_64 : zz_D zy_writeInstruction_5_3 64 (.lload_n 1) 1 65 := ⟨zq_31 zg_5_3_25.2.2.2.2.2.2.2.2.2.2.2.2.2.2.2.2.2.2.2.2.2.1, rfl⟩
theorem zd_5_3_65 : zz_D zy_writeInstruction_5_3 65 (.bipush 8) 2 67 := ⟨zq_16 zg_5_3_25.2.2.2.2.2.2.2.2.2.2.2.2.2.2.2.2.2.2.2.2.2.2.1 zg_5_3_25.2.2.2.2.2.2.2.2.2.2.2.2.2.2.2.2.2.2.2.2.2.2.2 (by decide), rfl⟩
theorem zg_5_3_67 : zq_at zy_writeInstruction_5_3.2.1 67 182 ∧ zq_at zy_writeInstruction_5_3.2.1 68 0 ∧ zq_at zy_writeInstruction_5_3.2.1 69 35 ∧ zq_at zy_writeInstruction_5_3.2.1 70 42 ∧ zq_at zy_writeInstruction_5_3.2.1 71 18 ∧ zq_at zy_writeInstruction_5_3.2.1 72 51 ∧ zq_at zy_writeInstruction_5_3.2.1 73 31 ∧ zq_at zy_writeInstruction_5_3.2.1 74 16 ∧ zq_at zy_writeInstruction_5_3.2.1 75 9 ∧ zq_at zy_writeInstruction_5_3.2.1 76 182 ∧ zq_at zy_writeInstruction_5_3.2.1 77 0 ∧ zq_at zy_writeInstruction_5_3.2.1 78 35 ∧ zq_at zy_writeInstruction_5_3.2.1 79 42 ∧ zq_at zy_writeInstruction_5_3.2.1 80 18 ∧ zq_at zy_writeInstruction_5_3.2.1 81 53 ∧ zq_at zy_writeInstruction_5_3.2.1 82 31 ∧ zq_at zy_writeInstruction_5_3.2.1 83 16 ∧ zq_at zy_writeInstruction_5_3.2.1 84 10 ∧ zq_at zy_writeInstruction_5_3.2.1 85 182 ∧ zq_at zy_writeInstruction_5_3.2.1 86 0 ∧ zq_at zy_writeInstruction_5_3.2.1 87 35 ∧ zq_at zy_writeInstruction_5_3.2.1 88 42 ∧ zq_at zy_writeInstruction_5_3.2.1 89 18 ∧ zq_at zy_writeInstruction_5_3.2.1 90 55 := by decide +kernel
theorem zd_5_3_67 : zz_D zy_writeInstruction_5_3 67 (.invokevirtual 35) 3 70 := ⟨zq_182 zg_5_3_67.1 zg_5_3_67.2.1 zg_5_3_67.2.2.1 rfl, rfl⟩
theorem zd_5_3_70 : zz_D zy_writeInstruction_5_3 70 (.aload_n 0) 1 71 := ⟨zq_42 zg_5_3_67.2.2.2.1, rfl⟩
theorem zd_5_3_71 : zz_D zy_writeInstruction_5_3 71 (.ldc 51) 2 73 := ⟨zq_18 zg_5_3_67.2.2.2.2.1 zg_5_3_67.2.2.2.2.2.1, rfl⟩
theorem zd_5_3_73 : zz_D zy_writeInstruction_5_3 73 (.lload_n 1) 1 74 := ⟨zq_31 zg_5_3_67.2.2.2.2.2.2.1, rfl⟩
theorem zd_5_3_74 : zz_D zy_writeInstruction_5_3 74 (.bipush 9) 2 76 := ⟨zq_16 zg_5_3_67.2.2.2.2.2.2.2.1 zg_5_3_67.2.2.2.2.2.2.2.2.1 (by decide), rfl⟩
theorem zd_5_3_76 : zz_D zy_writeInstruction_5_3 76 (.invokevirtual 35) 3 79 := ⟨zq_182 zg_5_3_67.2.2.2.2.2.2.2.2.2.1 zg_5_3_67.2.2.2.2.2.2.2.2.2.2.1 zg_5_3_67.2.2.2.2.2.2.2.2.2.2.2.1 rfl, rfl⟩
theorem zd_5_3_79 : zz_D zy_writeInstruction_5_3 79 (.aload_n 0) 1 80 := ⟨zq_42 zg_5_3_67.2.2.2.2.2.2.2.2.2.2.2.2.1, rfl⟩
theorem zd_5_3_80 : zz_D zy_writeInstruction_5_3 80 (.ldc 53) 2 82 := ⟨zq_18 zg_5_3_67.2.2.2.2.2.2.2.2.2.2.2.2.2.1 zg_5_3_67.2.2.2.2.2.2.2.2.2.2.2.2.2.2.1, rfl⟩
theorem zd_5_3_82 : zz_D zy_writeInstruction_5_3 82 (.lload_n 1) 1 83 := ⟨zq_31 zg_5_3_67.2.2.2.2.2.2.2.2.2.2.2.2.2.2.2.1, rfl⟩
theorem zd_5_3_83 : zz_D zy_writeInstruction_5_3 83 (.bipush 10) 2 85 := ⟨zq_16 zg_5_3_67.2.2.2.2.2.2.2.2.2.2.2.2.2.2.2.2.1 zg_5_3_67.2.2.2.2.2.2.2.2.2.2.2.2.2.2.2.2.2.1 (by decide), rfl⟩
theorem zd_5_3_85 : zz_D zy_writeInstruction_5_3 85 (.invokevirtual 35) 3 88 := ⟨zq_182 zg_5_3_67.2.2.2.2.2.2.2.2.2.2.2.2.2.2.2.2.2.2.1 zg_5_3_67.2.2.2.2.2.2.2.2.2.2.2.2.2.2.2.2.2.2.2.1 zg_5_3_67.2.2.2.2.2.2.2.2.2.2.2.2.2.2.2.2.2.2.2.2.1 rfl, rfl⟩
theorem zd_5_3_88 : zz_D zy_writeInstruction_5_3 88 (.aload_n 0) 1 89 := ⟨zq_42 zg_5_3_67.2.2.2.2.2.2.2.2.2.2.2.2.2.2.2.2.2.2.2.2.2.1, rfl⟩
theorem zd_5_3_89 : zz_D zy_writeInstruction_5_3 89 (.ldc 55) 2 91 := ⟨zq_18 zg_5_3_67.2.2.2.2.2.2.2.2.2.2.2.2.2.2.2.2.2.2.2.2.2.2.1 zg_5_3_67.2.2.2.2.2.2.2.2.2.2.2.2.2.2.2.2.2.2.2.2.2.2.2, rfl⟩
theorem zg_5_3_91 : zq_at zy_writeInstruction_5_3.2.1 91 31 ∧ zq_at zy_writeInstruction_5_3.2.1 92 16 ∧ zq_at zy_writeInstruction_5_3.2.1 93 11 ∧ zq_at zy_writeInstruction_5_3.2.1 94 182 ∧ zq_at zy_writeInstruction_5_3.2.1 95 0 ∧ zq_at zy_writeInstruction_5_3.2.1 96 35 ∧ zq_at zy_writeInstruction_5_3.2.1 97 42 ∧ zq_at zy_writeInstruction_5_3.2.1 98 31 ∧ zq_at zy_writeInstruction_5_3.2.1 99 4 ∧ zq_at zy_writeInstruction_5_3.2.1 100 184 ∧ zq_at zy_writeInstruction_5_3.2.1 101 0 ∧ zq_at zy_writeInstruction_5_3.2.1 102 39 ∧ zq_at zy_writeInstruction_5_3.2.1 103 18 ∧ zq_at zy_writeInstruction_5_3.2.1 104 57 ∧ zq_at zy_writeInstruction_5_3.2.1 105 182 ∧ zq_at zy_writeInstruction_5_3.2.1 106 0 ∧ zq_at zy_writeInstruction_5_3.2.1 107 59 := by decide +kernel
theorem zd_5_3_91 : zz_D zy_writeInstruction_5_3 91 (.lload_n 1) 1 92 := ⟨zq_31 zg_5_3_91.1, rfl⟩
theorem zd_5_3_92 : zz_D zy_writeInstruction_5_3 92 (.bipush 11) 2 94 := ⟨zq_16 zg_5_3_91.2.1 zg_5_3_91.2.2.1 (by decide), rfl⟩
theorem zd_5_3_94 : zz_D zy_writeInstruction_5_3 94 (.invokevirtual 35) 3 97 := ⟨zq_182 zg_5_3_91.2.2.2.1 zg_5_3_91.2.2.2.2.1 zg_5_3_91.2.2.2.2.2.1 rfl, rfl⟩
theorem zd_5_3_97 : zz_D zy_writeInstruction_5_3 97 (.aload_n 0) 1 98 := ⟨zq_42 zg_5_3_91.2.2.2.2.2.2.1, rfl⟩
theorem zd_5_3_98 : zz_D zy_writeInstruction_5_3 98 (.lload_n 1) 1 99 := ⟨zq_31 zg_5_3_91.2.2.2.2.2.2.2.1, rfl⟩
theorem zd_5_3_99 : zz_D zy_writeInstruction_5_3 99 (.iconst 1) 1 100 := ⟨zq_4 zg_5_3_91.2.2.2.2.2.2.2.2.1, rfl⟩
theorem zd_5_3_100 : zz_D zy_writeInstruction_5_3 100 (.invokestatic 39) 3 103 := ⟨zq_184 zg_5_3_91.2.2.2.2.2.2.2.2.2.1 zg_5_3_91.2.2.2.2.2.2.2.2.2.2.1 zg_5_3_91.2.2.2.2.2.2.2.2.2.2.2.1 rfl, rfl⟩
theorem zd_5_3_103 : zz_D zy_writeInstruction_5_3 103 (.ldc 57) 2 105 := ⟨zq_18 zg_5_3_91.2.2.2.2.2.2.2.2.2.2.2.2.1 zg_5_3_91.2.2.2.2.2.2.2.2.2.2.2.2.2.1, rfl⟩
theorem zd_5_3_105 : zz_D zy_writeInstruction_5_3 105 (.invokevirtual 59) 3 108 := ⟨zq_182 zg_5_3_91.2.2.2.2.2.2.2.2.2.2.2.2.2.2.1 zg_5_3_91.2.2.2.2.2.2.2.2.2.2.2.2.2.2.2.1 zg_5_3_91.2.2.2.2.2.2.2.2.2.2.2.2.2.2.2.2 rfl, rfl⟩
theorem zg_5_7_0 : zq_at zy_addIf_5_7.2.1 0 27 ∧ zq_at zy_addIf_5_7.2.1 1 153 ∧ zq_at zy_addIf_5_7.2.1 2 0 ∧ zq_at zy_addIf_5_7.2.1 3 8 ∧ zq_at zy_addIf_5_7.2.1 9 177 ∧ zq_at zy_addIf_5_7.2.1 4 42 ∧ zq_at zy_addIf_5_7.2.1 5 44 ∧ zq_at zy_addIf_5_7.2.1 6 182 ∧ zq_at zy_addIf_5_7.2.1 7 0 ∧ zq_at zy_addIf_5_7.2.1 8 29 := by decide +kernel
theorem zd_5_7_0 : zz_D zy_addIf_5_7 0 (.iload_n 1) 1 1 := ⟨zq_27 zg_5_7_0.1, rfl⟩
theorem zd_5_7_1 : zz_B zy_addIf_5_7 1 (Instr.ifCond .eq) 9 4 := ⟨8, zq_153 zg_5_7_0.2.1 zg_5_7_0.2.2.1 zg_5_7_0.2.2.2.1 (by decide), rfl, rfl⟩
theorem zd_5_7_9 : zz_D zy_addIf_5_7 9 (.return_) 1 10 := ⟨zq_177 zg_5_7_0.2.2.2.2.1, rfl⟩
theorem zd_5_7_4 : zz_D zy_addIf_5_7 4 (.aload_n 0) 1 5 := ⟨zq_42 zg_5_7_0.2.2.2.2.2.1, rfl⟩
theorem zd_5_7_5 : zz_D zy_addIf_5_7 5 (.aload_n 2) 1 6 := ⟨zq_44 zg_5_7_0.2.2.2.2.2.2.1, rfl⟩
theorem zd_5_7_6 : zz_D zy_addIf_5_7 6 (.invokevirtual 29) 3 9 := ⟨zq_182 zg_5_7_0.2.2.2.2.2.2.2.1 zg_5_7_0.2.2.2.2.2.2.2.2.1 zg_5_7_0.2.2.2.2.2.2.2.2.2 rfl, rfl⟩

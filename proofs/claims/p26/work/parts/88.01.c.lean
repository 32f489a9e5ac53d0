-- TensorForge$Run begin (III)V
abbrev zr_begin_10_10 : Room := { frames := 4, cells := 0, slots := 0, locals := 63 }
def zp_begin_10_10 (p0 : Int) (p1 : Int) (p2 : Int) (S0 : zz_S) : zz_S → Prop := fun S => zz_G S ∧ zz_fr [(1031, 7), (1031, 8), (1031, 9), (1031, 10), (1031, 11), (1031, 12), (1031, 13), (1042, 8)] [1032, 1033, 1034, 1035, 1036, 1043, 1045, 1046, 1047, 1048, 1049] (fun _ _ => False) S0 S
theorem zc_begin_10_10 {g : mm_G} {l : Launch} (p0 : Int) (p1 : Int) (p2 : Int) (S0 : zz_S) (n : Nat) (hn : zz_end ≤ n) (G_S0 : zz_G S0) (hp0 : 0 ≤ p0 ∧ p0 ≤ 2) (hp1 : 0 ≤ p1 ∧ p1 ≤ 599) (hp2 : (-2147483648) ≤ p2 ∧ p2 ≤ 2147483647) (hl : zz_lcl (S0 1044 p1.toNat) (S0 1031 6)) : mm_Met g l zy_begin_10_10 zr_begin_10_10 [.ref 1042, zi p0, zi p1, zi p2] (zz_M S0 n) n (zz_QV n (zp_begin_10_10 p0 p1 p2 S0)) := by
  refine zz_enter (by decide) (Nat.le_of_ble_eq_true rfl) (zz_less (ls1 := [some (.ref 1042), some (zi p0), some (zi p1), some (zi p2)]) ⟨rfl, ⟨rfl, ⟨rfl, ⟨rfl, trivial⟩⟩⟩⟩ ?_)
  have F_S0 : zz_fr [(1031, 7), (1031, 8), (1031, 9), (1031, 10), (1031, 11), (1031, 12), (1031, 13), (1042, 8)] [1032, 1033, 1034, 1035, 1036, 1043, 1045, 1046, 1047, 1048, 1049] (fun _ _ => False) S0 S0 := zz_fr.refl
  refine zz_aload_n (x := 1042) rfl zd_10_10_0 ?_
  refine zz_getr (kd := 0) (z := 1044) zd_10_10_1 zf_Run_19 zT_1042 rfl (zz_ltn hn rfl) (zz_G.eq G_S0 1042 2 1044 rfl rfl) (by decide) 1044 rfl ?_
  refine zz_iload_n (x := p1) rfl zd_10_10_4 ?_
  have g1 := zz_G.r G_S0 1044 p1.toNat (-9223372036854775808) 9223372036854775807 rfl rfl
  refine zz_lald (z := S0 1044 p1.toNat) zd_10_10_5 zT_1044 rfl (zz_ltn hn rfl) (by decide) (by omega) rfl ?_
  refine zz_aload_n (x := 1042) rfl zd_10_10_6 ?_
  refine zz_getr (kd := 0) (z := 1031) zd_10_10_7 zf_Run_9 zT_1042 rfl (zz_ltn hn rfl) (zz_G.eq G_S0 1042 0 1031 rfl rfl) (by decide) 1031 rfl ?_
  have g2 := zz_G.r G_S0 1031 6 2 8 rfl rfl
  refine zz_geti (z := S0 1031 6) zd_10_10_10 zf_Run_121 zT_1031 rfl (zz_ltn hn rfl) rfl ?_
  refine zz_callSI [zl (S0 1044 p1.toNat), zi (S0 1031 6)] zd_10_10_13 zk_Run_139 rfl rfl ⟨Nat.le_of_ble_eq_true rfl, Nat.le_of_ble_eq_true rfl⟩ ⟨rfl, rfl⟩ (Nat.zero_le _) (Nat.zero_le _) (zc_cyclesOf_12_11 (S0 1044 p1.toNat) (S0 1031 6) S0 n hn G_S0 (by omega) (by omega)) (fun v4 S3 hP => ?_)
  obtain ⟨rfl, o5⟩ := hP
  refine zz_istore [some (.ref 1042), some (zi p0), some (zi p1), some (zi p2), some (zi v4)] zd_10_10_16 (by decide) rfl ?_
  refine zz_aload_n (x := 1042) rfl zd_10_10_18 ?_
  refine zz_iload_n (x := p0) rfl zd_10_10_19 ?_
  refine zz_aload_n (x := 1042) rfl zd_10_10_20 ?_
  refine zz_getr (kd := 0) (z := 1044) zd_10_10_21 zf_Run_19 zT_1042 rfl (zz_ltn hn rfl) (zz_G.eq G_S0 1042 2 1044 rfl rfl) (by decide) 1044 rfl ?_
  refine zz_iload_n (x := p1) rfl zd_10_10_24 ?_
  refine zz_lald (z := S0 1044 p1.toNat) zd_10_10_25 zT_1044 rfl (zz_ltn hn rfl) (by decide) (by omega) rfl ?_
  refine zz_callVV [zi p0, zl (S0 1044 p1.toNat)] zd_10_10_26 zk_Run_143 zT_1042 (zz_ltn hn rfl) rfl rfl ⟨Nat.le_of_ble_eq_true rfl, Nat.le_of_ble_eq_true rfl⟩ ⟨rfl, rfl⟩ (Nat.zero_le _) (Nat.zero_le _) (zc_popTokens_10_20 p0 (S0 1044 p1.toNat) S0 n hn G_S0 (by omega) (by omega)) (fun S6 hP => ?_)
  obtain ⟨G_S6, fS6⟩ := hP
  have F_S6 := zz_fr.trans F_S0 fS6 rfl zz_nv
  refine zz_aload_n (x := 1042) rfl zd_10_10_29 ?_
  refine zz_getr (kd := 0) (z := 1045) zd_10_10_30 zf_Run_23 zT_1042 rfl (zz_ltn hn rfl) (zz_G.eq G_S6 1042 3 1045 rfl rfl) (by decide) 1045 rfl ?_
  refine zz_iload_n (x := p1) rfl zd_10_10_33 ?_
  refine zz_iload_n (x := p2) rfl zd_10_10_34 ?_
  refine zz_iast zd_10_10_35 zT_1045 rfl (zz_ltn hn rfl) (by decide) (by omega) (fun S8 qS8 => ?_)
  have G_S8 := zz_G.put G_S6 qS8 (-2147483648) 2147483647 rfl (by omega)
  have F_S8 := zz_fr.putc F_S6 qS8 rfl
  refine zz_aload_n (x := 1042) rfl zd_10_10_36 ?_
  refine zz_getr (kd := 0) (z := 1046) zd_10_10_37 zf_Run_26 zT_1042 rfl (zz_ltn hn rfl) (zz_G.eq G_S8 1042 4 1046 rfl rfl) (by decide) 1046 rfl ?_
  refine zz_iload_n (x := p1) rfl zd_10_10_40 ?_
  refine zz_iload_n (x := p2) rfl zd_10_10_41 ?_
  refine zz_iload (x := v4) rfl zd_10_10_42 ?_
  refine zz_iadd zd_10_10_44 ?_
  refine zz_nrm (fun v9 hv9 ev9 => ?_)
  refine zz_iast zd_10_10_45 zT_1046 rfl (zz_ltn hn rfl) (by decide) (by omega) (fun S10 qS10 => ?_)
  have G_S10 := zz_G.put G_S8 qS10 (-2147483648) 2147483647 rfl (by omega)
  have F_S10 := zz_fr.putc F_S8 qS10 rfl
  refine zz_aload_n (x := 1042) rfl zd_10_10_46 ?_
  refine zz_getr (kd := 0) (z := 1043) zd_10_10_47 zf_Run_15 zT_1042 rfl (zz_ltn hn rfl) (zz_G.eq G_S10 1042 1 1043 rfl rfl) (by decide) 1043 rfl ?_
  refine zz_iconst zd_10_10_50 ?_
  refine zz_iload_n (x := p0) rfl zd_10_10_51 ?_
  refine zz_iadd zd_10_10_52 ?_
  refine zz_dup2_11 rfl rfl zd_10_10_53 ?_
  have g11 := zz_G.r G_S6 1043 ((3 + p0).toNat) (-2147483648) 2147483647 rfl rfl
  refine zz_iald (z := S6 1043 ((3 + p0).toNat)) zd_10_10_54 zT_1043 rfl (zz_ltn hn rfl) (by decide) (by omega) (zz_ro qS10 (fun h => absurd h.1 (by decide)) (zz_ro qS8 (fun h => absurd h.1 (by decide)) rfl)) ?_
  refine zz_iload (x := v4) rfl zd_10_10_55 ?_
  refine zz_iadd zd_10_10_57 ?_
  refine zz_nrm (fun v12 hv12 ev12 => ?_)
  refine zz_iast zd_10_10_58 zT_1043 rfl (zz_ltn hn rfl) (by decide) (by omega) (fun S13 qS13 => ?_)
  have G_S13 := zz_G.put G_S10 qS13 (-2147483648) 2147483647 rfl (by omega)
  have F_S13 := zz_fr.putc F_S10 qS13 rfl
  refine zz_aload_n (x := 1042) rfl zd_10_10_59 ?_
  refine zz_getr (kd := 0) (z := 1048) zd_10_10_60 zf_Run_32 zT_1042 rfl (zz_ltn hn rfl) (zz_G.eq G_S13 1042 6 1048 rfl rfl) (by decide) 1048 rfl ?_
  refine zz_iload_n (x := p0) rfl zd_10_10_63 ?_
  refine zz_iload_n (x := p1) rfl zd_10_10_64 ?_
  refine zz_iast zd_10_10_65 zT_1048 rfl (zz_ltn hn rfl) (by decide) (by omega) (fun S14 qS14 => ?_)
  have G_S14 := zz_G.put G_S13 qS14 (-1) 600 rfl (by omega)
  have F_S14 := zz_fr.putc F_S13 qS14 rfl
  refine zz_aload_n (x := 1042) rfl zd_10_10_66 ?_
  refine zz_getr (kd := 0) (z := 1047) zd_10_10_67 zf_Run_29 zT_1042 rfl (zz_ltn hn rfl) (zz_G.eq G_S14 1042 5 1047 rfl rfl) (by decide) 1047 rfl ?_
  refine zz_iload_n (x := p0) rfl zd_10_10_70 ?_
  refine zz_aload_n (x := 1042) rfl zd_10_10_71 ?_
  refine zz_iload_n (x := p0) rfl zd_10_10_72 ?_
  refine zz_iload_n (x := p1) rfl zd_10_10_73 ?_
  refine zz_iconst zd_10_10_74 ?_
  refine zz_iadd zd_10_10_75 ?_
  refine zz_callVI [zi p0, zi (p1 + 1)] zd_10_10_76 zk_Run_98 zT_1042 (zz_ltn hn rfl) rfl rfl ⟨Nat.le_of_ble_eq_true rfl, Nat.le_of_ble_eq_true rfl⟩ ⟨rfl, rfl⟩ (Nat.zero_le _) (Nat.zero_le _) (zc_nextOf_10_6 p0 (p1 + 1) S14 n hn G_S14 (by omega) (by omega)) (fun v16 S15 hP => ?_)
  obtain ⟨rfl, o17⟩ := hP
  refine zz_iast zd_10_10_79 zT_1047 rfl (zz_ltn hn rfl) (by decide) (by omega) (fun S18 qS18 => ?_)
  have G_S18 := zz_G.put G_S14 qS18 (-1) 600 rfl (by omega)
  have F_S18 := zz_fr.putc F_S14 qS18 rfl
  refine zz_aload_n (x := 1042) rfl zd_10_10_80 ?_
  refine zz_getr (kd := 0) (z := 1049) zd_10_10_81 zf_Run_37 zT_1042 rfl (zz_ltn hn rfl) (zz_G.eq G_S18 1042 7 1049 rfl rfl) (by decide) 1049 rfl ?_
  refine zz_iload_n (x := p0) rfl zd_10_10_84 ?_
  have g19 := zz_G.r G_S0 1049 p0.toNat 0 3 rfl rfl
  refine zz_aald (kd := 3) (z := S0 1049 p0.toNat) zd_10_10_85 zT_1049 rfl (zz_ltn hn rfl) (by decide) (by omega) (zz_ro qS18 (fun h => absurd h.1 (by decide)) (zz_ro qS14 (fun h => absurd h.1 (by decide)) (zz_ro qS13 (fun h => absurd h.1 (by decide)) (zz_ro qS10 (fun h => absurd h.1 (by decide)) (zz_ro qS8 (fun h => absurd h.1 (by decide)) (zz_rc fS6 (zz_nc1 rfl) rfl (fun h => h) rfl)))))) (by omega) (zz_rf 5 (S0 1049 p0.toNat)) rfl ?_
  refine zz_astore [some (.ref 1042), some (zi p0), some (zi p1), some (zi p2), some (zi v4), some (.ref (zz_rf 5 (S0 1049 p0.toNat)))] zd_10_10_86 (by decide) rfl ?_
  refine zz_aload_n (x := 1042) rfl zd_10_10_88 ?_
  refine zz_getr (kd := 0) (z := 1049) zd_10_10_89 zf_Run_37 zT_1042 rfl (zz_ltn hn rfl) (zz_G.eq G_S18 1042 7 1049 rfl rfl) (by decide) 1049 rfl ?_
  refine zz_iload_n (x := p0) rfl zd_10_10_92 ?_
  refine zz_aload_n (x := 1042) rfl zd_10_10_93 ?_
  have g20 := zz_G.r G_S0 1042 8 0 3 rfl rfl
  refine zz_getr (kd := 3) (z := S0 1042 8) zd_10_10_94 zf_Run_42 zT_1042 rfl (zz_ltn hn rfl) (zz_ro qS18 (fun h => absurd h.1 (by decide)) (zz_ro qS14 (fun h => absurd h.1 (by decide)) (zz_ro qS13 (fun h => absurd h.1 (by decide)) (zz_ro qS10 (fun h => absurd h.1 (by decide)) (zz_ro qS8 (fun h => absurd h.1 (by decide)) (zz_rc fS6 rfl rfl (fun h => h) rfl)))))) (by omega) (zz_rf 5 (S0 1042 8)) rfl ?_
  refine zz_aast (kd := 3) (S0 1042 8) zd_10_10_97 zT_1049 rfl (ci := 4) rfl (zT_k5 (by omega)) (zz_ltn hn rfl) (zN_k5 hn (by omega)) (by decide) (by omega) (by omega) rfl (fun S21 qS21 => ?_)
  have G_S21 := zz_G.put G_S18 qS21 0 3 rfl (by omega)
  have F_S21 := zz_fr.putc F_S18 qS21 rfl
  refine zz_aload_n (x := 1042) rfl zd_10_10_98 ?_
  refine zz_aload (x := zz_rf 5 (S0 1049 p0.toNat)) rfl zd_10_10_99 ?_
  refine zz_putr (kd := 3) (S0 1049 p0.toNat) zd_10_10_101 zf_Run_42 zT_1042 rfl (zz_ltn hn rfl) (by omega) rfl (fun _ => rfl) (fun _ => rfl) (fun S22 qS22 => ?_)
  have G_S22 := zz_G.put G_S21 qS22 0 3 rfl (by omega)
  have F_S22 := zz_fr.puts F_S21 qS22 rfl
  refine zz_aload_n (x := 1042) rfl zd_10_10_104 ?_
  refine zz_getr (kd := 0) (z := 1031) zd_10_10_105 zf_Run_9 zT_1042 rfl (zz_ltn hn rfl) (zz_G.eq G_S22 1042 0 1031 rfl rfl) (by decide) 1031 rfl ?_
  refine zz_aload_n (x := 1042) rfl zd_10_10_108 ?_
  refine zz_getr (kd := 0) (z := 1044) zd_10_10_109 zf_Run_19 zT_1042 rfl (zz_ltn hn rfl) (zz_G.eq G_S22 1042 2 1044 rfl rfl) (by decide) 1044 rfl ?_
  refine zz_iload_n (x := p1) rfl zd_10_10_112 ?_
  refine zz_lald (z := S0 1044 p1.toNat) zd_10_10_113 zT_1044 rfl (zz_ltn hn rfl) (by decide) (by omega) (zz_ro qS22 (fun h => absurd h.1 (by decide)) (zz_ro qS21 (fun h => absurd h.1 (by decide)) (zz_ro qS18 (fun h => absurd h.1 (by decide)) (zz_ro qS14 (fun h => absurd h.1 (by decide)) (zz_ro qS13 (fun h => absurd h.1 (by decide)) (zz_ro qS10 (fun h => absurd h.1 (by decide)) (zz_ro qS8 (fun h => absurd h.1 (by decide)) (zz_rc fS6 (zz_nc1 rfl) rfl (fun h => h) rfl)))))))) ?_
  have e23 : S22 1031 6 = S0 1031 6 := (zz_ro qS22 (fun h => absurd h.1 (by decide)) (zz_ro qS21 (fun h => absurd h.1 (by decide)) (zz_ro qS18 (fun h => absurd h.1 (by decide)) (zz_ro qS14 (fun h => absurd h.1 (by decide)) (zz_ro qS13 (fun h => absurd h.1 (by decide)) (zz_ro qS10 (fun h => absurd h.1 (by decide)) (zz_ro qS8 (fun h => absurd h.1 (by decide)) (zz_rc fS6 rfl rfl (fun h => h) rfl))))))))
  refine zz_callVV [zl (S0 1044 p1.toNat)] zd_10_10_114 zk_Run_146 zT_1031 (zz_ltn hn rfl) rfl rfl ⟨Nat.le_of_ble_eq_true rfl, Nat.le_of_ble_eq_true rfl⟩ ⟨rfl, rfl⟩ (Nat.zero_le _) (Nat.zero_le _) (zc_perform_6_10 (S0 1044 p1.toNat) S22 n hn G_S22 (by omega) (by rw [show S22 1031 6 = S0 1031 6 by omega]; exact hl)) (fun S24 hP => ?_)
  obtain ⟨G_S24, fS24⟩ := hP
  have F_S24 := zz_fr.trans F_S22 fS24 rfl zz_nv
  exact zz_vret zd_10_10_117 rfl (Nat.zero_le _) (Nat.zero_le _) ⟨_, rfl, G_S24, F_S24⟩
theorem zk_Run_132 : mm_Vl "TensorForge$Run" 132 5 3 zy_begin_10_10 := ⟨zyw_begin_10_10, (R_Run, F_Run, 10), rfl, mm_tb_1 779 (by decide +kernel) rfl, mm_tb_1 781 (by decide +kernel) rfl, mm_tb_s 25 (by decide +kernel) rfl⟩
theorem zg_10_8_77 : zq_at zy_beginAt_10_8.2.1 77 29 ∧ zq_at zy_beginAt_10_8.2.1 78 172 ∧ zq_at zy_beginAt_10_8.2.1 92 2 ∧ zq_at zy_beginAt_10_8.2.1 93 172 := by decide +kernel
theorem zd_10_8_77 : zz_D zy_beginAt_10_8 77 (.iload_n 3) 1 78 := ⟨zq_29 zg_10_8_77.1, rfl⟩
theorem zd_10_8_78 : zz_D zy_beginAt_10_8 78 (.ireturn) 1 79 := ⟨zq_172 zg_10_8_77.2.1, rfl⟩
theorem zd_10_8_92 : zz_D zy_beginAt_10_8 92 (.iconst (-1)) 1 93 := ⟨zq_2 zg_10_8_77.2.2.1, rfl⟩
theorem zd_10_8_93 : zz_D zy_beginAt_10_8 93 (.ireturn) 1 94 := ⟨zq_172 zg_10_8_77.2.2.2, rfl⟩
-- TensorForge$Run beginAt (I)I
abbrev zr_beginAt_10_8 : Room := { frames := 5, cells := 0, slots := 0, locals := 80 }
def zp_beginAt_10_8 (p0 : Int) (S0 : zz_S) : Int → zz_S → Prop := fun r S => zz_G S ∧ zz_fr [(1031, 7), (1031, 8), (1031, 9), (1031, 10), (1031, 11), (1031, 12), (1031, 13), (1042, 8)] [1032, 1033, 1034, 1035, 1036, 1038, 1039, 1040, 1041, 1043, 1045, 1046, 1047, 1048, 1049, 1051, 1052, 1053, 1054, 1056, 1057, 1058, 1059, 1061, 1062, 1063, 1064, 1066, 1067, 1068, 1069] (fun _ _ => False) S0 S ∧ ((-1) ≤ r ∧ r ≤ 599)
theorem zb_beginAt_10_8_2 {g : mm_G} {l : Launch} (p0 : Int) (S0 : zz_S) (n : Nat) (hn : zz_end ≤ n) (G_S0 : zz_G S0) (hp0 : (-2147483648) ≤ p0 ∧ p0 ≤ 2147483647) (hL : ∀ u : Nat, (u : Int) < S0 1042 9 → zz_lcl (S0 1044 u) (S0 1031 6)) (x2 : Int) (S : zz_S) (G_S : zz_G S) (F_S : zz_fr [(1031, 7), (1031, 8), (1031, 9), (1031, 10), (1031, 11), (1031, 12), (1031, 13), (1042, 8)] [1032, 1033, 1034, 1035, 1036, 1038, 1039, 1040, 1041, 1043, 1045, 1046, 1047, 1048, 1049, 1051, 1052, 1053, 1054, 1056, 1057, 1058, 1059, 1061, 1062, 1063, 1064, 1066, 1067, 1068, 1069] (fun _ _ => False) S0 S) (i2_0 : 0 ≤ x2 ∧ x2 ≤ 3) (R : Nat) (hR : (3 - x2).toNat = R) (k2 : ∀ (x2 : Int) (S : zz_S), zz_G S → zz_fr [(1031, 7), (1031, 8), (1031, 9), (1031, 10), (1031, 11), (1031, 12), (1031, 13), (1042, 8)] [1032, 1033, 1034, 1035, 1036, 1038, 1039, 1040, 1041, 1043, 1045, 1046, 1047, 1048, 1049, 1051, 1052, 1053, 1054, 1056, 1057, 1058, 1059, 1061, 1062, 1063, 1064, 1066, 1067, 1068, 1069] (fun _ _ => False) S0 S → (0 ≤ x2 ∧ x2 ≤ 3) → (3 - x2).toNat < R → zz_E g l zy_beginAt_10_8 zr_beginAt_10_8 (zz_QI n (zp_beginAt_10_8 p0 S0)) S n 2 [some (.ref 1042), some (zi p0), some (zi x2)] [] 0 0) : zz_E g l zy_beginAt_10_8 zr_beginAt_10_8 (zz_QI n (zp_beginAt_10_8 p0 S0)) S n 2 [some (.ref 1042), some (zi p0), some (zi x2)] [] 0 0 := by
  refine zz_iload_n (x := x2) rfl zd_10_8_2 ?_
  refine zz_iconst zd_10_8_3 ?_
  refine zz_icmp_ge (by omega) (by omega) zd_10_8_4 (fun c1 => ?_) (fun c1 => ?_)
  · refine zz_iconst zd_10_8_92 ?_
    exact zz_iret zd_10_8_93 rfl (Nat.zero_le _) (Nat.zero_le _) ⟨_, _, rfl, G_S, F_S, by omega⟩
  · refine zz_aload_n (x := 1042) rfl zd_10_8_7 ?_
    refine zz_getr (kd := 0) (z := 1047) zd_10_8_8 zf_Run_29 zT_1042 rfl (zz_ltn hn rfl) (zz_G.eq G_S 1042 5 1047 rfl rfl) (by decide) 1047 rfl ?_
    refine zz_iload_n (x := x2) rfl zd_10_8_11 ?_
    have g2 := zz_G.r G_S 1047 x2.toNat (-1) 600 rfl rfl
    refine zz_iald (z := S 1047 x2.toNat) zd_10_8_12 zT_1047 rfl (zz_ltn hn rfl) (by decide) (by omega) rfl ?_
    refine zz_istore_n [some (.ref 1042), some (zi p0), some (zi x2), some (zi (S 1047 x2.toNat))] zd_10_8_13 (by decide) rfl ?_
    refine zz_iload_n (x := S 1047 x2.toNat) rfl zd_10_8_14 ?_
    refine zz_if_lt (by omega) zd_10_8_15 (fun c3 => ?_) (fun c3 => ?_)
    · refine zz_iinc [some (.ref 1042), some (zi p0), some (zi (x2 + 1)), some (zi (S 1047 x2.toNat))] zd_10_8_86 rfl rfl ?_
      refine zz_goto zd_10_8_89 ?_
      refine zz_less (ls1 := [some (.ref 1042), some (zi p0), some (zi (x2 + 1))]) ⟨rfl, ⟨rfl, ⟨rfl, trivial⟩⟩⟩ ?_
      exact k2 (x2 + 1) S G_S F_S (by omega) (by omega)
    · refine zz_iload_n (x := S 1047 x2.toNat) rfl zd_10_8_18 ?_
      refine zz_aload_n (x := 1042) rfl zd_10_8_19 ?_
      have g4 := zz_G.r G_S0 1042 9 0 600 rfl rfl
      refine zz_geti (z := S0 1042 9) zd_10_8_20 zf_Run_46 zT_1042 rfl (zz_ltn hn rfl) (zz_rc F_S rfl rfl (fun h => h) rfl) ?_
      refine zz_icmp_ge (by omega) (by omega) zd_10_8_23 (fun c5 => ?_) (fun c5 => ?_)
      · refine zz_iinc [some (.ref 1042), some (zi p0), some (zi (x2 + 1)), some (zi (S 1047 x2.toNat))] zd_10_8_86 rfl rfl ?_
        refine zz_goto zd_10_8_89 ?_
        refine zz_less (ls1 := [some (.ref 1042), some (zi p0), some (zi (x2 + 1))]) ⟨rfl, ⟨rfl, ⟨rfl, trivial⟩⟩⟩ ?_
        exact k2 (x2 + 1) S G_S F_S (by omega) (by omega)
      · refine zz_aload_n (x := 1042) rfl zd_10_8_26 ?_
        refine zz_getr (kd := 0) (z := 1048) zd_10_8_27 zf_Run_32 zT_1042 rfl (zz_ltn hn rfl) (zz_G.eq G_S 1042 6 1048 rfl rfl) (by decide) 1048 rfl ?_
        refine zz_iload_n (x := x2) rfl zd_10_8_30 ?_
        have g6 := zz_G.r G_S 1048 x2.toNat (-1) 600 rfl rfl
        refine zz_iald (z := S 1048 x2.toNat) zd_10_8_31 zT_1048 rfl (zz_ltn hn rfl) (by decide) (by omega) rfl ?_
        refine zz_iconst zd_10_8_32 ?_
        refine zz_icmp_ne (by omega) (by omega) zd_10_8_33 (fun c7 => ?_) (fun c7 => ?_)
        · refine zz_iinc [some (.ref 1042), some (zi p0), some (zi (x2 + 1)), some (zi (S 1047 x2.toNat))] zd_10_8_86 rfl rfl ?_
          refine zz_goto zd_10_8_89 ?_
          refine zz_less (ls1 := [some (.ref 1042), some (zi p0), some (zi (x2 + 1))]) ⟨rfl, ⟨rfl, ⟨rfl, trivial⟩⟩⟩ ?_
          exact k2 (x2 + 1) S G_S F_S (by omega) (by omega)
        · refine zz_aload_n (x := 1042) rfl zd_10_8_36 ?_
          refine zz_iload_n (x := x2) rfl zd_10_8_37 ?_
          refine zz_aload_n (x := 1042) rfl zd_10_8_38 ?_
          refine zz_getr (kd := 0) (z := 1044) zd_10_8_39 zf_Run_19 zT_1042 rfl (zz_ltn hn rfl) (zz_G.eq G_S 1042 2 1044 rfl rfl) (by decide) 1044 rfl ?_
          refine zz_iload_n (x := S 1047 x2.toNat) rfl zd_10_8_42 ?_
          have g8 := zz_G.r G_S0 1044 ((S 1047 x2.toNat).toNat) (-9223372036854775808) 9223372036854775807 rfl rfl
          refine zz_lald (z := S0 1044 ((S 1047 x2.toNat).toNat)) zd_10_8_43 zT_1044 rfl (zz_ltn hn rfl) (by decide) (by omega) (zz_rc F_S (zz_nc1 rfl) rfl (fun h => h) rfl) ?_
          refine zz_callVI [zi x2, zl (S0 1044 ((S 1047 x2.toNat).toNat))] zd_10_8_44 zk_Run_117 zT_1042 (zz_ltn hn rfl) rfl rfl ⟨Nat.le_of_ble_eq_true rfl, Nat.le_of_ble_eq_true rfl⟩ ⟨rfl, rfl⟩ (Nat.zero_le _) (Nat.zero_le _) (zc_hasTokens_10_19 x2 (S0 1044 ((S 1047 x2.toNat).toNat)) S n hn G_S (by omega) (by omega)) (fun v10 S9 hP => ?_)
          obtain ⟨rfl, o11⟩ := hP
          rcases (by omega : v10 = 0 ∨ v10 = 1) with rfl | rfl
          · refine zz_if_eq (by omega) zd_10_8_47 (fun c12 => ?_) (fun c12 => ?_)
            · refine zz_iinc [some (.ref 1042), some (zi p0), some (zi (x2 + 1)), some (zi (S 1047 x2.toNat))] zd_10_8_86 rfl rfl ?_
              refine zz_goto zd_10_8_89 ?_
              refine zz_less (ls1 := [some (.ref 1042), some (zi p0), some (zi (x2 + 1))]) ⟨rfl, ⟨rfl, ⟨rfl, trivial⟩⟩⟩ ?_
              exact k2 (x2 + 1) S G_S F_S (by omega) (by omega)
            · exfalso; omega
          · refine zz_if_eq (by omega) zd_10_8_47 (fun c13 => ?_) (fun c13 => ?_)
            · exfalso; omega
            · refine zz_aload_n (x := 1042) rfl zd_10_8_50 ?_
              have g14 := zz_G.r G_S 1042 8 0 3 rfl rfl
              refine zz_getr (kd := 3) (z := S 1042 8) zd_10_8_51 zf_Run_42 zT_1042 rfl (zz_ltn hn rfl) rfl (by omega) (zz_rf 5 (S 1042 8)) rfl ?_
              refine zz_aload_n (x := 1042) rfl zd_10_8_54 ?_
              refine zz_getr (kd := 0) (z := 1044) zd_10_8_55 zf_Run_19 zT_1042 rfl (zz_ltn hn rfl) (zz_G.eq G_S 1042 2 1044 rfl rfl) (by decide) 1044 rfl ?_
              refine zz_iload_n (x := S 1047 x2.toNat) rfl zd_10_8_58 ?_
              refine zz_lald (z := S0 1044 ((S 1047 x2.toNat).toNat)) zd_10_8_59 zT_1044 rfl (zz_ltn hn rfl) (by decide) (by omega) (zz_rc F_S (zz_nc1 rfl) rfl (fun h => h) rfl) ?_
              refine zz_aload_n (x := 1042) rfl zd_10_8_60 ?_
              refine zz_getr (kd := 0) (z := 1031) zd_10_8_61 zf_Run_9 zT_1042 rfl (zz_ltn hn rfl) (zz_G.eq G_S 1042 0 1031 rfl rfl) (by decide) 1031 rfl ?_
              have g15 := zz_G.r G_S0 1031 6 2 8 rfl rfl
              refine zz_geti (z := S0 1031 6) zd_10_8_64 zf_Run_121 zT_1031 rfl (zz_ltn hn rfl) (zz_rc F_S rfl rfl (fun h => h) rfl) ?_
              refine zz_callVV [zl (S0 1044 ((S 1047 x2.toNat).toNat)), zi (S0 1031 6)] zd_10_8_67 zk_Run_124 (zT_k5 (by omega)) (zN_k5 hn (by omega)) rfl rfl ⟨Nat.le_of_ble_eq_true rfl, Nat.le_of_ble_eq_true rfl⟩ ⟨rfl, rfl⟩ (Nat.zero_le _) (Nat.zero_le _) (zc_take_9_2 (S 1042 8) (S0 1044 ((S 1047 x2.toNat).toNat)) (S0 1031 6) S n hn G_S (by omega) (by omega) (by omega)) (fun S16 hP => ?_)
              obtain ⟨G_S16, fS16⟩ := hP
              have g18 := zz_G.r G_S 1042 8 0 3 rfl rfl
              have F_S16 := zz_fr.trans F_S fS16 rfl (fun a i h => by rcases h with h | h | h | h; exact Or.inr (Or.inl (h ▸ zM_k5a1 (z := (S 1042 8)) (by omega) rfl)); exact Or.inr (Or.inl (h ▸ zM_k5a2 (z := (S 1042 8)) (by omega) rfl)); exact Or.inr (Or.inl (h ▸ zM_k5a3 (z := (S 1042 8)) (by omega) rfl)); exact Or.inr (Or.inl (h ▸ zM_k5a4 (z := (S 1042 8)) (by omega) rfl)))
              have b19 := zz_rf5 (z := (S 1042 8)) (by omega)
              refine zz_aload_n (x := 1042) rfl zd_10_8_70 ?_
              refine zz_callVI [] zd_10_8_71 zk_Run_128 zT_1042 (zz_ltn hn rfl) rfl rfl ⟨Nat.le_of_ble_eq_true rfl, Nat.le_of_ble_eq_true rfl⟩ ⟨rfl, rfl⟩ (Nat.zero_le _) (Nat.zero_le _) (zc_races_10_9  S16 n hn G_S16 ) (fun v21 S20 hP => ?_)
              obtain ⟨rfl, o22⟩ := hP
              rcases (by omega : v21 = 0 ∨ v21 = 1) with rfl | rfl
              · refine zz_if_eq (by omega) zd_10_8_74 (fun c23 => ?_) (fun c23 => ?_)
                · refine zz_aload_n (x := 1042) rfl zd_10_8_79 ?_
                  refine zz_iload_n (x := x2) rfl zd_10_8_80 ?_
                  refine zz_iload_n (x := S 1047 x2.toNat) rfl zd_10_8_81 ?_
                  refine zz_iload_n (x := p0) rfl zd_10_8_82 ?_
                  have e24 : S16 1031 6 = S0 1031 6 := (zz_rc fS16 rfl rfl (by first | decide | omega) (zz_rc F_S rfl rfl (fun h => h) rfl))
                  have e25 : S16 1044 (S 1047 x2.toNat).toNat = S0 1044 (S 1047 x2.toNat).toNat := (zz_rc fS16 (zz_nc1 rfl) rfl (by first | decide | omega) (zz_rc F_S (zz_nc1 rfl) rfl (fun h => h) rfl))
                  refine zz_callVV [zi x2, zi (S 1047 x2.toNat), zi p0] zd_10_8_83 zk_Run_132 zT_1042 (zz_ltn hn rfl) rfl rfl ⟨Nat.le_of_ble_eq_true rfl, Nat.le_of_ble_eq_true rfl⟩ ⟨rfl, rfl⟩ (Nat.zero_le _) (Nat.zero_le _) (zc_begin_10_10 x2 (S 1047 x2.toNat) p0 S16 n hn G_S16 (by omega) (by omega) (by omega) (by rw [show S16 1044 (S 1047 x2.toNat).toNat = S0 1044 (S 1047 x2.toNat).toNat by omega, show S16 1031 6 = S0 1031 6 by omega]; exact hL _ (by omega))) (fun S26 hP => ?_)
                  obtain ⟨G_S26, fS26⟩ := hP
                  have F_S26 := zz_fr.trans F_S16 fS26 rfl zz_nv
                  refine zz_iinc [some (.ref 1042), some (zi p0), some (zi (x2 + 1)), some (zi (S 1047 x2.toNat))] zd_10_8_86 rfl rfl ?_
                  refine zz_goto zd_10_8_89 ?_
                  refine zz_less (ls1 := [some (.ref 1042), some (zi p0), some (zi (x2 + 1))]) ⟨rfl, ⟨rfl, ⟨rfl, trivial⟩⟩⟩ ?_
                  exact k2 (x2 + 1) S26 G_S26 F_S26 (by omega) (by omega)
                · exfalso; omega
              · refine zz_if_eq (by omega) zd_10_8_74 (fun c28 => ?_) (fun c28 => ?_)
                · exfalso; omega
                · refine zz_iload_n (x := S 1047 x2.toNat) rfl zd_10_8_77 ?_
                  exact zz_iret zd_10_8_78 rfl (Nat.zero_le _) (Nat.zero_le _) ⟨_, _, rfl, G_S16, F_S16, by omega⟩
theorem zi_beginAt_10_8 {g : mm_G} {l : Launch} (p0 : Int) (S0 : zz_S) (n : Nat) (hn : zz_end ≤ n) (G_S0 : zz_G S0) (hp0 : (-2147483648) ≤ p0 ∧ p0 ≤ 2147483647) (hL : ∀ u : Nat, (u : Int) < S0 1042 9 → zz_lcl (S0 1044 u) (S0 1031 6)) : ∀ N : Nat, (∀ (x2 : Int) (S : zz_S), zz_G S → zz_fr [(1031, 7), (1031, 8), (1031, 9), (1031, 10), (1031, 11), (1031, 12), (1031, 13), (1042, 8)] [1032, 1033, 1034, 1035, 1036, 1038, 1039, 1040, 1041, 1043, 1045, 1046, 1047, 1048, 1049, 1051, 1052, 1053, 1054, 1056, 1057, 1058, 1059, 1061, 1062, 1063, 1064, 1066, 1067, 1068, 1069] (fun _ _ => False) S0 S → (0 ≤ x2 ∧ x2 ≤ 3) → (3 - x2).toNat < N → zz_E g l zy_beginAt_10_8 zr_beginAt_10_8 (zz_QI n (zp_beginAt_10_8 p0 S0)) S n 2 [some (.ref 1042), some (zi p0), some (zi x2)] [] 0 0) := by
  intro N
  induction N with
  | zero => exact fun x2 S _ _ _ h => absurd h (Nat.not_lt_zero _)
  | succ N ih =>
    exact fun x2 S a b j0 hR => zb_beginAt_10_8_2 p0 S0 n hn G_S0 hp0 hL x2 S a b j0 _ rfl (fun x2 S a b j0 h => ih x2 S a b j0 (Nat.lt_of_lt_of_le h (Nat.le_of_lt_succ hR)))
theorem zc_beginAt_10_8 {g : mm_G} {l : Launch} (p0 : Int) (S0 : zz_S) (n : Nat) (hn : zz_end ≤ n) (G_S0 : zz_G S0) (hp0 : (-2147483648) ≤ p0 ∧ p0 ≤ 2147483647) (hL : ∀ u : Nat, (u : Int) < S0 1042 9 → zz_lcl (S0 1044 u) (S0 1031 6)) : mm_Met g l zy_beginAt_10_8 zr_beginAt_10_8 [.ref 1042, zi p0] (zz_M S0 n) n (zz_QI n (zp_beginAt_10_8 p0 S0)) := by
  refine zz_enter (by decide) (Nat.le_of_ble_eq_true rfl) (zz_less (ls1 := [some (.ref 1042), some (zi p0)]) ⟨rfl, ⟨rfl, trivial⟩⟩ ?_)
  have F_S0 : zz_fr [(1031, 7), (1031, 8), (1031, 9), (1031, 10), (1031, 11), (1031, 12), (1031, 13), (1042, 8)] [1032, 1033, 1034, 1035, 1036, 1038, 1039, 1040, 1041, 1043, 1045, 1046, 1047, 1048, 1049, 1051, 1052, 1053, 1054, 1056, 1057, 1058, 1059, 1061, 1062, 1063, 1064, 1066, 1067, 1068, 1069] (fun _ _ => False) S0 S0 := zz_fr.refl
  have k2 : ∀ (x2 : Int) (S : zz_S), zz_G S → zz_fr [(1031, 7), (1031, 8), (1031, 9), (1031, 10), (1031, 11), (1031, 12), (1031, 13), (1042, 8)] [1032, 1033, 1034, 1035, 1036, 1038, 1039, 1040, 1041, 1043, 1045, 1046, 1047, 1048, 1049, 1051, 1052, 1053, 1054, 1056, 1057, 1058, 1059, 1061, 1062, 1063, 1064, 1066, 1067, 1068, 1069] (fun _ _ => False) S0 S → (0 ≤ x2 ∧ x2 ≤ 3) → zz_E g l zy_beginAt_10_8 zr_beginAt_10_8 (zz_QI n (zp_beginAt_10_8 p0 S0)) S n 2 [some (.ref 1042), some (zi p0), some (zi x2)] [] 0 0 := fun x2 S a b j0 => (zi_beginAt_10_8 (g := g) (l := l) p0 S0 n hn G_S0 hp0 hL _) x2 S a b j0 (Nat.lt_succ_self _)
  refine zz_iconst zd_10_8_0 ?_
  refine zz_istore_n [some (.ref 1042), some (zi p0), some (zi 0)] zd_10_8_1 (by decide) rfl ?_
  refine zz_less (ls1 := [some (.ref 1042), some (zi p0), some (zi 0)]) ⟨rfl, ⟨rfl, ⟨rfl, trivial⟩⟩⟩ ?_
  exact k2 0 S0 G_S0 F_S0 (by omega)
theorem zk_Run_66 : mm_Vl "TensorForge$Run" 66 5 1 zy_beginAt_10_8 := ⟨zyw_beginAt_10_8, (R_Run, F_Run, 10), rfl, mm_tb_1 748 (by decide +kernel) rfl, mm_tb_1 750 (by decide +kernel) rfl, mm_tb_s 21 (by decide +kernel) rfl⟩
abbrev zy_soonestEnd_10_11 : mm_Y := (⟨"TensorForge$Run", "soonestEnd", "()I"⟩, prog_10_method_11_code, 4, (some .int))
theorem zyw_soonestEnd_10_11 : mm_Yw zy_soonestEnd_10_11 0 := ⟨mm_tb_1 844 (by decide +kernel) rfl, mm_tb_1 6 (by decide +kernel) rfl, ⟨by decide, by decide⟩, by decide +kernel⟩
theorem zg_10_2_50 : zq_at zy_follow_10_2.2.1 50 54 ∧ zq_at zy_follow_10_2.2.1 51 6 ∧ zq_at zy_follow_10_2.2.1 52 21 ∧ zq_at zy_follow_10_2.2.1 53 6 ∧ zq_at zy_follow_10_2.2.1 54 2 ∧ zq_at zy_follow_10_2.2.1 55 159 ∧ zq_at zy_follow_10_2.2.1 56 0 ∧ zq_at zy_follow_10_2.2.1 57 15 ∧ zq_at zy_follow_10_2.2.1 70 42 ∧ zq_at zy_follow_10_2.2.1 71 182 ∧ zq_at zy_follow_10_2.2.1 72 0 ∧ zq_at zy_follow_10_2.2.1 73 70 := by decide +kernel
theorem zd_10_2_50 : zz_D zy_follow_10_2 50 (.istore 6) 2 52 := ⟨zq_54 zg_10_2_50.1 zg_10_2_50.2.1, rfl⟩
theorem zd_10_2_52 : zz_D zy_follow_10_2 52 (.iload 6) 2 54 := ⟨zq_21 zg_10_2_50.2.2.1 zg_10_2_50.2.2.2.1, rfl⟩
theorem zd_10_2_54 : zz_D zy_follow_10_2 54 (.iconst (-1)) 1 55 := ⟨zq_2 zg_10_2_50.2.2.2.2.1, rfl⟩
theorem zd_10_2_55 : zz_B zy_follow_10_2 55 (Instr.if_icmp .eq) 70 58 := ⟨15, zq_159 zg_10_2_50.2.2.2.2.2.1 zg_10_2_50.2.2.2.2.2.2.1 zg_10_2_50.2.2.2.2.2.2.2.1 (by decide), rfl, rfl⟩
theorem zd_10_2_70 : zz_D zy_follow_10_2 70 (.aload_n 0) 1 71 := ⟨zq_42 zg_10_2_50.2.2.2.2.2.2.2.2.1, rfl⟩
theorem zd_10_2_71 : zz_D zy_follow_10_2 71 (.invokevirtual 70) 3 74 := ⟨zq_182 zg_10_2_50.2.2.2.2.2.2.2.2.2.1 zg_10_2_50.2.2.2.2.2.2.2.2.2.2.1 zg_10_2_50.2.2.2.2.2.2.2.2.2.2.2 rfl, rfl⟩
theorem zg_10_11_0 : zq_at zy_soonestEnd_10_11.2.1 0 2 ∧ zq_at zy_soonestEnd_10_11.2.1 1 60 ∧ zq_at zy_soonestEnd_10_11.2.1 2 3 ∧ zq_at zy_soonestEnd_10_11.2.1 3 61 ∧ zq_at zy_soonestEnd_10_11.2.1 4 28 ∧ zq_at zy_soonestEnd_10_11.2.1 5 6 ∧ zq_at zy_soonestEnd_10_11.2.1 6 162 ∧ zq_at zy_soonestEnd_10_11.2.1 7 0 ∧ zq_at zy_soonestEnd_10_11.2.1 8 50 ∧ zq_at zy_soonestEnd_10_11.2.1 9 42 ∧ zq_at zy_soonestEnd_10_11.2.1 10 180 ∧ zq_at zy_soonestEnd_10_11.2.1 11 0 ∧ zq_at zy_soonestEnd_10_11.2.1 12 32 ∧ zq_at zy_soonestEnd_10_11.2.1 13 28 ∧ zq_at zy_soonestEnd_10_11.2.1 14 46 ∧ zq_at zy_soonestEnd_10_11.2.1 15 62 ∧ zq_at zy_soonestEnd_10_11.2.1 16 29 ∧ zq_at zy_soonestEnd_10_11.2.1 17 155 ∧ zq_at zy_soonestEnd_10_11.2.1 18 0 ∧ zq_at zy_soonestEnd_10_11.2.1 19 33 ∧ zq_at zy_soonestEnd_10_11.2.1 50 132 ∧ zq_at zy_soonestEnd_10_11.2.1 51 2 ∧ zq_at zy_soonestEnd_10_11.2.1 52 1 := by decide +kernel
theorem zd_10_11_0 : zz_D zy_soonestEnd_10_11 0 (.iconst (-1)) 1 1 := ⟨zq_2 zg_10_11_0.1, rfl⟩
theorem zd_10_11_1 : zz_D zy_soonestEnd_10_11 1 (.istore_n 1) 1 2 := ⟨zq_60 zg_10_11_0.2.1, rfl⟩
theorem zd_10_11_2 : zz_D zy_soonestEnd_10_11 2 (.iconst 0) 1 3 := ⟨zq_3 zg_10_11_0.2.2.1, rfl⟩
theorem zd_10_11_3 : zz_D zy_soonestEnd_10_11 3 (.istore_n 2) 1 4 := ⟨zq_61 zg_10_11_0.2.2.2.1, rfl⟩
theorem zd_10_11_4 : zz_D zy_soonestEnd_10_11 4 (.iload_n 2) 1 5 := ⟨zq_28 zg_10_11_0.2.2.2.2.1, rfl⟩
theorem zd_10_11_5 : zz_D zy_soonestEnd_10_11 5 (.iconst 3) 1 6 := ⟨zq_6 zg_10_11_0.2.2.2.2.2.1, rfl⟩
theorem zd_10_11_6 : zz_B zy_soonestEnd_10_11 6 (Instr.if_icmp .ge) 56 9 := ⟨50, zq_162 zg_10_11_0.2.2.2.2.2.2.1 zg_10_11_0.2.2.2.2.2.2.2.1 zg_10_11_0.2.2.2.2.2.2.2.2.1 (by decide), rfl, rfl⟩
theorem zd_10_11_9 : zz_D zy_soonestEnd_10_11 9 (.aload_n 0) 1 10 := ⟨zq_42 zg_10_11_0.2.2.2.2.2.2.2.2.2.1, rfl⟩
theorem zd_10_11_10 : zz_D zy_soonestEnd_10_11 10 (.getfield 32) 3 13 := ⟨zq_180 zg_10_11_0.2.2.2.2.2.2.2.2.2.2.1 zg_10_11_0.2.2.2.2.2.2.2.2.2.2.2.1 zg_10_11_0.2.2.2.2.2.2.2.2.2.2.2.2.1 rfl, rfl⟩
theorem zd_10_11_13 : zz_D zy_soonestEnd_10_11 13 (.iload_n 2) 1 14 := ⟨zq_28 zg_10_11_0.2.2.2.2.2.2.2.2.2.2.2.2.2.1, rfl⟩
theorem zd_10_11_14 : zz_D zy_soonestEnd_10_11 14 (.iaload) 1 15 := ⟨zq_46 zg_10_11_0.2.2.2.2.2.2.2.2.2.2.2.2.2.2.1, rfl⟩
theorem zd_10_11_15 : zz_D zy_soonestEnd_10_11 15 (.istore_n 3) 1 16 := ⟨zq_62 zg_10_11_0.2.2.2.2.2.2.2.2.2.2.2.2.2.2.2.1, rfl⟩
theorem zd_10_11_16 : zz_D zy_soonestEnd_10_11 16 (.iload_n 3) 1 17 := ⟨zq_29 zg_10_11_0.2.2.2.2.2.2.2.2.2.2.2.2.2.2.2.2.1, rfl⟩
theorem zd_10_11_17 : zz_B zy_soonestEnd_10_11 17 (Instr.ifCond .lt) 50 20 := ⟨33, zq_155 zg_10_11_0.2.2.2.2.2.2.2.2.2.2.2.2.2.2.2.2.2.1 zg_10_11_0.2.2.2.2.2.2.2.2.2.2.2.2.2.2.2.2.2.2.1 zg_10_11_0.2.2.2.2.2.2.2.2.2.2.2.2.2.2.2.2.2.2.2.1 (by decide), rfl, rfl⟩
theorem zd_10_11_50 : zz_D zy_soonestEnd_10_11 50 (.iinc 2 1) 3 53 := ⟨zq_132 zg_10_11_0.2.2.2.2.2.2.2.2.2.2.2.2.2.2.2.2.2.2.2.2.1 zg_10_11_0.2.2.2.2.2.2.2.2.2.2.2.2.2.2.2.2.2.2.2.2.2.1 zg_10_11_0.2.2.2.2.2.2.2.2.2.2.2.2.2.2.2.2.2.2.2.2.2.2 (by decide), rfl⟩
theorem zg_10_11_53 : zq_at zy_soonestEnd_10_11.2.1 53 167 ∧ zq_at zy_soonestEnd_10_11.2.1 54 255 ∧ zq_at zy_soonestEnd_10_11.2.1 55 207 ∧ zq_at zy_soonestEnd_10_11.2.1 20 29 ∧ zq_at zy_soonestEnd_10_11.2.1 21 42 ∧ zq_at zy_soonestEnd_10_11.2.1 22 180 ∧ zq_at zy_soonestEnd_10_11.2.1 23 0 ∧ zq_at zy_soonestEnd_10_11.2.1 24 46 ∧ zq_at zy_soonestEnd_10_11.2.1 25 162 ∧ zq_at zy_soonestEnd_10_11.2.1 26 0 ∧ zq_at zy_soonestEnd_10_11.2.1 27 25 ∧ zq_at zy_soonestEnd_10_11.2.1 28 27 ∧ zq_at zy_soonestEnd_10_11.2.1 29 2 ∧ zq_at zy_soonestEnd_10_11.2.1 30 159 ∧ zq_at zy_soonestEnd_10_11.2.1 31 0 ∧ zq_at zy_soonestEnd_10_11.2.1 32 13 ∧ zq_at zy_soonestEnd_10_11.2.1 43 42 ∧ zq_at zy_soonestEnd_10_11.2.1 44 180 ∧ zq_at zy_soonestEnd_10_11.2.1 45 0 ∧ zq_at zy_soonestEnd_10_11.2.1 46 26 ∧ zq_at zy_soonestEnd_10_11.2.1 47 29 ∧ zq_at zy_soonestEnd_10_11.2.1 48 46 ∧ zq_at zy_soonestEnd_10_11.2.1 49 60 ∧ zq_at zy_soonestEnd_10_11.2.1 33 42 := by decide +kernel
theorem zd_10_11_53 : zz_B zy_soonestEnd_10_11 53 Instr.goto 4 56 := ⟨(-49), zq_167 zg_10_11_53.1 zg_10_11_53.2.1 zg_10_11_53.2.2.1 (by decide), rfl, rfl⟩
theorem zd_10_11_20 : zz_D zy_soonestEnd_10_11 20 (.iload_n 3) 1 21 := ⟨zq_29 zg_10_11_53.2.2.2.1, rfl⟩
theorem zd_10_11_21 : zz_D zy_soonestEnd_10_11 21 (.aload_n 0) 1 22 := ⟨zq_42 zg_10_11_53.2.2.2.2.1, rfl⟩
theorem zd_10_11_22 : zz_D zy_soonestEnd_10_11 22 (.getfield 46) 3 25 := ⟨zq_180 zg_10_11_53.2.2.2.2.2.1 zg_10_11_53.2.2.2.2.2.2.1 zg_10_11_53.2.2.2.2.2.2.2.1 rfl, rfl⟩
theorem zd_10_11_25 : zz_B zy_soonestEnd_10_11 25 (Instr.if_icmp .ge) 50 28 := ⟨25, zq_162 zg_10_11_53.2.2.2.2.2.2.2.2.1 zg_10_11_53.2.2.2.2.2.2.2.2.2.1 zg_10_11_53.2.2.2.2.2.2.2.2.2.2.1 (by decide), rfl, rfl⟩
theorem zd_10_11_28 : zz_D zy_soonestEnd_10_11 28 (.iload_n 1) 1 29 := ⟨zq_27 zg_10_11_53.2.2.2.2.2.2.2.2.2.2.2.1, rfl⟩
theorem zd_10_11_29 : zz_D zy_soonestEnd_10_11 29 (.iconst (-1)) 1 30 := ⟨zq_2 zg_10_11_53.2.2.2.2.2.2.2.2.2.2.2.2.1, rfl⟩
theorem zd_10_11_30 : zz_B zy_soonestEnd_10_11 30 (Instr.if_icmp .eq) 43 33 := ⟨13, zq_159 zg_10_11_53.2.2.2.2.2.2.2.2.2.2.2.2.2.1 zg_10_11_53.2.2.2.2.2.2.2.2.2.2.2.2.2.2.1 zg_10_11_53.2.2.2.2.2.2.2.2.2.2.2.2.2.2.2.1 (by decide), rfl, rfl⟩
theorem zd_10_11_43 : zz_D zy_soonestEnd_10_11 43 (.aload_n 0) 1 44 := ⟨zq_42 zg_10_11_53.2.2.2.2.2.2.2.2.2.2.2.2.2.2.2.2.1, rfl⟩
theorem zd_10_11_44 : zz_D zy_soonestEnd_10_11 44 (.getfield 26) 3 47 := ⟨zq_180 zg_10_11_53.2.2.2.2.2.2.2.2.2.2.2.2.2.2.2.2.2.1 zg_10_11_53.2.2.2.2.2.2.2.2.2.2.2.2.2.2.2.2.2.2.1 zg_10_11_53.2.2.2.2.2.2.2.2.2.2.2.2.2.2.2.2.2.2.2.1 rfl, rfl⟩
theorem zd_10_11_47 : zz_D zy_soonestEnd_10_11 47 (.iload_n 3) 1 48 := ⟨zq_29 zg_10_11_53.2.2.2.2.2.2.2.2.2.2.2.2.2.2.2.2.2.2.2.2.1, rfl⟩
theorem zd_10_11_48 : zz_D zy_soonestEnd_10_11 48 (.iaload) 1 49 := ⟨zq_46 zg_10_11_53.2.2.2.2.2.2.2.2.2.2.2.2.2.2.2.2.2.2.2.2.2.1, rfl⟩
theorem zd_10_11_49 : zz_D zy_soonestEnd_10_11 49 (.istore_n 1) 1 50 := ⟨zq_60 zg_10_11_53.2.2.2.2.2.2.2.2.2.2.2.2.2.2.2.2.2.2.2.2.2.2.1, rfl⟩
theorem zd_10_11_33 : zz_D zy_soonestEnd_10_11 33 (.aload_n 0) 1 34 := ⟨zq_42 zg_10_11_53.2.2.2.2.2.2.2.2.2.2.2.2.2.2.2.2.2.2.2.2.2.2.2, rfl⟩
theorem zg_10_11_34 : zq_at zy_soonestEnd_10_11.2.1 34 180 ∧ zq_at zy_soonestEnd_10_11.2.1 35 0 ∧ zq_at zy_soonestEnd_10_11.2.1 36 26 ∧ zq_at zy_soonestEnd_10_11.2.1 37 29 ∧ zq_at zy_soonestEnd_10_11.2.1 38 46 ∧ zq_at zy_soonestEnd_10_11.2.1 39 27 ∧ zq_at zy_soonestEnd_10_11.2.1 40 162 ∧ zq_at zy_soonestEnd_10_11.2.1 41 0 ∧ zq_at zy_soonestEnd_10_11.2.1 42 10 ∧ zq_at zy_soonestEnd_10_11.2.1 56 27 ∧ zq_at zy_soonestEnd_10_11.2.1 57 172 := by decide +kernel
theorem zd_10_11_34 : zz_D zy_soonestEnd_10_11 34 (.getfield 26) 3 37 := ⟨zq_180 zg_10_11_34.1 zg_10_11_34.2.1 zg_10_11_34.2.2.1 rfl, rfl⟩
theorem zd_10_11_37 : zz_D zy_soonestEnd_10_11 37 (.iload_n 3) 1 38 := ⟨zq_29 zg_10_11_34.2.2.2.1, rfl⟩
theorem zd_10_11_38 : zz_D zy_soonestEnd_10_11 38 (.iaload) 1 39 := ⟨zq_46 zg_10_11_34.2.2.2.2.1, rfl⟩
theorem zd_10_11_39 : zz_D zy_soonestEnd_10_11 39 (.iload_n 1) 1 40 := ⟨zq_27 zg_10_11_34.2.2.2.2.2.1, rfl⟩
theorem zd_10_11_40 : zz_B zy_soonestEnd_10_11 40 (Instr.if_icmp .ge) 50 43 := ⟨10, zq_162 zg_10_11_34.2.2.2.2.2.2.1 zg_10_11_34.2.2.2.2.2.2.2.1 zg_10_11_34.2.2.2.2.2.2.2.2.1 (by decide), rfl, rfl⟩
theorem zd_10_11_56 : zz_D zy_soonestEnd_10_11 56 (.iload_n 1) 1 57 := ⟨zq_27 zg_10_11_34.2.2.2.2.2.2.2.2.2.1, rfl⟩
theorem zd_10_11_57 : zz_D zy_soonestEnd_10_11 57 (.ireturn) 1 58 := ⟨zq_172 zg_10_11_34.2.2.2.2.2.2.2.2.2.2, rfl⟩
-- TensorForge$Run soonestEnd ()I
abbrev zr_soonestEnd_10_11 : Room := { frames := 0, cells := 0, slots := 0, locals := 0 }
def zp_soonestEnd_10_11  (S0 : zz_S) : Int → zz_S → Prop := fun r S => S0 = S ∧ ((-2147483648) ≤ r ∧ r ≤ 2147483647)
theorem zb_soonestEnd_10_11_4 {g : mm_G} {l : Launch}  (S0 : zz_S) (n : Nat) (hn : zz_end ≤ n) (G_S0 : zz_G S0)  (x1 : Int) (x2 : Int) (S : zz_S) (G_S : zz_G S) (F_S : zz_fr [] [] (fun _ _ => False) S0 S) (i4_0 : (-2147483648) ≤ x1 ∧ x1 ≤ 2147483647) (i4_1 : 0 ≤ x2 ∧ x2 ≤ 3) (R : Nat) (hR : (3 - x2).toNat = R) (k4 : ∀ (x1 : Int) (x2 : Int) (S : zz_S), zz_G S → zz_fr [] [] (fun _ _ => False) S0 S → ((-2147483648) ≤ x1 ∧ x1 ≤ 2147483647) → (0 ≤ x2 ∧ x2 ≤ 3) → (3 - x2).toNat < R → zz_E g l zy_soonestEnd_10_11 zr_soonestEnd_10_11 (zz_QI n (zp_soonestEnd_10_11  S0)) S n 4 [some (.ref 1042), some (zi x1), some (zi x2)] [] 0 0) : zz_E g l zy_soonestEnd_10_11 zr_soonestEnd_10_11 (zz_QI n (zp_soonestEnd_10_11  S0)) S n 4 [some (.ref 1042), some (zi x1), some (zi x2)] [] 0 0 := by
  refine zz_iload_n (x := x2) rfl zd_10_11_4 ?_
  refine zz_iconst zd_10_11_5 ?_
  refine zz_icmp_ge (by omega) (by omega) zd_10_11_6 (fun c1 => ?_) (fun c1 => ?_)
  · refine zz_iload_n (x := x1) rfl zd_10_11_56 ?_
    exact zz_iret zd_10_11_57 rfl (Nat.zero_le _) (Nat.zero_le _) ⟨_, _, rfl, zz_fr.eq F_S, by omega⟩
  · refine zz_aload_n (x := 1042) rfl zd_10_11_9 ?_
    refine zz_getr (kd := 0) (z := 1048) zd_10_11_10 zf_Run_32 zT_1042 rfl (zz_ltn hn rfl) (zz_G.eq G_S 1042 6 1048 rfl rfl) (by decide) 1048 rfl ?_
    refine zz_iload_n (x := x2) rfl zd_10_11_13 ?_
    have g2 := zz_G.r G_S0 1048 x2.toNat (-1) 600 rfl rfl
    refine zz_iald (z := S0 1048 x2.toNat) zd_10_11_14 zT_1048 rfl (zz_ltn hn rfl) (by decide) (by omega) (zz_rc F_S (zz_nc1 rfl) rfl (fun h => h) rfl) ?_
    refine zz_istore_n [some (.ref 1042), some (zi x1), some (zi x2), some (zi (S0 1048 x2.toNat))] zd_10_11_15 (by decide) rfl ?_
    refine zz_iload_n (x := S0 1048 x2.toNat) rfl zd_10_11_16 ?_
    refine zz_if_lt (by omega) zd_10_11_17 (fun c3 => ?_) (fun c3 => ?_)
    · refine zz_iinc [some (.ref 1042), some (zi x1), some (zi (x2 + 1)), some (zi (S0 1048 x2.toNat))] zd_10_11_50 rfl rfl ?_
      refine zz_goto zd_10_11_53 ?_
      refine zz_less (ls1 := [some (.ref 1042), some (zi x1), some (zi (x2 + 1))]) ⟨rfl, ⟨rfl, ⟨rfl, trivial⟩⟩⟩ ?_
      exact k4 x1 (x2 + 1) S G_S F_S (by omega) (by omega) (by omega)
    · refine zz_iload_n (x := S0 1048 x2.toNat) rfl zd_10_11_20 ?_
      refine zz_aload_n (x := 1042) rfl zd_10_11_21 ?_
      have g4 := zz_G.r G_S0 1042 9 0 600 rfl rfl
      refine zz_geti (z := S0 1042 9) zd_10_11_22 zf_Run_46 zT_1042 rfl (zz_ltn hn rfl) (zz_rc F_S rfl rfl (fun h => h) rfl) ?_
      refine zz_icmp_ge (by omega) (by omega) zd_10_11_25 (fun c5 => ?_) (fun c5 => ?_)
      · refine zz_iinc [some (.ref 1042), some (zi x1), some (zi (x2 + 1)), some (zi (S0 1048 x2.toNat))] zd_10_11_50 rfl rfl ?_
        refine zz_goto zd_10_11_53 ?_
        refine zz_less (ls1 := [some (.ref 1042), some (zi x1), some (zi (x2 + 1))]) ⟨rfl, ⟨rfl, ⟨rfl, trivial⟩⟩⟩ ?_
        exact k4 x1 (x2 + 1) S G_S F_S (by omega) (by omega) (by omega)
      · refine zz_iload_n (x := x1) rfl zd_10_11_28 ?_
        refine zz_iconst zd_10_11_29 ?_
        refine zz_icmp_eq (by omega) (by omega) zd_10_11_30 (fun c6 => ?_) (fun c6 => ?_)
        · refine zz_aload_n (x := 1042) rfl zd_10_11_43 ?_
          refine zz_getr (kd := 0) (z := 1046) zd_10_11_44 zf_Run_26 zT_1042 rfl (zz_ltn hn rfl) (zz_G.eq G_S 1042 4 1046 rfl rfl) (by decide) 1046 rfl ?_
          refine zz_iload_n (x := S0 1048 x2.toNat) rfl zd_10_11_47 ?_
          have g7 := zz_G.r G_S0 1046 ((S0 1048 x2.toNat).toNat) (-2147483648) 2147483647 rfl rfl
          refine zz_iald (z := S0 1046 ((S0 1048 x2.toNat).toNat)) zd_10_11_48 zT_1046 rfl (zz_ltn hn rfl) (by decide) (by omega) (zz_rc F_S (zz_nc1 rfl) rfl (fun h => h) rfl) ?_
          refine zz_istore_n [some (.ref 1042), some (zi (S0 1046 ((S0 1048 x2.toNat).toNat))), some (zi x2), some (zi (S0 1048 x2.toNat))] zd_10_11_49 (by decide) rfl ?_
          refine zz_iinc [some (.ref 1042), some (zi (S0 1046 ((S0 1048 x2.toNat).toNat))), some (zi (x2 + 1)), some (zi (S0 1048 x2.toNat))] zd_10_11_50 rfl rfl ?_
          refine zz_goto zd_10_11_53 ?_
          refine zz_less (ls1 := [some (.ref 1042), some (zi (S0 1046 ((S0 1048 x2.toNat).toNat))), some (zi (x2 + 1))]) ⟨rfl, ⟨rfl, ⟨rfl, trivial⟩⟩⟩ ?_
          exact k4 (S0 1046 ((S0 1048 x2.toNat).toNat)) (x2 + 1) S G_S F_S (by omega) (by omega) (by omega)
        · refine zz_aload_n (x := 1042) rfl zd_10_11_33 ?_
          refine zz_getr (kd := 0) (z := 1046) zd_10_11_34 zf_Run_26 zT_1042 rfl (zz_ltn hn rfl) (zz_G.eq G_S 1042 4 1046 rfl rfl) (by decide) 1046 rfl ?_
          refine zz_iload_n (x := S0 1048 x2.toNat) rfl zd_10_11_37 ?_
          have g8 := zz_G.r G_S0 1046 ((S0 1048 x2.toNat).toNat) (-2147483648) 2147483647 rfl rfl
          refine zz_iald (z := S0 1046 ((S0 1048 x2.toNat).toNat)) zd_10_11_38 zT_1046 rfl (zz_ltn hn rfl) (by decide) (by omega) (zz_rc F_S (zz_nc1 rfl) rfl (fun h => h) rfl) ?_
          refine zz_iload_n (x := x1) rfl zd_10_11_39 ?_
          refine zz_icmp_ge (by omega) (by omega) zd_10_11_40 (fun c9 => ?_) (fun c9 => ?_)
          · refine zz_iinc [some (.ref 1042), some (zi x1), some (zi (x2 + 1)), some (zi (S0 1048 x2.toNat))] zd_10_11_50 rfl rfl ?_
            refine zz_goto zd_10_11_53 ?_
            refine zz_less (ls1 := [some (.ref 1042), some (zi x1), some (zi (x2 + 1))]) ⟨rfl, ⟨rfl, ⟨rfl, trivial⟩⟩⟩ ?_
            exact k4 x1 (x2 + 1) S G_S F_S (by omega) (by omega) (by omega)
          · refine zz_aload_n (x := 1042) rfl zd_10_11_43 ?_
            refine zz_getr (kd := 0) (z := 1046) zd_10_11_44 zf_Run_26 zT_1042 rfl (zz_ltn hn rfl) (zz_G.eq G_S 1042 4 1046 rfl rfl) (by decide) 1046 rfl ?_
            refine zz_iload_n (x := S0 1048 x2.toNat) rfl zd_10_11_47 ?_
            refine zz_iald (z := S0 1046 ((S0 1048 x2.toNat).toNat)) zd_10_11_48 zT_1046 rfl (zz_ltn hn rfl) (by decide) (by omega) (zz_rc F_S (zz_nc1 rfl) rfl (fun h => h) rfl) ?_
            refine zz_istore_n [some (.ref 1042), some (zi (S0 1046 ((S0 1048 x2.toNat).toNat))), some (zi x2), some (zi (S0 1048 x2.toNat))] zd_10_11_49 (by decide) rfl ?_
            refine zz_iinc [some (.ref 1042), some (zi (S0 1046 ((S0 1048 x2.toNat).toNat))), some (zi (x2 + 1)), some (zi (S0 1048 x2.toNat))] zd_10_11_50 rfl rfl ?_
            refine zz_goto zd_10_11_53 ?_
            refine zz_less (ls1 := [some (.ref 1042), some (zi (S0 1046 ((S0 1048 x2.toNat).toNat))), some (zi (x2 + 1))]) ⟨rfl, ⟨rfl, ⟨rfl, trivial⟩⟩⟩ ?_
            exact k4 (S0 1046 ((S0 1048 x2.toNat).toNat)) (x2 + 1) S G_S F_S (by omega) (by omega) (by omega)
theorem zi_soonestEnd_10_11 {g : mm_G} {l : Launch}  (S0 : zz_S) (n : Nat) (hn : zz_end ≤ n) (G_S0 : zz_G S0)  : ∀ N : Nat, (∀ (x1 : Int) (x2 : Int) (S : zz_S), zz_G S → zz_fr [] [] (fun _ _ => False) S0 S → ((-2147483648) ≤ x1 ∧ x1 ≤ 2147483647) → (0 ≤ x2 ∧ x2 ≤ 3) → (3 - x2).toNat < N → zz_E g l zy_soonestEnd_10_11 zr_soonestEnd_10_11 (zz_QI n (zp_soonestEnd_10_11  S0)) S n 4 [some (.ref 1042), some (zi x1), some (zi x2)] [] 0 0) := by
  intro N
  induction N with
  | zero => exact fun x1 x2 S _ _ _ _ h => absurd h (Nat.not_lt_zero _)
  | succ N ih =>
    exact fun x1 x2 S a b j0 j1 hR => zb_soonestEnd_10_11_4  S0 n hn G_S0  x1 x2 S a b j0 j1 _ rfl (fun x1 x2 S a b j0 j1 h => ih x1 x2 S a b j0 j1 (Nat.lt_of_lt_of_le h (Nat.le_of_lt_succ hR)))
theorem zc_soonestEnd_10_11 {g : mm_G} {l : Launch}  (S0 : zz_S) (n : Nat) (hn : zz_end ≤ n) (G_S0 : zz_G S0)  : mm_Met g l zy_soonestEnd_10_11 zr_soonestEnd_10_11 [.ref 1042] (zz_M S0 n) n (zz_QI n (zp_soonestEnd_10_11  S0)) := by
  refine zz_enter (by decide) (Nat.le_of_ble_eq_true rfl) (zz_less (ls1 := [some (.ref 1042)]) ⟨rfl, trivial⟩ ?_)
  have F_S0 : zz_fr [] [] (fun _ _ => False) S0 S0 := zz_fr.refl
  have k4 : ∀ (x1 : Int) (x2 : Int) (S : zz_S), zz_G S → zz_fr [] [] (fun _ _ => False) S0 S → ((-2147483648) ≤ x1 ∧ x1 ≤ 2147483647) → (0 ≤ x2 ∧ x2 ≤ 3) → zz_E g l zy_soonestEnd_10_11 zr_soonestEnd_10_11 (zz_QI n (zp_soonestEnd_10_11  S0)) S n 4 [some (.ref 1042), some (zi x1), some (zi x2)] [] 0 0 := fun x1 x2 S a b j0 j1 => (zi_soonestEnd_10_11 (g := g) (l := l)  S0 n hn G_S0  _) x1 x2 S a b j0 j1 (Nat.lt_succ_self _)
  refine zz_iconst zd_10_11_0 ?_
  refine zz_istore_n [some (.ref 1042), some (zi (-1))] zd_10_11_1 (by decide) rfl ?_
  refine zz_iconst zd_10_11_2 ?_
  refine zz_istore_n [some (.ref 1042), some (zi (-1)), some (zi 0)] zd_10_11_3 (by decide) rfl ?_
  refine zz_less (ls1 := [some (.ref 1042), some (zi (-1)), some (zi 0)]) ⟨rfl, ⟨rfl, ⟨rfl, trivial⟩⟩⟩ ?_
  exact k4 (-1) 0 S0 G_S0 F_S0 (by omega) (by omega)
theorem zk_Run_70 : mm_Vl "TensorForge$Run" 70 5 0 zy_soonestEnd_10_11 := ⟨zyw_soonestEnd_10_11, (R_Run, F_Run, 10), rfl, mm_tb_1 841 (by decide +kernel) rfl, mm_tb_1 843 (by decide +kernel) rfl, mm_tb_s 35 (by decide +kernel) rfl⟩
abbrev zy_leastNext_10_12 : mm_Y := (⟨"TensorForge$Run", "leastNext", "()I"⟩, prog_10_method_12_code, 3, (some .int))
theorem zyw_leastNext_10_12 : mm_Yw zy_leastNext_10_12 0 := ⟨mm_tb_1 848 (by decide +kernel) rfl, mm_tb_1 6 (by decide +kernel) rfl, ⟨by decide, by decide⟩, by decide +kernel⟩
theorem zg_10_2_74 : zq_at zy_follow_10_2.2.1 74 54 ∧ zq_at zy_follow_10_2.2.1 75 7 ∧ zq_at zy_follow_10_2.2.1 76 21 ∧ zq_at zy_follow_10_2.2.1 77 7 ∧ zq_at zy_follow_10_2.2.1 78 2 ∧ zq_at zy_follow_10_2.2.1 79 160 ∧ zq_at zy_follow_10_2.2.1 80 0 ∧ zq_at zy_follow_10_2.2.1 81 31 ∧ zq_at zy_follow_10_2.2.1 110 21 ∧ zq_at zy_follow_10_2.2.1 111 7 ∧ zq_at zy_follow_10_2.2.1 112 54 ∧ zq_at zy_follow_10_2.2.1 113 4 ∧ zq_at zy_follow_10_2.2.1 114 132 ∧ zq_at zy_follow_10_2.2.1 115 5 ∧ zq_at zy_follow_10_2.2.1 116 1 ∧ zq_at zy_follow_10_2.2.1 117 167 ∧ zq_at zy_follow_10_2.2.1 118 255 ∧ zq_at zy_follow_10_2.2.1 119 169 ∧ zq_at zy_follow_10_2.2.1 82 42 ∧ zq_at zy_follow_10_2.2.1 83 182 ∧ zq_at zy_follow_10_2.2.1 84 0 ∧ zq_at zy_follow_10_2.2.1 85 73 := by decide +kernel
theorem zd_10_2_74 : zz_D zy_follow_10_2 74 (.istore 7) 2 76 := ⟨zq_54 zg_10_2_74.1 zg_10_2_74.2.1, rfl⟩
theorem zd_10_2_76 : zz_D zy_follow_10_2 76 (.iload 7) 2 78 := ⟨zq_21 zg_10_2_74.2.2.1 zg_10_2_74.2.2.2.1, rfl⟩
theorem zd_10_2_78 : zz_D zy_follow_10_2 78 (.iconst (-1)) 1 79 := ⟨zq_2 zg_10_2_74.2.2.2.2.1, rfl⟩
theorem zd_10_2_79 : zz_B zy_follow_10_2 79 (Instr.if_icmp .ne) 110 82 := ⟨31, zq_160 zg_10_2_74.2.2.2.2.2.1 zg_10_2_74.2.2.2.2.2.2.1 zg_10_2_74.2.2.2.2.2.2.2.1 (by decide), rfl, rfl⟩
theorem zd_10_2_110 : zz_D zy_follow_10_2 110 (.iload 7) 2 112 := ⟨zq_21 zg_10_2_74.2.2.2.2.2.2.2.2.1 zg_10_2_74.2.2.2.2.2.2.2.2.2.1, rfl⟩
theorem zd_10_2_112 : zz_D zy_follow_10_2 112 (.istore 4) 2 114 := ⟨zq_54 zg_10_2_74.2.2.2.2.2.2.2.2.2.2.1 zg_10_2_74.2.2.2.2.2.2.2.2.2.2.2.1, rfl⟩
theorem zd_10_2_114 : zz_D zy_follow_10_2 114 (.iinc 5 1) 3 117 := ⟨zq_132 zg_10_2_74.2.2.2.2.2.2.2.2.2.2.2.2.1 zg_10_2_74.2.2.2.2.2.2.2.2.2.2.2.2.2.1 zg_10_2_74.2.2.2.2.2.2.2.2.2.2.2.2.2.2.1 (by decide), rfl⟩
theorem zd_10_2_117 : zz_B zy_follow_10_2 117 Instr.goto 30 120 := ⟨(-87), zq_167 zg_10_2_74.2.2.2.2.2.2.2.2.2.2.2.2.2.2.2.1 zg_10_2_74.2.2.2.2.2.2.2.2.2.2.2.2.2.2.2.2.1 zg_10_2_74.2.2.2.2.2.2.2.2.2.2.2.2.2.2.2.2.2.1 (by decide), rfl, rfl⟩
theorem zd_10_2_82 : zz_D zy_follow_10_2 82 (.aload_n 0) 1 83 := ⟨zq_42 zg_10_2_74.2.2.2.2.2.2.2.2.2.2.2.2.2.2.2.2.2.2.1, rfl⟩
theorem zd_10_2_83 : zz_D zy_follow_10_2 83 (.invokevirtual 73) 3 86 := ⟨zq_182 zg_10_2_74.2.2.2.2.2.2.2.2.2.2.2.2.2.2.2.2.2.2.2.1 zg_10_2_74.2.2.2.2.2.2.2.2.2.2.2.2.2.2.2.2.2.2.2.2.1 zg_10_2_74.2.2.2.2.2.2.2.2.2.2.2.2.2.2.2.2.2.2.2.2.2 rfl, rfl⟩
theorem zg_10_12_0 : zq_at zy_leastNext_10_12.2.1 0 2 ∧ zq_at zy_leastNext_10_12.2.1 1 60 ∧ zq_at zy_leastNext_10_12.2.1 2 3 ∧ zq_at zy_leastNext_10_12.2.1 3 61 ∧ zq_at zy_leastNext_10_12.2.1 4 28 ∧ zq_at zy_leastNext_10_12.2.1 5 6 ∧ zq_at zy_leastNext_10_12.2.1 6 162 ∧ zq_at zy_leastNext_10_12.2.1 7 0 ∧ zq_at zy_leastNext_10_12.2.1 8 41 ∧ zq_at zy_leastNext_10_12.2.1 9 42 ∧ zq_at zy_leastNext_10_12.2.1 10 180 ∧ zq_at zy_leastNext_10_12.2.1 11 0 ∧ zq_at zy_leastNext_10_12.2.1 12 29 ∧ zq_at zy_leastNext_10_12.2.1 13 28 ∧ zq_at zy_leastNext_10_12.2.1 14 46 ∧ zq_at zy_leastNext_10_12.2.1 15 2 ∧ zq_at zy_leastNext_10_12.2.1 16 159 ∧ zq_at zy_leastNext_10_12.2.1 17 0 ∧ zq_at zy_leastNext_10_12.2.1 18 25 ∧ zq_at zy_leastNext_10_12.2.1 41 132 ∧ zq_at zy_leastNext_10_12.2.1 42 2 ∧ zq_at zy_leastNext_10_12.2.1 43 1 := by decide +kernel
theorem zd_10_12_0 : zz_D zy_leastNext_10_12 0 (.iconst (-1)) 1 1 := ⟨zq_2 zg_10_12_0.1, rfl⟩
theorem zd_10_12_1 : zz_D zy_leastNext_10_12 1 (.istore_n 1) 1 2 := ⟨zq_60 zg_10_12_0.2.1, rfl⟩
theorem zd_10_12_2 : zz_D zy_leastNext_10_12 2 (.iconst 0) 1 3 := ⟨zq_3 zg_10_12_0.2.2.1, rfl⟩
theorem zd_10_12_3 : zz_D zy_leastNext_10_12 3 (.istore_n 2) 1 4 := ⟨zq_61 zg_10_12_0.2.2.2.1, rfl⟩
theorem zd_10_12_4 : zz_D zy_leastNext_10_12 4 (.iload_n 2) 1 5 := ⟨zq_28 zg_10_12_0.2.2.2.2.1, rfl⟩
theorem zd_10_12_5 : zz_D zy_leastNext_10_12 5 (.iconst 3) 1 6 := ⟨zq_6 zg_10_12_0.2.2.2.2.2.1, rfl⟩
theorem zd_10_12_6 : zz_B zy_leastNext_10_12 6 (Instr.if_icmp .ge) 47 9 := ⟨41, zq_162 zg_10_12_0.2.2.2.2.2.2.1 zg_10_12_0.2.2.2.2.2.2.2.1 zg_10_12_0.2.2.2.2.2.2.2.2.1 (by decide), rfl, rfl⟩
theorem zd_10_12_9 : zz_D zy_leastNext_10_12 9 (.aload_n 0) 1 10 := ⟨zq_42 zg_10_12_0.2.2.2.2.2.2.2.2.2.1, rfl⟩
theorem zd_10_12_10 : zz_D zy_leastNext_10_12 10 (.getfield 29) 3 13 := ⟨zq_180 zg_10_12_0.2.2.2.2.2.2.2.2.2.2.1 zg_10_12_0.2.2.2.2.2.2.2.2.2.2.2.1 zg_10_12_0.2.2.2.2.2.2.2.2.2.2.2.2.1 rfl, rfl⟩
theorem zd_10_12_13 : zz_D zy_leastNext_10_12 13 (.iload_n 2) 1 14 := ⟨zq_28 zg_10_12_0.2.2.2.2.2.2.2.2.2.2.2.2.2.1, rfl⟩
theorem zd_10_12_14 : zz_D zy_leastNext_10_12 14 (.iaload) 1 15 := ⟨zq_46 zg_10_12_0.2.2.2.2.2.2.2.2.2.2.2.2.2.2.1, rfl⟩
theorem zd_10_12_15 : zz_D zy_leastNext_10_12 15 (.iconst (-1)) 1 16 := ⟨zq_2 zg_10_12_0.2.2.2.2.2.2.2.2.2.2.2.2.2.2.2.1, rfl⟩
theorem zd_10_12_16 : zz_B zy_leastNext_10_12 16 (Instr.if_icmp .eq) 41 19 := ⟨25, zq_159 zg_10_12_0.2.2.2.2.2.2.2.2.2.2.2.2.2.2.2.2.1 zg_10_12_0.2.2.2.2.2.2.2.2.2.2.2.2.2.2.2.2.2.1 zg_10_12_0.2.2.2.2.2.2.2.2.2.2.2.2.2.2.2.2.2.2.1 (by decide), rfl, rfl⟩
theorem zd_10_12_41 : zz_D zy_leastNext_10_12 41 (.iinc 2 1) 3 44 := ⟨zq_132 zg_10_12_0.2.2.2.2.2.2.2.2.2.2.2.2.2.2.2.2.2.2.2.1 zg_10_12_0.2.2.2.2.2.2.2.2.2.2.2.2.2.2.2.2.2.2.2.2.1 zg_10_12_0.2.2.2.2.2.2.2.2.2.2.2.2.2.2.2.2.2.2.2.2.2 (by decide), rfl⟩
theorem zg_10_12_44 : zq_at zy_leastNext_10_12.2.1 44 167 ∧ zq_at zy_leastNext_10_12.2.1 45 255 ∧ zq_at zy_leastNext_10_12.2.1 46 216 ∧ zq_at zy_leastNext_10_12.2.1 19 27 ∧ zq_at zy_leastNext_10_12.2.1 20 2 ∧ zq_at zy_leastNext_10_12.2.1 21 159 ∧ zq_at zy_leastNext_10_12.2.1 22 0 ∧ zq_at zy_leastNext_10_12.2.1 23 13 ∧ zq_at zy_leastNext_10_12.2.1 34 42 ∧ zq_at zy_leastNext_10_12.2.1 35 180 ∧ zq_at zy_leastNext_10_12.2.1 36 0 ∧ zq_at zy_leastNext_10_12.2.1 37 29 ∧ zq_at zy_leastNext_10_12.2.1 38 28 ∧ zq_at zy_leastNext_10_12.2.1 39 46 ∧ zq_at zy_leastNext_10_12.2.1 40 60 ∧ zq_at zy_leastNext_10_12.2.1 24 42 ∧ zq_at zy_leastNext_10_12.2.1 25 180 ∧ zq_at zy_leastNext_10_12.2.1 26 0 ∧ zq_at zy_leastNext_10_12.2.1 27 29 ∧ zq_at zy_leastNext_10_12.2.1 28 28 ∧ zq_at zy_leastNext_10_12.2.1 29 46 ∧ zq_at zy_leastNext_10_12.2.1 30 27 := by decide +kernel
theorem zd_10_12_44 : zz_B zy_leastNext_10_12 44 Instr.goto 4 47 := ⟨(-40), zq_167 zg_10_12_44.1 zg_10_12_44.2.1 zg_10_12_44.2.2.1 (by decide), rfl, rfl⟩
theorem zd_10_12_19 : zz_D zy_leastNext_10_12 19 (.iload_n 1) 1 20 := ⟨zq_27 zg_10_12_44.2.2.2.1, rfl⟩
theorem zd_10_12_20 : zz_D zy_leastNext_10_12 20 (.iconst (-1)) 1 21 := ⟨zq_2 zg_10_12_44.2.2.2.2.1, rfl⟩
theorem zd_10_12_21 : zz_B zy_leastNext_10_12 21 (Instr.if_icmp .eq) 34 24 := ⟨13, zq_159 zg_10_12_44.2.2.2.2.2.1 zg_10_12_44.2.2.2.2.2.2.1 zg_10_12_44.2.2.2.2.2.2.2.1 (by decide), rfl, rfl⟩
theorem zd_10_12_34 : zz_D zy_leastNext_10_12 34 (.aload_n 0) 1 35 := ⟨zq_42 zg_10_12_44.2.2.2.2.2.2.2.2.1, rfl⟩
theorem zd_10_12_35 : zz_D zy_leastNext_10_12 35 (.getfield 29) 3 38 := ⟨zq_180 zg_10_12_44.2.2.2.2.2.2.2.2.2.1 zg_10_12_44.2.2.2.2.2.2.2.2.2.2.1 zg_10_12_44.2.2.2.2.2.2.2.2.2.2.2.1 rfl, rfl⟩
theorem zd_10_12_38 : zz_D zy_leastNext_10_12 38 (.iload_n 2) 1 39 := ⟨zq_28 zg_10_12_44.2.2.2.2.2.2.2.2.2.2.2.2.1, rfl⟩
theorem zd_10_12_39 : zz_D zy_leastNext_10_12 39 (.iaload) 1 40 := ⟨zq_46 zg_10_12_44.2.2.2.2.2.2.2.2.2.2.2.2.2.1, rfl⟩
theorem zd_10_12_40 : zz_D zy_leastNext_10_12 40 (.istore_n 1) 1 41 := ⟨zq_60 zg_10_12_44.2.2.2.2.2.2.2.2.2.2.2.2.2.2.1, rfl⟩
theorem zd_10_12_24 : zz_D zy_leastNext_10_12 24 (.aload_n 0) 1 25 := ⟨zq_42 zg_10_12_44.2.2.2.2.2.2.2.2.2.2.2.2.2.2.2.1, rfl⟩
theorem zd_10_12_25 : zz_D zy_leastNext_10_12 25 (.getfield 29) 3 28 := ⟨zq_180 zg_10_12_44.2.2.2.2.2.2.2.2.2.2.2.2.2.2.2.2.1 zg_10_12_44.2.2.2.2.2.2.2.2.2.2.2.2.2.2.2.2.2.1 zg_10_12_44.2.2.2.2.2.2.2.2.2.2.2.2.2.2.2.2.2.2.1 rfl, rfl⟩
theorem zd_10_12_28 : zz_D zy_leastNext_10_12 28 (.iload_n 2) 1 29 := ⟨zq_28 zg_10_12_44.2.2.2.2.2.2.2.2.2.2.2.2.2.2.2.2.2.2.2.1, rfl⟩
theorem zd_10_12_29 : zz_D zy_leastNext_10_12 29 (.iaload) 1 30 := ⟨zq_46 zg_10_12_44.2.2.2.2.2.2.2.2.2.2.2.2.2.2.2.2.2.2.2.2.1, rfl⟩
theorem zd_10_12_30 : zz_D zy_leastNext_10_12 30 (.iload_n 1) 1 31 := ⟨zq_27 zg_10_12_44.2.2.2.2.2.2.2.2.2.2.2.2.2.2.2.2.2.2.2.2.2, rfl⟩
theorem zg_10_12_31 : zq_at zy_leastNext_10_12.2.1 31 162 ∧ zq_at zy_leastNext_10_12.2.1 32 0 ∧ zq_at zy_leastNext_10_12.2.1 33 10 ∧ zq_at zy_leastNext_10_12.2.1 47 27 ∧ zq_at zy_leastNext_10_12.2.1 48 172 := by decide +kernel
theorem zd_10_12_31 : zz_B zy_leastNext_10_12 31 (Instr.if_icmp .ge) 41 34 := ⟨10, zq_162 zg_10_12_31.1 zg_10_12_31.2.1 zg_10_12_31.2.2.1 (by decide), rfl, rfl⟩
theorem zd_10_12_47 : zz_D zy_leastNext_10_12 47 (.iload_n 1) 1 48 := ⟨zq_27 zg_10_12_31.2.2.2.1, rfl⟩
theorem zd_10_12_48 : zz_D zy_leastNext_10_12 48 (.ireturn) 1 49 := ⟨zq_172 zg_10_12_31.2.2.2.2, rfl⟩
-- TensorForge$Run leastNext ()I
abbrev zr_leastNext_10_12 : Room := { frames := 0, cells := 0, slots := 0, locals := 0 }
def zp_leastNext_10_12  (S0 : zz_S) : Int → zz_S → Prop := fun r S => S0 = S ∧ ((-2147483648) ≤ r ∧ r ≤ 2147483647)
theorem zb_leastNext_10_12_4 {g : mm_G} {l : Launch}  (S0 : zz_S) (n : Nat) (hn : zz_end ≤ n) (G_S0 : zz_G S0)  (x1 : Int) (x2 : Int) (S : zz_S) (G_S : zz_G S) (F_S : zz_fr [] [] (fun _ _ => False) S0 S) (i4_0 : (-1) ≤ x1 ∧ x1 ≤ 600) (i4_1 : 0 ≤ x2 ∧ x2 ≤ 3) (R : Nat) (hR : (3 - x2).toNat = R) (k4 : ∀ (x1 : Int) (x2 : Int) (S : zz_S), zz_G S → zz_fr [] [] (fun _ _ => False) S0 S → ((-1) ≤ x1 ∧ x1 ≤ 600) → (0 ≤ x2 ∧ x2 ≤ 3) → (3 - x2).toNat < R → zz_E g l zy_leastNext_10_12 zr_leastNext_10_12 (zz_QI n (zp_leastNext_10_12  S0)) S n 4 [some (.ref 1042), some (zi x1), some (zi x2)] [] 0 0) : zz_E g l zy_leastNext_10_12 zr_leastNext_10_12 (zz_QI n (zp_leastNext_10_12  S0)) S n 4 [some (.ref 1042), some (zi x1), some (zi x2)] [] 0 0 := by
  refine zz_iload_n (x := x2) rfl zd_10_12_4 ?_
  refine zz_iconst zd_10_12_5 ?_
  refine zz_icmp_ge (by omega) (by omega) zd_10_12_6 (fun c1 => ?_) (fun c1 => ?_)
  · refine zz_iload_n (x := x1) rfl zd_10_12_47 ?_
    exact zz_iret zd_10_12_48 rfl (Nat.zero_le _) (Nat.zero_le _) ⟨_, _, rfl, zz_fr.eq F_S, by omega⟩
  · refine zz_aload_n (x := 1042) rfl zd_10_12_9 ?_
    refine zz_getr (kd := 0) (z := 1047) zd_10_12_10 zf_Run_29 zT_1042 rfl (zz_ltn hn rfl) (zz_G.eq G_S 1042 5 1047 rfl rfl) (by decide) 1047 rfl ?_
    refine zz_iload_n (x := x2) rfl zd_10_12_13 ?_
    have g2 := zz_G.r G_S0 1047 x2.toNat (-1) 600 rfl rfl
    refine zz_iald (z := S0 1047 x2.toNat) zd_10_12_14 zT_1047 rfl (zz_ltn hn rfl) (by decide) (by omega) (zz_rc F_S (zz_nc1 rfl) rfl (fun h => h) rfl) ?_
    refine zz_iconst zd_10_12_15 ?_
    refine zz_icmp_eq (by omega) (by omega) zd_10_12_16 (fun c3 => ?_) (fun c3 => ?_)
    · refine zz_iinc [some (.ref 1042), some (zi x1), some (zi (x2 + 1))] zd_10_12_41 rfl rfl ?_
      refine zz_goto zd_10_12_44 ?_
      refine zz_less (ls1 := [some (.ref 1042), some (zi x1), some (zi (x2 + 1))]) ⟨rfl, ⟨rfl, ⟨rfl, trivial⟩⟩⟩ ?_
      exact k4 x1 (x2 + 1) S G_S F_S (by omega) (by omega) (by omega)
    · refine zz_iload_n (x := x1) rfl zd_10_12_19 ?_
      refine zz_iconst zd_10_12_20 ?_
      refine zz_icmp_eq (by omega) (by omega) zd_10_12_21 (fun c4 => ?_) (fun c4 => ?_)
      · refine zz_aload_n (x := 1042) rfl zd_10_12_34 ?_
        refine zz_getr (kd := 0) (z := 1047) zd_10_12_35 zf_Run_29 zT_1042 rfl (zz_ltn hn rfl) (zz_G.eq G_S 1042 5 1047 rfl rfl) (by decide) 1047 rfl ?_
        refine zz_iload_n (x := x2) rfl zd_10_12_38 ?_
        refine zz_iald (z := S0 1047 x2.toNat) zd_10_12_39 zT_1047 rfl (zz_ltn hn rfl) (by decide) (by omega) (zz_rc F_S (zz_nc1 rfl) rfl (fun h => h) rfl) ?_
        refine zz_istore_n [some (.ref 1042), some (zi (S0 1047 x2.toNat)), some (zi x2)] zd_10_12_40 (by decide) rfl ?_
        refine zz_iinc [some (.ref 1042), some (zi (S0 1047 x2.toNat)), some (zi (x2 + 1))] zd_10_12_41 rfl rfl ?_
        refine zz_goto zd_10_12_44 ?_
        refine zz_less (ls1 := [some (.ref 1042), some (zi (S0 1047 x2.toNat)), some (zi (x2 + 1))]) ⟨rfl, ⟨rfl, ⟨rfl, trivial⟩⟩⟩ ?_
        exact k4 (S0 1047 x2.toNat) (x2 + 1) S G_S F_S (by omega) (by omega) (by omega)
      · refine zz_aload_n (x := 1042) rfl zd_10_12_24 ?_
        refine zz_getr (kd := 0) (z := 1047) zd_10_12_25 zf_Run_29 zT_1042 rfl (zz_ltn hn rfl) (zz_G.eq G_S 1042 5 1047 rfl rfl) (by decide) 1047 rfl ?_
        refine zz_iload_n (x := x2) rfl zd_10_12_28 ?_
        refine zz_iald (z := S0 1047 x2.toNat) zd_10_12_29 zT_1047 rfl (zz_ltn hn rfl) (by decide) (by omega) (zz_rc F_S (zz_nc1 rfl) rfl (fun h => h) rfl) ?_
        refine zz_iload_n (x := x1) rfl zd_10_12_30 ?_
        refine zz_icmp_ge (by omega) (by omega) zd_10_12_31 (fun c5 => ?_) (fun c5 => ?_)
        · refine zz_iinc [some (.ref 1042), some (zi x1), some (zi (x2 + 1))] zd_10_12_41 rfl rfl ?_
          refine zz_goto zd_10_12_44 ?_
          refine zz_less (ls1 := [some (.ref 1042), some (zi x1), some (zi (x2 + 1))]) ⟨rfl, ⟨rfl, ⟨rfl, trivial⟩⟩⟩ ?_
          exact k4 x1 (x2 + 1) S G_S F_S (by omega) (by omega) (by omega)
        · refine zz_aload_n (x := 1042) rfl zd_10_12_34 ?_
          refine zz_getr (kd := 0) (z := 1047) zd_10_12_35 zf_Run_29 zT_1042 rfl (zz_ltn hn rfl) (zz_G.eq G_S 1042 5 1047 rfl rfl) (by decide) 1047 rfl ?_
          refine zz_iload_n (x := x2) rfl zd_10_12_38 ?_
          refine zz_iald (z := S0 1047 x2.toNat) zd_10_12_39 zT_1047 rfl (zz_ltn hn rfl) (by decide) (by omega) (zz_rc F_S (zz_nc1 rfl) rfl (fun h => h) rfl) ?_
          refine zz_istore_n [some (.ref 1042), some (zi (S0 1047 x2.toNat)), some (zi x2)] zd_10_12_40 (by decide) rfl ?_
          refine zz_iinc [some (.ref 1042), some (zi (S0 1047 x2.toNat)), some (zi (x2 + 1))] zd_10_12_41 rfl rfl ?_
          refine zz_goto zd_10_12_44 ?_
          refine zz_less (ls1 := [some (.ref 1042), some (zi (S0 1047 x2.toNat)), some (zi (x2 + 1))]) ⟨rfl, ⟨rfl, ⟨rfl, trivial⟩⟩⟩ ?_
          exact k4 (S0 1047 x2.toNat) (x2 + 1) S G_S F_S (by omega) (by omega) (by omega)
theorem zi_leastNext_10_12 {g : mm_G} {l : Launch}  (S0 : zz_S) (n : Nat) (hn : zz_end ≤ n) (G_S0 : zz_G S0)  : ∀ N : Nat, (∀ (x1 : Int) (x2 : Int) (S : zz_S), zz_G S → zz_fr [] [] (fun _ _ => False) S0 S → ((-1) ≤ x1 ∧ x1 ≤ 600) → (0 ≤ x2 ∧ x2 ≤ 3) → (3 - x2).toNat < N → zz_E g l zy_leastNext_10_12 zr_leastNext_10_12 (zz_QI n (zp_leastNext_10_12  S0)) S n 4 [some (.ref 1042), some (zi x1), some (zi x2)] [] 0 0) := by
  intro N
  induction N with
  | zero => exact fun x1 x2 S _ _ _ _ h => absurd h (Nat.not_lt_zero _)
  | succ N ih =>
    exact fun x1 x2 S a b j0 j1 hR => zb_leastNext_10_12_4  S0 n hn G_S0  x1 x2 S a b j0 j1 _ rfl (fun x1 x2 S a b j0 j1 h => ih x1 x2 S a b j0 j1 (Nat.lt_of_lt_of_le h (Nat.le_of_lt_succ hR)))
theorem zc_leastNext_10_12 {g : mm_G} {l : Launch}  (S0 : zz_S) (n : Nat) (hn : zz_end ≤ n) (G_S0 : zz_G S0)  : mm_Met g l zy_leastNext_10_12 zr_leastNext_10_12 [.ref 1042] (zz_M S0 n) n (zz_QI n (zp_leastNext_10_12  S0)) := by
  refine zz_enter (by decide) (Nat.le_of_ble_eq_true rfl) (zz_less (ls1 := [some (.ref 1042)]) ⟨rfl, trivial⟩ ?_)
  have F_S0 : zz_fr [] [] (fun _ _ => False) S0 S0 := zz_fr.refl
  have k4 : ∀ (x1 : Int) (x2 : Int) (S : zz_S), zz_G S → zz_fr [] [] (fun _ _ => False) S0 S → ((-1) ≤ x1 ∧ x1 ≤ 600) → (0 ≤ x2 ∧ x2 ≤ 3) → zz_E g l zy_leastNext_10_12 zr_leastNext_10_12 (zz_QI n (zp_leastNext_10_12  S0)) S n 4 [some (.ref 1042), some (zi x1), some (zi x2)] [] 0 0 := fun x1 x2 S a b j0 j1 => (zi_leastNext_10_12 (g := g) (l := l)  S0 n hn G_S0  _) x1 x2 S a b j0 j1 (Nat.lt_succ_self _)
  refine zz_iconst zd_10_12_0 ?_
  refine zz_istore_n [some (.ref 1042), some (zi (-1))] zd_10_12_1 (by decide) rfl ?_
  refine zz_iconst zd_10_12_2 ?_
  refine zz_istore_n [some (.ref 1042), some (zi (-1)), some (zi 0)] zd_10_12_3 (by decide) rfl ?_
  refine zz_less (ls1 := [some (.ref 1042), some (zi (-1)), some (zi 0)]) ⟨rfl, ⟨rfl, ⟨rfl, trivial⟩⟩⟩ ?_
  exact k4 (-1) 0 S0 G_S0 F_S0 (by omega) (by omega)
theorem zk_Run_73 : mm_Vl "TensorForge$Run" 73 5 0 zy_leastNext_10_12 := ⟨zyw_leastNext_10_12, (R_Run, F_Run, 10), rfl, mm_tb_1 845 (by decide +kernel) rfl, mm_tb_1 847 (by decide +kernel) rfl, mm_tb_s 36 (by decide +kernel) rfl⟩
theorem zq_Run_76 : Cond.constant "TensorForge$Run" 76 (2000000000 : Int32) ∈ mm_tb := mm_tb_1 849 (by decide +kernel) rfl
theorem zg_10_2_86 : zq_at zy_follow_10_2.2.1 86 54 ∧ zq_at zy_follow_10_2.2.1 87 8 ∧ zq_at zy_follow_10_2.2.1 88 42 ∧ zq_at zy_follow_10_2.2.1 89 21 ∧ zq_at zy_follow_10_2.2.1 90 8 ∧ zq_at zy_follow_10_2.2.1 91 2 ∧ zq_at zy_follow_10_2.2.1 92 160 ∧ zq_at zy_follow_10_2.2.1 93 0 ∧ zq_at zy_follow_10_2.2.1 94 7 ∧ zq_at zy_follow_10_2.2.1 99 7 ∧ zq_at zy_follow_10_2.2.1 100 21 ∧ zq_at zy_follow_10_2.2.1 101 8 ∧ zq_at zy_follow_10_2.2.1 102 21 ∧ zq_at zy_follow_10_2.2.1 103 4 ∧ zq_at zy_follow_10_2.2.1 104 182 ∧ zq_at zy_follow_10_2.2.1 105 0 ∧ zq_at zy_follow_10_2.2.1 106 58 ∧ zq_at zy_follow_10_2.2.1 107 167 ∧ zq_at zy_follow_10_2.2.1 108 0 ∧ zq_at zy_follow_10_2.2.1 109 13 ∧ zq_at zy_follow_10_2.2.1 120 42 ∧ zq_at zy_follow_10_2.2.1 121 18 ∧ zq_at zy_follow_10_2.2.1 122 76 := by decide +kernel
theorem zd_10_2_86 : zz_D zy_follow_10_2 86 (.istore 8) 2 88 := ⟨zq_54 zg_10_2_86.1 zg_10_2_86.2.1, rfl⟩
theorem zd_10_2_88 : zz_D zy_follow_10_2 88 (.aload_n 0) 1 89 := ⟨zq_42 zg_10_2_86.2.2.1, rfl⟩
theorem zd_10_2_89 : zz_D zy_follow_10_2 89 (.iload 8) 2 91 := ⟨zq_21 zg_10_2_86.2.2.2.1 zg_10_2_86.2.2.2.2.1, rfl⟩
theorem zd_10_2_91 : zz_D zy_follow_10_2 91 (.iconst (-1)) 1 92 := ⟨zq_2 zg_10_2_86.2.2.2.2.2.1, rfl⟩
theorem zd_10_2_92 : zz_B zy_follow_10_2 92 (Instr.if_icmp .ne) 99 95 := ⟨7, zq_160 zg_10_2_86.2.2.2.2.2.2.1 zg_10_2_86.2.2.2.2.2.2.2.1 zg_10_2_86.2.2.2.2.2.2.2.2.1 (by decide), rfl, rfl⟩
theorem zd_10_2_99 : zz_D zy_follow_10_2 99 (.iconst 4) 1 100 := ⟨zq_7 zg_10_2_86.2.2.2.2.2.2.2.2.2.1, rfl⟩
theorem zd_10_2_100 : zz_D zy_follow_10_2 100 (.iload 8) 2 102 := ⟨zq_21 zg_10_2_86.2.2.2.2.2.2.2.2.2.2.1 zg_10_2_86.2.2.2.2.2.2.2.2.2.2.2.1, rfl⟩
theorem zd_10_2_102 : zz_D zy_follow_10_2 102 (.iload 4) 2 104 := ⟨zq_21 zg_10_2_86.2.2.2.2.2.2.2.2.2.2.2.2.1 zg_10_2_86.2.2.2.2.2.2.2.2.2.2.2.2.2.1, rfl⟩
theorem zd_10_2_104 : zz_D zy_follow_10_2 104 (.invokevirtual 58) 3 107 := ⟨zq_182 zg_10_2_86.2.2.2.2.2.2.2.2.2.2.2.2.2.2.1 zg_10_2_86.2.2.2.2.2.2.2.2.2.2.2.2.2.2.2.1 zg_10_2_86.2.2.2.2.2.2.2.2.2.2.2.2.2.2.2.2.1 rfl, rfl⟩
theorem zd_10_2_107 : zz_B zy_follow_10_2 107 Instr.goto 120 110 := ⟨13, zq_167 zg_10_2_86.2.2.2.2.2.2.2.2.2.2.2.2.2.2.2.2.2.1 zg_10_2_86.2.2.2.2.2.2.2.2.2.2.2.2.2.2.2.2.2.2.1 zg_10_2_86.2.2.2.2.2.2.2.2.2.2.2.2.2.2.2.2.2.2.2.1 (by decide), rfl, rfl⟩
theorem zd_10_2_120 : zz_D zy_follow_10_2 120 (.aload_n 0) 1 121 := ⟨zq_42 zg_10_2_86.2.2.2.2.2.2.2.2.2.2.2.2.2.2.2.2.2.2.2.2.1, rfl⟩
theorem zd_10_2_121 : zz_D zy_follow_10_2 121 (.ldc 76) 2 123 := ⟨zq_18 zg_10_2_86.2.2.2.2.2.2.2.2.2.2.2.2.2.2.2.2.2.2.2.2.2.1 zg_10_2_86.2.2.2.2.2.2.2.2.2.2.2.2.2.2.2.2.2.2.2.2.2.2, rfl⟩
theorem zg_10_2_123 : zq_at zy_follow_10_2.2.1 123 182 ∧ zq_at zy_follow_10_2.2.1 124 0 ∧ zq_at zy_follow_10_2.2.1 125 62 ∧ zq_at zy_follow_10_2.2.1 126 177 ∧ zq_at zy_follow_10_2.2.1 95 4 ∧ zq_at zy_follow_10_2.2.1 96 167 ∧ zq_at zy_follow_10_2.2.1 97 0 ∧ zq_at zy_follow_10_2.2.1 98 4 ∧ zq_at zy_follow_10_2.2.1 58 42 ∧ zq_at zy_follow_10_2.2.1 59 6 ∧ zq_at zy_follow_10_2.2.1 60 21 ∧ zq_at zy_follow_10_2.2.1 61 6 ∧ zq_at zy_follow_10_2.2.1 62 21 ∧ zq_at zy_follow_10_2.2.1 63 4 ∧ zq_at zy_follow_10_2.2.1 64 182 ∧ zq_at zy_follow_10_2.2.1 65 0 ∧ zq_at zy_follow_10_2.2.1 66 58 ∧ zq_at zy_follow_10_2.2.1 67 167 ∧ zq_at zy_follow_10_2.2.1 68 0 ∧ zq_at zy_follow_10_2.2.1 69 53 := by decide +kernel
theorem zd_10_2_123 : zz_D zy_follow_10_2 123 (.invokevirtual 62) 3 126 := ⟨zq_182 zg_10_2_123.1 zg_10_2_123.2.1 zg_10_2_123.2.2.1 rfl, rfl⟩
theorem zd_10_2_126 : zz_D zy_follow_10_2 126 (.return_) 1 127 := ⟨zq_177 zg_10_2_123.2.2.2.1, rfl⟩
theorem zd_10_2_95 : zz_D zy_follow_10_2 95 (.iconst 1) 1 96 := ⟨zq_4 zg_10_2_123.2.2.2.2.1, rfl⟩
theorem zd_10_2_96 : zz_B zy_follow_10_2 96 Instr.goto 100 99 := ⟨4, zq_167 zg_10_2_123.2.2.2.2.2.1 zg_10_2_123.2.2.2.2.2.2.1 zg_10_2_123.2.2.2.2.2.2.2.1 (by decide), rfl, rfl⟩
theorem zd_10_2_58 : zz_D zy_follow_10_2 58 (.aload_n 0) 1 59 := ⟨zq_42 zg_10_2_123.2.2.2.2.2.2.2.2.1, rfl⟩
theorem zd_10_2_59 : zz_D zy_follow_10_2 59 (.iconst 3) 1 60 := ⟨zq_6 zg_10_2_123.2.2.2.2.2.2.2.2.2.1, rfl⟩
theorem zd_10_2_60 : zz_D zy_follow_10_2 60 (.iload 6) 2 62 := ⟨zq_21 zg_10_2_123.2.2.2.2.2.2.2.2.2.2.1 zg_10_2_123.2.2.2.2.2.2.2.2.2.2.2.1, rfl⟩
theorem zd_10_2_62 : zz_D zy_follow_10_2 62 (.iload 4) 2 64 := ⟨zq_21 zg_10_2_123.2.2.2.2.2.2.2.2.2.2.2.2.1 zg_10_2_123.2.2.2.2.2.2.2.2.2.2.2.2.2.1, rfl⟩
theorem zd_10_2_64 : zz_D zy_follow_10_2 64 (.invokevirtual 58) 3 67 := ⟨zq_182 zg_10_2_123.2.2.2.2.2.2.2.2.2.2.2.2.2.2.1 zg_10_2_123.2.2.2.2.2.2.2.2.2.2.2.2.2.2.2.1 zg_10_2_123.2.2.2.2.2.2.2.2.2.2.2.2.2.2.2.2.1 rfl, rfl⟩
theorem zd_10_2_67 : zz_B zy_follow_10_2 67 Instr.goto 120 70 := ⟨53, zq_167 zg_10_2_123.2.2.2.2.2.2.2.2.2.2.2.2.2.2.2.2.2.1 zg_10_2_123.2.2.2.2.2.2.2.2.2.2.2.2.2.2.2.2.2.2.1 zg_10_2_123.2.2.2.2.2.2.2.2.2.2.2.2.2.2.2.2.2.2.2 (by decide), rfl, rfl⟩
-- TensorForge$Run follow ([JI)V
abbrev zr_follow_10_2 : Room := { frames := 6, cells := 0, slots := 0, locals := 103 }
def zp_follow_10_2 (p0 : Int) (p1 : Int) (S0 : zz_S) : zz_S → Prop := fun S => zz_G S ∧ zz_fr [(1031, 7), (1031, 8), (1031, 9), (1031, 10), (1031, 11), (1031, 12), (1031, 13), (1038, 0), (1038, 1), (1038, 2), (1038, 3), (1038, 4), (1039, 0), (1039, 1), (1039, 2), (1039, 3), (1039, 4), (1040, 0), (1040, 1), (1040, 2), (1040, 3), (1040, 4), (1041, 0), (1041, 1), (1041, 2), (1041, 3), (1041, 4), (1042, 8), (1042, 9)] [1032, 1033, 1034, 1035, 1036, 1038, 1039, 1040, 1041, 1043, 1044, 1045, 1046, 1047, 1048, 1049, 1051, 1052, 1053, 1054, 1056, 1057, 1058, 1059, 1061, 1062, 1063, 1064, 1066, 1067, 1068, 1069] (fun _ _ => False) S0 S
theorem zb_follow_10_2_30 {g : mm_G} {l : Launch} (p0 : Int) (p1 : Int) (S0 : zz_S) (n : Nat) (hn : zz_end ≤ n) (G_S0 : zz_G S0) (hp0 : 0 ≤ p0 ∧ p0 ≤ 1) (hp1 : (-2147483648) ≤ p1 ∧ p1 ≤ 2147483647) (x4 : Int) (x5 : Int) (S : zz_S) (G_S : zz_G S) (F_S : zz_fr [(1031, 7), (1031, 8), (1031, 9), (1031, 10), (1031, 11), (1031, 12), (1031, 13), (1038, 0), (1038, 1), (1038, 2), (1038, 3), (1038, 4), (1039, 0), (1039, 1), (1039, 2), (1039, 3), (1039, 4), (1040, 0), (1040, 1), (1040, 2), (1040, 3), (1040, 4), (1041, 0), (1041, 1), (1041, 2), (1041, 3), (1041, 4), (1042, 8), (1042, 9)] [1032, 1033, 1034, 1035, 1036, 1038, 1039, 1040, 1041, 1043, 1044, 1045, 1046, 1047, 1048, 1049, 1051, 1052, 1053, 1054, 1056, 1057, 1058, 1059, 1061, 1062, 1063, 1064, 1066, 1067, 1068, 1069] (fun _ _ => False) S0 S) (i30_0 : (-2147483648) ≤ x4 ∧ x4 ≤ 2147483647) (i30_1 : 0 ≤ x5 ∧ x5 ≤ 602) (i30_2 : ∀ u : Nat, (u : Int) < S 1042 9 → zz_lcl (S 1044 u) (S0 1031 6)) (R : Nat) (hR : (601 + 1 - x5).toNat = R) (k30 : ∀ (x4 : Int) (x5 : Int) (S : zz_S), zz_G S → zz_fr [(1031, 7), (1031, 8), (1031, 9), (1031, 10), (1031, 11), (1031, 12), (1031, 13), (1038, 0), (1038, 1), (1038, 2), (1038, 3), (1038, 4), (1039, 0), (1039, 1), (1039, 2), (1039, 3), (1039, 4), (1040, 0), (1040, 1), (1040, 2), (1040, 3), (1040, 4), (1041, 0), (1041, 1), (1041, 2), (1041, 3), (1041, 4), (1042, 8), (1042, 9)] [1032, 1033, 1034, 1035, 1036, 1038, 1039, 1040, 1041, 1043, 1044, 1045, 1046, 1047, 1048, 1049, 1051, 1052, 1053, 1054, 1056, 1057, 1058, 1059, 1061, 1062, 1063, 1064, 1066, 1067, 1068, 1069] (fun _ _ => False) S0 S → ((-2147483648) ≤ x4 ∧ x4 ≤ 2147483647) → (0 ≤ x5 ∧ x5 ≤ 602) → (∀ u : Nat, (u : Int) < S 1042 9 → zz_lcl (S 1044 u) (S0 1031 6)) → (601 + 1 - x5).toNat < R → zz_E g l zy_follow_10_2 zr_follow_10_2 (zz_QV n (zp_follow_10_2 p0 p1 S0)) S n 30 [some (.ref 1042), none, none, none, some (zi x4), some (zi x5)] [] 0 0) : zz_E g l zy_follow_10_2 zr_follow_10_2 (zz_QV n (zp_follow_10_2 p0 p1 S0)) S n 30 [some (.ref 1042), none, none, none, some (zi x4), some (zi x5)] [] 0 0 := by
  have b_p0 := zz_rf4 (z := p0) (by omega)
  refine zz_iload (x := x5) rfl zd_10_2_30 ?_
  refine zz_sipush (by decide) zd_10_2_32 ?_
  refine zz_icmp_gt (by omega) (by omega) zd_10_2_35 (fun c14 => ?_) (fun c14 => ?_)
  · refine zz_aload_n (x := 1042) rfl zd_10_2_120 ?_
    refine zz_ldc (z := 2000000000) zq_Run_76 (by decide) zd_10_2_121 ?_
    refine zz_callVV [zi 2000000000] zd_10_2_123 zk_Run_62 zT_1042 (zz_ltn hn rfl) rfl rfl ⟨Nat.le_of_ble_eq_true rfl, Nat.le_of_ble_eq_true rfl⟩ ⟨rfl, rfl⟩ (Nat.zero_le _) (Nat.zero_le _) (zc_endUpTo_10_7 2000000000 S n hn G_S (by omega)) (fun S15 hP => ?_)
    obtain ⟨G_S15, fS15⟩ := hP
    have F_S15 := zz_fr.trans F_S fS15 rfl zz_nv
    exact zz_vret zd_10_2_126 rfl (Nat.zero_le _) (Nat.zero_le _) ⟨_, rfl, G_S15, F_S15⟩
  · refine zz_aload_n (x := 1042) rfl zd_10_2_38 ?_
    refine zz_iload (x := x4) rfl zd_10_2_39 ?_
    refine zz_callVV [zi x4] zd_10_2_41 zk_Run_62 zT_1042 (zz_ltn hn rfl) rfl rfl ⟨Nat.le_of_ble_eq_true rfl, Nat.le_of_ble_eq_true rfl⟩ ⟨rfl, rfl⟩ (Nat.zero_le _) (Nat.zero_le _) (zc_endUpTo_10_7 x4 S n hn G_S (by omega)) (fun S17 hP => ?_)
    obtain ⟨G_S17, fS17⟩ := hP
    have F_S17 := zz_fr.trans F_S fS17 rfl zz_nv
    refine zz_aload_n (x := 1042) rfl zd_10_2_44 ?_
    refine zz_iload (x := x4) rfl zd_10_2_45 ?_
    have g19 := zz_G.r G_S0 1031 6 2 8 rfl rfl
    have e20 : S17 1031 6 = S0 1031 6 := (zz_rc fS17 rfl rfl (fun h => h) (zz_rc F_S rfl rfl (fun h => h) rfl))
    have g21 := zz_G.r G_S 1042 9 0 600 rfl rfl
    have e22 : S17 1042 9 = S 1042 9 := (zz_rc fS17 rfl rfl (fun h => h) rfl)
    refine zz_callVI [zi x4] zd_10_2_47 zk_Run_66 zT_1042 (zz_ltn hn rfl) rfl rfl ⟨Nat.le_of_ble_eq_true rfl, Nat.le_of_ble_eq_true rfl⟩ ⟨rfl, rfl⟩ (Nat.zero_le _) (Nat.zero_le _) (zc_beginAt_10_8 x4 S17 n hn G_S17 (by omega) (fun u hu => by have h9 : S17 1042 9 = S 1042 9 := (zz_rc fS17 rfl rfl (fun h => h) rfl); have h8 := i30_2 u (by omega); rw [show S17 1044 u = S 1044 u from (zz_rc fS17 (zz_nc1 rfl) rfl (fun h => h) rfl)]; rw [show S17 1031 6 = S0 1031 6 from (zz_rc fS17 rfl rfl (fun h => h) (zz_rc F_S rfl rfl (fun h => h) rfl))]; exact h8)) (fun v24 S23 hP => ?_)
    obtain ⟨G_S23, fS23, o25⟩ := hP
    have F_S23 := zz_fr.trans F_S17 fS23 rfl zz_nv
    refine zz_istore [some (.ref 1042), none, none, none, some (zi x4), some (zi x5), some (zi v24)] zd_10_2_50 (by decide) rfl ?_
    refine zz_iload (x := v24) rfl zd_10_2_52 ?_
    refine zz_iconst zd_10_2_54 ?_
    refine zz_icmp_eq (by omega) (by omega) zd_10_2_55 (fun c26 => ?_) (fun c26 => ?_)
    · refine zz_aload_n (x := 1042) rfl zd_10_2_70 ?_
      refine zz_callVI [] zd_10_2_71 zk_Run_70 zT_1042 (zz_ltn hn rfl) rfl rfl ⟨Nat.le_of_ble_eq_true rfl, Nat.le_of_ble_eq_true rfl⟩ ⟨rfl, rfl⟩ (Nat.zero_le _) (Nat.zero_le _) (zc_soonestEnd_10_11  S23 n hn G_S23 ) (fun v28 S27 hP => ?_)
      obtain ⟨rfl, o29⟩ := hP
      refine zz_istore [some (.ref 1042), none, none, none, some (zi x4), some (zi x5), some (zi v24), some (zi v28)] zd_10_2_74 (by decide) rfl ?_
      refine zz_iload (x := v28) rfl zd_10_2_76 ?_
      refine zz_iconst zd_10_2_78 ?_
      refine zz_icmp_ne (by omega) (by omega) zd_10_2_79 (fun c30 => ?_) (fun c30 => ?_)
      · refine zz_iload (x := v28) rfl zd_10_2_110 ?_
        refine zz_istore [some (.ref 1042), none, none, none, some (zi v28), some (zi x5), some (zi v24), some (zi v28)] zd_10_2_112 (by decide) rfl ?_
        refine zz_iinc [some (.ref 1042), none, none, none, some (zi v28), some (zi (x5 + 1)), some (zi v24), some (zi v28)] zd_10_2_114 rfl rfl ?_
        refine zz_goto zd_10_2_117 ?_
        have e31 : S23 1042 9 = S 1042 9 := (zz_rc fS23 rfl rfl (fun h => h) (zz_rc fS17 rfl rfl (fun h => h) rfl))
        refine zz_less (ls1 := [some (.ref 1042), none, none, none, some (zi v28), some (zi (x5 + 1))]) ⟨rfl, ⟨rfl, ⟨rfl, trivial⟩⟩⟩ ?_
        exact k30 v28 (x5 + 1) S23 G_S23 F_S23 (by omega) (by omega) (fun u hu => by have h9 : S23 1042 9 = S 1042 9 := (zz_rc fS23 rfl rfl (fun h => h) (zz_rc fS17 rfl rfl (fun h => h) rfl)); have h8 := i30_2 u (by omega); rw [show S23 1044 u = S 1044 u from (zz_rc fS23 (zz_nc1 rfl) rfl (fun h => h) (zz_rc fS17 (zz_nc1 rfl) rfl (fun h => h) rfl))]; exact h8) (by omega)
      · refine zz_aload_n (x := 1042) rfl zd_10_2_82 ?_
        refine zz_callVI [] zd_10_2_83 zk_Run_73 zT_1042 (zz_ltn hn rfl) rfl rfl ⟨Nat.le_of_ble_eq_true rfl, Nat.le_of_ble_eq_true rfl⟩ ⟨rfl, rfl⟩ (Nat.zero_le _) (Nat.zero_le _) (zc_leastNext_10_12  S23 n hn G_S23 ) (fun v33 S32 hP => ?_)
        obtain ⟨rfl, o34⟩ := hP
        refine zz_istore [some (.ref 1042), none, none, none, some (zi x4), some (zi x5), some (zi v24), some (zi v28), some (zi v33)] zd_10_2_86 (by decide) rfl ?_
        refine zz_aload_n (x := 1042) rfl zd_10_2_88 ?_
        refine zz_iload (x := v33) rfl zd_10_2_89 ?_
        refine zz_iconst zd_10_2_91 ?_
        refine zz_icmp_ne (by omega) (by omega) zd_10_2_92 (fun c35 => ?_) (fun c35 => ?_)
        · refine zz_iconst zd_10_2_99 ?_
          refine zz_iload (x := v33) rfl zd_10_2_100 ?_
          refine zz_iload (x := x4) rfl zd_10_2_102 ?_
          refine zz_callVV [zi 4, zi v33, zi x4] zd_10_2_104 zk_Run_58 zT_1042 (zz_ltn hn rfl) rfl rfl ⟨Nat.le_of_ble_eq_true rfl, Nat.le_of_ble_eq_true rfl⟩ ⟨rfl, rfl⟩ (Nat.zero_le _) (Nat.zero_le _) (zc_tell_10_5 4 v33 x4 S23 n hn G_S23 (by omega) (by omega) (by omega)) (fun S36 hP => ?_)
          obtain ⟨G_S36, fS36⟩ := hP
          have F_S36 := zz_fr.trans F_S23 fS36 rfl zz_nv
          refine zz_goto zd_10_2_107 ?_
          refine zz_aload_n (x := 1042) rfl zd_10_2_120 ?_
          refine zz_ldc (z := 2000000000) zq_Run_76 (by decide) zd_10_2_121 ?_
          refine zz_callVV [zi 2000000000] zd_10_2_123 zk_Run_62 zT_1042 (zz_ltn hn rfl) rfl rfl ⟨Nat.le_of_ble_eq_true rfl, Nat.le_of_ble_eq_true rfl⟩ ⟨rfl, rfl⟩ (Nat.zero_le _) (Nat.zero_le _) (zc_endUpTo_10_7 2000000000 S36 n hn G_S36 (by omega)) (fun S38 hP => ?_)
          obtain ⟨G_S38, fS38⟩ := hP
          have F_S38 := zz_fr.trans F_S36 fS38 rfl zz_nv
          exact zz_vret zd_10_2_126 rfl (Nat.zero_le _) (Nat.zero_le _) ⟨_, rfl, G_S38, F_S38⟩
        · refine zz_iconst zd_10_2_95 ?_
          refine zz_goto zd_10_2_96 ?_
          refine zz_iload (x := v33) rfl zd_10_2_100 ?_
          refine zz_iload (x := x4) rfl zd_10_2_102 ?_
          refine zz_callVV [zi 1, zi v33, zi x4] zd_10_2_104 zk_Run_58 zT_1042 (zz_ltn hn rfl) rfl rfl ⟨Nat.le_of_ble_eq_true rfl, Nat.le_of_ble_eq_true rfl⟩ ⟨rfl, rfl⟩ (Nat.zero_le _) (Nat.zero_le _) (zc_tell_10_5 1 v33 x4 S23 n hn G_S23 (by omega) (by omega) (by omega)) (fun S40 hP => ?_)
          obtain ⟨G_S40, fS40⟩ := hP
          have F_S40 := zz_fr.trans F_S23 fS40 rfl zz_nv
          refine zz_goto zd_10_2_107 ?_
          refine zz_aload_n (x := 1042) rfl zd_10_2_120 ?_
          refine zz_ldc (z := 2000000000) zq_Run_76 (by decide) zd_10_2_121 ?_
          refine zz_callVV [zi 2000000000] zd_10_2_123 zk_Run_62 zT_1042 (zz_ltn hn rfl) rfl rfl ⟨Nat.le_of_ble_eq_true rfl, Nat.le_of_ble_eq_true rfl⟩ ⟨rfl, rfl⟩ (Nat.zero_le _) (Nat.zero_le _) (zc_endUpTo_10_7 2000000000 S40 n hn G_S40 (by omega)) (fun S42 hP => ?_)
          obtain ⟨G_S42, fS42⟩ := hP
          have F_S42 := zz_fr.trans F_S40 fS42 rfl zz_nv
          exact zz_vret zd_10_2_126 rfl (Nat.zero_le _) (Nat.zero_le _) ⟨_, rfl, G_S42, F_S42⟩
    · refine zz_aload_n (x := 1042) rfl zd_10_2_58 ?_
      refine zz_iconst zd_10_2_59 ?_
      refine zz_iload (x := v24) rfl zd_10_2_60 ?_
      refine zz_iload (x := x4) rfl zd_10_2_62 ?_
      refine zz_callVV [zi 3, zi v24, zi x4] zd_10_2_64 zk_Run_58 zT_1042 (zz_ltn hn rfl) rfl rfl ⟨Nat.le_of_ble_eq_true rfl, Nat.le_of_ble_eq_true rfl⟩ ⟨rfl, rfl⟩ (Nat.zero_le _) (Nat.zero_le _) (zc_tell_10_5 3 v24 x4 S23 n hn G_S23 (by omega) (by omega) (by omega)) (fun S44 hP => ?_)
      obtain ⟨G_S44, fS44⟩ := hP
      have F_S44 := zz_fr.trans F_S23 fS44 rfl zz_nv
      refine zz_goto zd_10_2_67 ?_
      refine zz_aload_n (x := 1042) rfl zd_10_2_120 ?_
      refine zz_ldc (z := 2000000000) zq_Run_76 (by decide) zd_10_2_121 ?_
      refine zz_callVV [zi 2000000000] zd_10_2_123 zk_Run_62 zT_1042 (zz_ltn hn rfl) rfl rfl ⟨Nat.le_of_ble_eq_true rfl, Nat.le_of_ble_eq_true rfl⟩ ⟨rfl, rfl⟩ (Nat.zero_le _) (Nat.zero_le _) (zc_endUpTo_10_7 2000000000 S44 n hn G_S44 (by omega)) (fun S46 hP => ?_)
      obtain ⟨G_S46, fS46⟩ := hP
      have F_S46 := zz_fr.trans F_S44 fS46 rfl zz_nv
      exact zz_vret zd_10_2_126 rfl (Nat.zero_le _) (Nat.zero_le _) ⟨_, rfl, G_S46, F_S46⟩
theorem zi_follow_10_2 {g : mm_G} {l : Launch} (p0 : Int) (p1 : Int) (S0 : zz_S) (n : Nat) (hn : zz_end ≤ n) (G_S0 : zz_G S0) (hp0 : 0 ≤ p0 ∧ p0 ≤ 1) (hp1 : (-2147483648) ≤ p1 ∧ p1 ≤ 2147483647) : ∀ N : Nat, (∀ (x4 : Int) (x5 : Int) (S : zz_S), zz_G S → zz_fr [(1031, 7), (1031, 8), (1031, 9), (1031, 10), (1031, 11), (1031, 12), (1031, 13), (1038, 0), (1038, 1), (1038, 2), (1038, 3), (1038, 4), (1039, 0), (1039, 1), (1039, 2), (1039, 3), (1039, 4), (1040, 0), (1040, 1), (1040, 2), (1040, 3), (1040, 4), (1041, 0), (1041, 1), (1041, 2), (1041, 3), (1041, 4), (1042, 8), (1042, 9)] [1032, 1033, 1034, 1035, 1036, 1038, 1039, 1040, 1041, 1043, 1044, 1045, 1046, 1047, 1048, 1049, 1051, 1052, 1053, 1054, 1056, 1057, 1058, 1059, 1061, 1062, 1063, 1064, 1066, 1067, 1068, 1069] (fun _ _ => False) S0 S → ((-2147483648) ≤ x4 ∧ x4 ≤ 2147483647) → (0 ≤ x5 ∧ x5 ≤ 602) → (∀ u : Nat, (u : Int) < S 1042 9 → zz_lcl (S 1044 u) (S0 1031 6)) → (601 + 1 - x5).toNat < N → zz_E g l zy_follow_10_2 zr_follow_10_2 (zz_QV n (zp_follow_10_2 p0 p1 S0)) S n 30 [some (.ref 1042), none, none, none, some (zi x4), some (zi x5)] [] 0 0) := by
  intro N
  induction N with
  | zero => exact fun x4 x5 S _ _ _ _ _ h => absurd h (Nat.not_lt_zero _)
  | succ N ih =>
    exact fun x4 x5 S a b j0 j1 j2 hR => zb_follow_10_2_30 p0 p1 S0 n hn G_S0 hp0 hp1 x4 x5 S a b j0 j1 j2 _ rfl (fun x4 x5 S a b j0 j1 j2 h => ih x4 x5 S a b j0 j1 j2 (Nat.lt_of_lt_of_le h (Nat.le_of_lt_succ hR)))
theorem zc_follow_10_2 {g : mm_G} {l : Launch} (p0 : Int) (p1 : Int) (S0 : zz_S) (n : Nat) (hn : zz_end ≤ n) (G_S0 : zz_G S0) (hp0 : 0 ≤ p0 ∧ p0 ≤ 1) (hp1 : (-2147483648) ≤ p1 ∧ p1 ≤ 2147483647) : mm_Met g l zy_follow_10_2 zr_follow_10_2 [.ref 1042, .ref (zz_rf 4 p0), zi p1] (zz_M S0 n) n (zz_QV n (zp_follow_10_2 p0 p1 S0)) := by
  refine zz_enter (by decide) (Nat.le_of_ble_eq_true rfl) (zz_less (ls1 := [some (.ref 1042), some (.ref (zz_rf 4 p0)), some (zi p1)]) ⟨rfl, ⟨rfl, ⟨rfl, trivial⟩⟩⟩ ?_)
  have F_S0 : zz_fr [(1031, 7), (1031, 8), (1031, 9), (1031, 10), (1031, 11), (1031, 12), (1031, 13), (1038, 0), (1038, 1), (1038, 2), (1038, 3), (1038, 4), (1039, 0), (1039, 1), (1039, 2), (1039, 3), (1039, 4), (1040, 0), (1040, 1), (1040, 2), (1040, 3), (1040, 4), (1041, 0), (1041, 1), (1041, 2), (1041, 3), (1041, 4), (1042, 8), (1042, 9)] [1032, 1033, 1034, 1035, 1036, 1038, 1039, 1040, 1041, 1043, 1044, 1045, 1046, 1047, 1048, 1049, 1051, 1052, 1053, 1054, 1056, 1057, 1058, 1059, 1061, 1062, 1063, 1064, 1066, 1067, 1068, 1069] (fun _ _ => False) S0 S0 := zz_fr.refl
  have k30 : ∀ (x4 : Int) (x5 : Int) (S : zz_S), zz_G S → zz_fr [(1031, 7), (1031, 8), (1031, 9), (1031, 10), (1031, 11), (1031, 12), (1031, 13), (1038, 0), (1038, 1), (1038, 2), (1038, 3), (1038, 4), (1039, 0), (1039, 1), (1039, 2), (1039, 3), (1039, 4), (1040, 0), (1040, 1), (1040, 2), (1040, 3), (1040, 4), (1041, 0), (1041, 1), (1041, 2), (1041, 3), (1041, 4), (1042, 8), (1042, 9)] [1032, 1033, 1034, 1035, 1036, 1038, 1039, 1040, 1041, 1043, 1044, 1045, 1046, 1047, 1048, 1049, 1051, 1052, 1053, 1054, 1056, 1057, 1058, 1059, 1061, 1062, 1063, 1064, 1066, 1067, 1068, 1069] (fun _ _ => False) S0 S → ((-2147483648) ≤ x4 ∧ x4 ≤ 2147483647) → (0 ≤ x5 ∧ x5 ≤ 602) → (∀ u : Nat, (u : Int) < S 1042 9 → zz_lcl (S 1044 u) (S0 1031 6)) → zz_E g l zy_follow_10_2 zr_follow_10_2 (zz_QV n (zp_follow_10_2 p0 p1 S0)) S n 30 [some (.ref 1042), none, none, none, some (zi x4), some (zi x5)] [] 0 0 := fun x4 x5 S a b j0 j1 j2 => (zi_follow_10_2 (g := g) (l := l) p0 p1 S0 n hn G_S0 hp0 hp1 _) x4 x5 S a b j0 j1 j2 (Nat.lt_succ_self _)
  have b_p0 := zz_rf4 (z := p0) (by omega)
  refine zz_aload_n (x := 1042) rfl zd_10_2_0 ?_
  refine zz_aload_n (x := zz_rf 4 p0) rfl zd_10_2_1 ?_
  refine zz_iload_n (x := p1) rfl zd_10_2_2 ?_
  refine zz_callVV [.ref (zz_rf 4 p0), zi p1] zd_10_2_3 zk_Run_50 zT_1042 (zz_ltn hn rfl) rfl rfl ⟨Nat.le_of_ble_eq_true rfl, Nat.le_of_ble_eq_true rfl⟩ ⟨rfl, rfl⟩ (Nat.zero_le _) (Nat.zero_le _) (zc_prepare_10_3 p0 p1 S0 n hn G_S0 (by omega) (by omega)) (fun S1 hP => ?_)
  obtain ⟨G_S1, fS1⟩ := hP
  have F_S1 := zz_fr.trans F_S0 fS1 rfl zz_nv
  refine zz_aload_n (x := 1042) rfl zd_10_2_6 ?_
  have g3 := zz_G.r G_S0 1031 6 2 8 rfl rfl
  have e4 : S1 1031 6 = S0 1031 6 := (zz_rc fS1 rfl rfl (fun h => h) rfl)
  have g5 := zz_G.r G_S1 1042 9 0 600 rfl rfl
  refine zz_callVI [] zd_10_2_7 zk_Run_54 zT_1042 (zz_ltn hn rfl) rfl rfl ⟨Nat.le_of_ble_eq_true rfl, Nat.le_of_ble_eq_true rfl⟩ ⟨rfl, rfl⟩ (Nat.zero_le _) (Nat.zero_le _) (zc_firstForbidden_10_4  S1 n hn G_S1 ) (fun v7 S6 hP => ?_)
  obtain ⟨G_S6, fS6, o8, o9⟩ := hP
  have F_S6 := zz_fr.trans F_S1 fS6 rfl zz_nv
  refine zz_istore_n [some (.ref 1042), some (.ref (zz_rf 4 p0)), some (zi p1), some (zi v7)] zd_10_2_10 (by decide) rfl ?_
  refine zz_iload_n (x := v7) rfl zd_10_2_11 ?_
  refine zz_iconst zd_10_2_12 ?_
  refine zz_icmp_eq (by omega) (by omega) zd_10_2_13 (fun c10 => ?_) (fun c10 => ?_)
  · refine zz_iconst zd_10_2_24 ?_
    refine zz_istore [some (.ref 1042), some (.ref (zz_rf 4 p0)), some (zi p1), some (zi v7), some (zi 0)] zd_10_2_25 (by decide) rfl ?_
    refine zz_iconst zd_10_2_27 ?_
    refine zz_istore [some (.ref 1042), some (.ref (zz_rf 4 p0)), some (zi p1), some (zi v7), some (zi 0), some (zi 0)] zd_10_2_28 (by decide) rfl ?_
    have e11 : S6 1042 9 = S1 1042 9 := (zz_rc fS6 rfl rfl (fun h => h) rfl)
    refine zz_less (ls1 := [some (.ref 1042), none, none, none, some (zi 0), some (zi 0)]) ⟨rfl, ⟨rfl, ⟨rfl, trivial⟩⟩⟩ ?_
    exact k30 0 0 S6 G_S6 F_S6 (by omega) (by omega) (fun u hu => by have h9 : S6 1042 9 = S1 1042 9 := (zz_rc fS6 rfl rfl (fun h => h) rfl); have h8 := (o9 (by omega)) u (by omega); rw [show S1 1031 6 = S0 1031 6 from (zz_rc fS1 rfl rfl (fun h => h) rfl)] at h8; rw [show S6 1044 u = S1 1044 u from (zz_rc fS6 (zz_nc1 rfl) rfl (fun h => h) rfl)]; exact h8)
  · refine zz_aload_n (x := 1042) rfl zd_10_2_16 ?_
    refine zz_iconst zd_10_2_17 ?_
    refine zz_iload_n (x := v7) rfl zd_10_2_18 ?_
    refine zz_iconst zd_10_2_19 ?_
    refine zz_callVV [zi 2, zi v7, zi 0] zd_10_2_20 zk_Run_58 zT_1042 (zz_ltn hn rfl) rfl rfl ⟨Nat.le_of_ble_eq_true rfl, Nat.le_of_ble_eq_true rfl⟩ ⟨rfl, rfl⟩ (Nat.zero_le _) (Nat.zero_le _) (zc_tell_10_5 2 v7 0 S6 n hn G_S6 (by omega) (by omega) (by omega)) (fun S12 hP => ?_)
    obtain ⟨G_S12, fS12⟩ := hP
    have F_S12 := zz_fr.trans F_S6 fS12 rfl zz_nv
    exact zz_vret zd_10_2_23 rfl (Nat.zero_le _) (Nat.zero_le _) ⟨_, rfl, G_S12, F_S12⟩
theorem zk_TF_182 : mm_Vl "TensorForge" 182 5 2 zy_follow_10_2 := ⟨zyw_follow_10_2, (R_Run, F_Run, 10), rfl, mm_tb_1 697 (by decide +kernel) rfl, mm_tb_1 698 (by decide +kernel) rfl, mm_tb_1 699 (by decide +kernel) rfl⟩
theorem zf_TF_186 : mm_Fl "TensorForge" 186 5 1 (.array .int) true := ⟨R_Run, F_Run, 10, t_Run, rfl, i_Run, by decide, mm_tb_1 241 (by decide +kernel) rfl, rfl, t_Run_ok, n_Run, rfl, by decide +kernel⟩
theorem zg_1_15_15 : zq_at zy_run_1_15.2.1 15 42 ∧ zq_at zy_run_1_15.2.1 16 180 ∧ zq_at zy_run_1_15.2.1 17 0 ∧ zq_at zy_run_1_15.2.1 18 42 ∧ zq_at zy_run_1_15.2.1 19 180 ∧ zq_at zy_run_1_15.2.1 20 0 ∧ zq_at zy_run_1_15.2.1 21 186 ∧ zq_at zy_run_1_15.2.1 22 3 ∧ zq_at zy_run_1_15.2.1 23 46 ∧ zq_at zy_run_1_15.2.1 24 172 := by decide +kernel
theorem zd_1_15_15 : zz_D zy_run_1_15 15 (.aload_n 0) 1 16 := ⟨zq_42 zg_1_15_15.1, rfl⟩
theorem zd_1_15_16 : zz_D zy_run_1_15 16 (.getfield 42) 3 19 := ⟨zq_180 zg_1_15_15.2.1 zg_1_15_15.2.2.1 zg_1_15_15.2.2.2.1 rfl, rfl⟩
theorem zd_1_15_19 : zz_D zy_run_1_15 19 (.getfield 186) 3 22 := ⟨zq_180 zg_1_15_15.2.2.2.2.1 zg_1_15_15.2.2.2.2.2.1 zg_1_15_15.2.2.2.2.2.2.1 rfl, rfl⟩
theorem zd_1_15_22 : zz_D zy_run_1_15 22 (.iconst 0) 1 23 := ⟨zq_3 zg_1_15_15.2.2.2.2.2.2.2.1, rfl⟩
theorem zd_1_15_23 : zz_D zy_run_1_15 23 (.iaload) 1 24 := ⟨zq_46 zg_1_15_15.2.2.2.2.2.2.2.2.1, rfl⟩
theorem zd_1_15_24 : zz_D zy_run_1_15 24 (.ireturn) 1 25 := ⟨zq_172 zg_1_15_15.2.2.2.2.2.2.2.2.2, rfl⟩
-- TensorForge run ()I
abbrev zr_run_1_15 : Room := { frames := 7, cells := 0, slots := 0, locals := 123 }
def zp_run_1_15  (S0 : zz_S) : Int → zz_S → Prop := fun r S => zz_G S ∧ zz_fr [(1031, 7), (1031, 8), (1031, 9), (1031, 10), (1031, 11), (1031, 12), (1031, 13), (1038, 0), (1038, 1), (1038, 2), (1038, 3), (1038, 4), (1039, 0), (1039, 1), (1039, 2), (1039, 3), (1039, 4), (1040, 0), (1040, 1), (1040, 2), (1040, 3), (1040, 4), (1041, 0), (1041, 1), (1041, 2), (1041, 3), (1041, 4), (1042, 8), (1042, 9)] [1032, 1033, 1034, 1035, 1036, 1038, 1039, 1040, 1041, 1043, 1044, 1045, 1046, 1047, 1048, 1049, 1051, 1052, 1053, 1054, 1056, 1057, 1058, 1059, 1061, 1062, 1063, 1064, 1066, 1067, 1068, 1069] (fun _ _ => False) S0 S ∧ ((-2147483648) ≤ r ∧ r ≤ 2147483647)
theorem zc_run_1_15 {g : mm_G} {l : Launch}  (S0 : zz_S) (n : Nat) (hn : zz_end ≤ n) (G_S0 : zz_G S0)  : mm_Met g l zy_run_1_15 zr_run_1_15 [.ref 1000] (zz_M S0 n) n (zz_QI n (zp_run_1_15  S0)) := by
  refine zz_enter (by decide) (Nat.le_of_ble_eq_true rfl) (zz_less (ls1 := [some (.ref 1000)]) ⟨rfl, trivial⟩ ?_)
  have F_S0 : zz_fr [(1031, 7), (1031, 8), (1031, 9), (1031, 10), (1031, 11), (1031, 12), (1031, 13), (1038, 0), (1038, 1), (1038, 2), (1038, 3), (1038, 4), (1039, 0), (1039, 1), (1039, 2), (1039, 3), (1039, 4), (1040, 0), (1040, 1), (1040, 2), (1040, 3), (1040, 4), (1041, 0), (1041, 1), (1041, 2), (1041, 3), (1041, 4), (1042, 8), (1042, 9)] [1032, 1033, 1034, 1035, 1036, 1038, 1039, 1040, 1041, 1043, 1044, 1045, 1046, 1047, 1048, 1049, 1051, 1052, 1053, 1054, 1056, 1057, 1058, 1059, 1061, 1062, 1063, 1064, 1066, 1067, 1068, 1069] (fun _ _ => False) S0 S0 := zz_fr.refl
  refine zz_aload_n (x := 1000) rfl zd_1_15_0 ?_
  refine zz_getr (kd := 0) (z := 1042) zd_1_15_1 zf_TF_42 zT_1000 rfl (zz_ltn hn rfl) (zz_G.eq G_S0 1000 1 1042 rfl rfl) (by decide) 1042 rfl ?_
  refine zz_aload_n (x := 1000) rfl zd_1_15_4 ?_
  have g1 := zz_G.r G_S0 1000 9 0 1 rfl rfl
  refine zz_getr (kd := 2) (z := S0 1000 9) zd_1_15_5 zf_TF_19 zT_1000 rfl (zz_ltn hn rfl) rfl (by omega) (zz_rf 4 (S0 1000 9)) rfl ?_
  refine zz_aload_n (x := 1000) rfl zd_1_15_8 ?_
  have g2 := zz_G.r G_S0 1000 11 0 600 rfl rfl
  refine zz_geti (z := S0 1000 11) zd_1_15_9 zf_TF_26 zT_1000 rfl (zz_ltn hn rfl) rfl ?_
  refine zz_callVV [.ref (zz_rf 4 (S0 1000 9)), zi (S0 1000 11)] zd_1_15_12 zk_TF_182 zT_1042 (zz_ltn hn rfl) rfl rfl ⟨Nat.le_of_ble_eq_true rfl, Nat.le_of_ble_eq_true rfl⟩ ⟨rfl, rfl⟩ (Nat.zero_le _) (Nat.zero_le _) (zc_follow_10_2 (S0 1000 9) (S0 1000 11) S0 n hn G_S0 (by omega) (by omega)) (fun S3 hP => ?_)
  obtain ⟨G_S3, fS3⟩ := hP
  have F_S3 := zz_fr.trans F_S0 fS3 rfl zz_nv
  refine zz_aload_n (x := 1000) rfl zd_1_15_15 ?_
  refine zz_getr (kd := 0) (z := 1042) zd_1_15_16 zf_TF_42 zT_1000 rfl (zz_ltn hn rfl) (zz_G.eq G_S3 1000 1 1042 rfl rfl) (by decide) 1042 rfl ?_
  refine zz_getr (kd := 0) (z := 1043) zd_1_15_19 zf_TF_186 zT_1042 rfl (zz_ltn hn rfl) (zz_G.eq G_S3 1042 1 1043 rfl rfl) (by decide) 1043 rfl ?_
  refine zz_iconst zd_1_15_22 ?_
  have g5 := zz_G.r G_S3 1043 0 (-2147483648) 2147483647 rfl rfl
  refine zz_iald (z := S3 1043 0) zd_1_15_23 zT_1043 rfl (zz_ltn hn rfl) (by decide) (by decide) rfl ?_
  exact zz_iret zd_1_15_24 rfl (Nat.zero_le _) (Nat.zero_le _) ⟨_, _, rfl, G_S3, F_S3, by omega⟩
abbrev zy_stopped_1_16 : mm_Y := (⟨"TensorForge", "stopped", "(I)I"⟩, prog_1_method_16_code, 2, (some .int))
theorem zyw_stopped_1_16 : mm_Yw zy_stopped_1_16 1 := ⟨mm_tb_1 1310 (by decide +kernel) rfl, mm_tb_1 1 (by decide +kernel) rfl, ⟨by decide, by decide⟩, by decide +kernel⟩
theorem zt_1_16_10 : zz_Thr zy_stopped_1_16 10 87 189 91 := ⟨by decide +kernel, by decide +kernel, by decide +kernel, by decide +kernel, by decide +kernel⟩
theorem zxl_TF_87_189_91 : mm_Xl "TensorForge" 87 189 91 0 := ⟨mm_tb_1 1048 (by decide +kernel) rfl, mm_tb_1 1049 (by decide +kernel) rfl, mm_tb_1 16 (by decide +kernel) rfl, ⟨46, by decide +kernel⟩, zxa_TF_91⟩
theorem zg_1_16_0 : zq_at zy_stopped_1_16.2.1 0 27 ∧ zq_at zy_stopped_1_16.2.1 1 155 ∧ zq_at zy_stopped_1_16.2.1 2 0 ∧ zq_at zy_stopped_1_16.2.1 3 9 ∧ zq_at zy_stopped_1_16.2.1 4 27 ∧ zq_at zy_stopped_1_16.2.1 5 16 ∧ zq_at zy_stopped_1_16.2.1 6 10 ∧ zq_at zy_stopped_1_16.2.1 7 161 ∧ zq_at zy_stopped_1_16.2.1 8 0 ∧ zq_at zy_stopped_1_16.2.1 9 13 ∧ zq_at zy_stopped_1_16.2.1 20 42 ∧ zq_at zy_stopped_1_16.2.1 21 180 ∧ zq_at zy_stopped_1_16.2.1 22 0 ∧ zq_at zy_stopped_1_16.2.1 23 42 ∧ zq_at zy_stopped_1_16.2.1 24 180 ∧ zq_at zy_stopped_1_16.2.1 25 0 ∧ zq_at zy_stopped_1_16.2.1 26 186 ∧ zq_at zy_stopped_1_16.2.1 27 27 ∧ zq_at zy_stopped_1_16.2.1 28 46 ∧ zq_at zy_stopped_1_16.2.1 29 172 := by decide +kernel
theorem zd_1_16_0 : zz_D zy_stopped_1_16 0 (.iload_n 1) 1 1 := ⟨zq_27 zg_1_16_0.1, rfl⟩
theorem zd_1_16_1 : zz_B zy_stopped_1_16 1 (Instr.ifCond .lt) 10 4 := ⟨9, zq_155 zg_1_16_0.2.1 zg_1_16_0.2.2.1 zg_1_16_0.2.2.2.1 (by decide), rfl, rfl⟩
theorem zd_1_16_4 : zz_D zy_stopped_1_16 4 (.iload_n 1) 1 5 := ⟨zq_27 zg_1_16_0.2.2.2.2.1, rfl⟩
theorem zd_1_16_5 : zz_D zy_stopped_1_16 5 (.bipush 10) 2 7 := ⟨zq_16 zg_1_16_0.2.2.2.2.2.1 zg_1_16_0.2.2.2.2.2.2.1 (by decide), rfl⟩
theorem zd_1_16_7 : zz_B zy_stopped_1_16 7 (Instr.if_icmp .lt) 20 10 := ⟨13, zq_161 zg_1_16_0.2.2.2.2.2.2.2.1 zg_1_16_0.2.2.2.2.2.2.2.2.1 zg_1_16_0.2.2.2.2.2.2.2.2.2.1 (by decide), rfl, rfl⟩
theorem zd_1_16_20 : zz_D zy_stopped_1_16 20 (.aload_n 0) 1 21 := ⟨zq_42 zg_1_16_0.2.2.2.2.2.2.2.2.2.2.1, rfl⟩
theorem zd_1_16_21 : zz_D zy_stopped_1_16 21 (.getfield 42) 3 24 := ⟨zq_180 zg_1_16_0.2.2.2.2.2.2.2.2.2.2.2.1 zg_1_16_0.2.2.2.2.2.2.2.2.2.2.2.2.1 zg_1_16_0.2.2.2.2.2.2.2.2.2.2.2.2.2.1 rfl, rfl⟩
theorem zd_1_16_24 : zz_D zy_stopped_1_16 24 (.getfield 186) 3 27 := ⟨zq_180 zg_1_16_0.2.2.2.2.2.2.2.2.2.2.2.2.2.2.1 zg_1_16_0.2.2.2.2.2.2.2.2.2.2.2.2.2.2.2.1 zg_1_16_0.2.2.2.2.2.2.2.2.2.2.2.2.2.2.2.2.1 rfl, rfl⟩
theorem zd_1_16_27 : zz_D zy_stopped_1_16 27 (.iload_n 1) 1 28 := ⟨zq_27 zg_1_16_0.2.2.2.2.2.2.2.2.2.2.2.2.2.2.2.2.2.1, rfl⟩
theorem zd_1_16_28 : zz_D zy_stopped_1_16 28 (.iaload) 1 29 := ⟨zq_46 zg_1_16_0.2.2.2.2.2.2.2.2.2.2.2.2.2.2.2.2.2.2.1, rfl⟩
theorem zd_1_16_29 : zz_D zy_stopped_1_16 29 (.ireturn) 1 30 := ⟨zq_172 zg_1_16_0.2.2.2.2.2.2.2.2.2.2.2.2.2.2.2.2.2.2.2, rfl⟩

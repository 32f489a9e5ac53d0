-- TensorForgeModel readLayer ()Z
abbrev zr_readLayer_14_104 : Room := { frames := 6, cells := 0, slots := 0, locals := 89 }
def zp_readLayer_14_104  (S0 : zz_S) : Int → zz_S → Prop := fun r S => zz_G S ∧ zz_fr [(1079, 0), (1079, 30), (1079, 31), (1079, 32), (1079, 36), (1079, 61), (1079, 64), (1079, 65)] [1102, 1103, 1104, 1105, 1106, 1107, 1108, 1109, 1110, 1111, 1112, 1113, 1114, 1117, 1118] (fun _ _ => False) S0 S ∧ (0 ≤ r ∧ r ≤ 1) ∧ (S 1079 36 ≥ S0 1079 36) ∧ (zz_Hr S)
theorem zc_readLayer_14_104 {g : mm_G} {l : Launch}  (S0 : zz_S) (n : Nat) (hn : zz_end ≤ n) (G_S0 : zz_G S0) (R_S0 : zz_Hr S0) (hN : ∀ w : Nat, 1 ≤ w → w ≤ 20 → S0 1100 w = zt_cd (zt_nw.getD w [])) : mm_Met g l zy_readLayer_14_104 zr_readLayer_14_104 [.ref 1079] (zz_M S0 n) n (zz_QI n (zp_readLayer_14_104  S0)) := by
  refine zz_enter (by decide) (Nat.le_of_ble_eq_true rfl) (zz_less (ls1 := [some (.ref 1079)]) ⟨rfl, trivial⟩ ?_)
  have F_S0 : zz_fr [(1079, 0), (1079, 30), (1079, 31), (1079, 32), (1079, 36), (1079, 61), (1079, 64), (1079, 65)] [1102, 1103, 1104, 1105, 1106, 1107, 1108, 1109, 1110, 1111, 1112, 1113, 1114, 1117, 1118] (fun _ _ => False) S0 S0 := zz_fr.refl
  refine zz_aload_n (x := 1079) rfl zd_14_104_0 ?_
  refine zz_ldc2 (z := 735715) zq_Md_534 (by decide) zd_14_104_1 ?_
  refine zz_callVI [zl 735715] zd_14_104_4 zk_Md_529 zT_1079 (zz_ltn hn rfl) rfl rfl ⟨Nat.le_of_ble_eq_true rfl, Nat.le_of_ble_eq_true rfl⟩ ⟨rfl, rfl⟩ (Nat.zero_le _) (Nat.zero_le _) (zc_isWord_14_94 735715 S0 n hn G_S0 (by omega)) (fun v2 S1 hP => ?_)
  obtain ⟨rfl, o3⟩ := hP
  rcases (by omega : v2 = 0 ∨ v2 = 1) with rfl | rfl
  · refine zz_istore_n [some (.ref 1079), some (zi 0)] zd_14_104_7 (by decide) rfl ?_
    refine zz_aload_n (x := 1079) rfl zd_14_104_8 ?_
    refine zz_ldc2 (z := 409072) zq_Md_536 (by decide) zd_14_104_9 ?_
    refine zz_callVI [zl 409072] zd_14_104_12 zk_Md_529 zT_1079 (zz_ltn hn rfl) rfl rfl ⟨Nat.le_of_ble_eq_true rfl, Nat.le_of_ble_eq_true rfl⟩ ⟨rfl, rfl⟩ (Nat.zero_le _) (Nat.zero_le _) (zc_isWord_14_94 409072 S0 n hn G_S0 (by omega)) (fun v5 S4 hP => ?_)
    obtain ⟨rfl, o6⟩ := hP
    rcases (by omega : v5 = 0 ∨ v5 = 1) with rfl | rfl
    · refine zz_istore_n [some (.ref 1079), some (zi 0), some (zi 0)] zd_14_104_15 (by decide) rfl ?_
      refine zz_iload_n (x := 0) rfl zd_14_104_16 ?_
      refine zz_if_ne (by omega) zd_14_104_17 (fun c7 => ?_) (fun c7 => ?_)
      · exfalso; omega
      · refine zz_iload_n (x := 0) rfl zd_14_104_20 ?_
        refine zz_if_ne (by omega) zd_14_104_21 (fun c8 => ?_) (fun c8 => ?_)
        · exfalso; omega
        · refine zz_aload_n (x := 1079) rfl zd_14_104_24 ?_
          refine zz_ldc2 (z := 4225) zq_Md_538 (by decide) zd_14_104_25 ?_
          refine zz_callVI [zl 4225] zd_14_104_28 zk_Md_529 zT_1079 (zz_ltn hn rfl) rfl rfl ⟨Nat.le_of_ble_eq_true rfl, Nat.le_of_ble_eq_true rfl⟩ ⟨rfl, rfl⟩ (Nat.zero_le _) (Nat.zero_le _) (zc_isWord_14_94 4225 S0 n hn G_S0 (by omega)) (fun v10 S9 hP => ?_)
          obtain ⟨rfl, o11⟩ := hP
          rcases (by omega : v10 = 0 ∨ v10 = 1) with rfl | rfl
          · refine zz_if_ne (by omega) zd_14_104_31 (fun c12 => ?_) (fun c12 => ?_)
            · exfalso; omega
            · refine zz_iconst zd_14_104_34 ?_
              have g13 := zz_G.r G_S0 1079 36 0 11 rfl rfl
              exact zz_zret zd_14_104_35 rfl (by omega) (Nat.zero_le _) (Nat.zero_le _) ⟨_, _, rfl, G_S0, F_S0, by omega, by omega, R_S0⟩
          · refine zz_if_ne (by omega) zd_14_104_31 (fun c14 => ?_) (fun c14 => ?_)
            · refine zz_aload_n (x := 1079) rfl zd_14_104_36 ?_
              have g15 := zz_G.r G_S0 1079 32 0 1500 rfl rfl
              refine zz_callVV [] zd_14_104_37 zk_Md_526 zT_1079 (zz_ltn hn rfl) rfl rfl ⟨Nat.le_of_ble_eq_true rfl, Nat.le_of_ble_eq_true rfl⟩ ⟨rfl, rfl⟩ (Nat.zero_le _) (Nat.zero_le _) (zc_advanceNet_14_93  S0 n hn G_S0 hN) (fun S16 hP => ?_)
              obtain ⟨G_S16, fS16, o18⟩ := hP
              have F_S16 := zz_fr.trans F_S0 fS16 rfl zz_nv
              have R_S16 : zz_Hr S16 := zz_Hr.fr fS16 rfl rfl (fun b j h => h.elim) R_S0
              refine zz_aload_n (x := 1079) rfl zd_14_104_40 ?_
              have g19 := zz_G.r G_S16 1079 30 0 102 rfl rfl
              have g20 := zz_G.r G_S16 1079 32 0 1500 rfl rfl
              refine zz_callVI [] zd_14_104_41 zk_Md_582 zT_1079 (zz_ltn hn rfl) rfl rfl ⟨Nat.le_of_ble_eq_true rfl, Nat.le_of_ble_eq_true rfl⟩ ⟨rfl, rfl⟩ (Nat.zero_le _) (Nat.zero_le _) (zc_takeTensor_14_102  S16 n hn G_S16 (fun u h1 h2 => ((zz_rc fS16 (zz_nc1 rfl) rfl (fun h => h) rfl)).trans (hN u h1 h2))) (fun v22 S21 hP => ?_)
              obtain ⟨G_S21, fS21, o23, o24⟩ := hP
              have F_S21 := zz_fr.trans F_S16 fS21 rfl zz_nv
              have R_S21 : zz_Hr S21 := zz_Hr.fr fS21 rfl rfl (fun b j h => h.elim) R_S16
              refine zz_istore_n [some (.ref 1079), some (zi 0), some (zi 0), some (zi v22)] zd_14_104_44 (by decide) rfl ?_
              refine zz_iload_n (x := 0) rfl zd_14_104_45 ?_
              refine zz_if_ne (by omega) zd_14_104_46 (fun c25 => ?_) (fun c25 => ?_)
              · exfalso; omega
              · refine zz_iload_n (x := 0) rfl zd_14_104_49 ?_
                refine zz_if_ne (by omega) zd_14_104_50 (fun c26 => ?_) (fun c26 => ?_)
                · exfalso; omega
                · refine zz_iload_n (x := v22) rfl zd_14_104_53 ?_
                  refine zz_if_lt (by omega) zd_14_104_54 (fun c27 => ?_) (fun c27 => ?_)
                  · refine zz_iconst zd_14_104_64 ?_
                    refine zz_istore [some (.ref 1079), some (zi 0), some (zi 0), some (zi v22), some (zi 0)] zd_14_104_65 (by decide) rfl ?_
                    refine zz_iload_n (x := v22) rfl zd_14_104_67 ?_
                    refine zz_if_lt (by omega) zd_14_104_68 (fun c28 => ?_) (fun c28 => ?_)
                    · refine zz_iconst zd_14_104_106 ?_
                      have g29 := zz_G.r G_S0 1079 36 0 11 rfl rfl
                      have e30 : S21 1079 36 = S0 1079 36 := (zz_rc fS21 rfl rfl (fun h => h) (zz_rc fS16 rfl rfl (fun h => h) rfl))
                      exact zz_zret zd_14_104_107 rfl (by omega) (Nat.zero_le _) (Nat.zero_le _) ⟨_, _, rfl, G_S21, F_S21, by omega, by omega, R_S21⟩
                    · exfalso; omega
                  · refine zz_aload_n (x := 1079) rfl zd_14_104_57 ?_
                    have g31 := zz_G.r G_S21 1079 30 0 102 rfl rfl
                    have g32 := zz_G.r G_S21 1079 32 0 1500 rfl rfl
                    refine zz_callVI [] zd_14_104_58 zk_Md_582 zT_1079 (zz_ltn hn rfl) rfl rfl ⟨Nat.le_of_ble_eq_true rfl, Nat.le_of_ble_eq_true rfl⟩ ⟨rfl, rfl⟩ (Nat.zero_le _) (Nat.zero_le _) (zc_takeTensor_14_102  S21 n hn G_S21 (fun u h1 h2 => ((zz_rc fS21 (zz_nc1 rfl) rfl (fun h => h) (zz_rc fS16 (zz_nc1 rfl) rfl (fun h => h) rfl))).trans (hN u h1 h2))) (fun v34 S33 hP => ?_)
                    obtain ⟨G_S33, fS33, o35, o36⟩ := hP
                    have F_S33 := zz_fr.trans F_S21 fS33 rfl zz_nv
                    have R_S33 : zz_Hr S33 := zz_Hr.fr fS33 rfl rfl (fun b j h => h.elim) R_S21
                    refine zz_goto zd_14_104_61 ?_
                    refine zz_istore [some (.ref 1079), some (zi 0), some (zi 0), some (zi v22), some (zi v34)] zd_14_104_65 (by decide) rfl ?_
                    refine zz_iload_n (x := v22) rfl zd_14_104_67 ?_
                    refine zz_if_lt (by omega) zd_14_104_68 (fun c37 => ?_) (fun c37 => ?_)
                    · exfalso; omega
                    · refine zz_iload (x := v34) rfl zd_14_104_71 ?_
                      refine zz_if_lt (by omega) zd_14_104_73 (fun c38 => ?_) (fun c38 => ?_)
                      · refine zz_iconst zd_14_104_106 ?_
                        have g39 := zz_G.r G_S0 1079 36 0 11 rfl rfl
                        have e40 : S33 1079 36 = S0 1079 36 := (zz_rc fS33 rfl rfl (fun h => h) (zz_rc fS21 rfl rfl (fun h => h) (zz_rc fS16 rfl rfl (fun h => h) rfl)))
                        exact zz_zret zd_14_104_107 rfl (by omega) (Nat.zero_le _) (Nat.zero_le _) ⟨_, _, rfl, G_S33, F_S33, by omega, by omega, R_S33⟩
                      · refine zz_aload_n (x := 1079) rfl zd_14_104_76 ?_
                        refine zz_iload_n (x := 0) rfl zd_14_104_77 ?_
                        refine zz_if_eq (by omega) zd_14_104_78 (fun c41 => ?_) (fun c41 => ?_)
                        · refine zz_iload_n (x := 0) rfl zd_14_104_87 ?_
                          refine zz_if_eq (by omega) zd_14_104_88 (fun c42 => ?_) (fun c42 => ?_)
                          · refine zz_sipush (by decide) zd_14_104_97 ?_
                            refine zz_callVI [zi 224] zd_14_104_100 zk_Md_576 zT_1079 (zz_ltn hn rfl) rfl rfl ⟨Nat.le_of_ble_eq_true rfl, Nat.le_of_ble_eq_true rfl⟩ ⟨rfl, rfl⟩ (Nat.zero_le _) (Nat.zero_le _) (zc_takeParts_14_101 224 S33 n hn G_S33 (by omega) (fun u h1 h2 => ((zz_rc fS33 (zz_nc1 rfl) rfl (fun h => h) (zz_rc fS21 (zz_nc1 rfl) rfl (fun h => h) (zz_rc fS16 (zz_nc1 rfl) rfl (fun h => h) rfl)))).trans (hN u h1 h2))) (fun v44 S43 hP => ?_)
                            obtain ⟨G_S43, fS43, o45⟩ := hP
                            have F_S43 := zz_fr.trans F_S33 fS43 rfl zz_nv
                            have R_S43 : zz_Hr S43 := zz_Hr.fr fS43 rfl rfl (fun b j h => h.elim) R_S33
                            rcases (by omega : v44 = 0 ∨ v44 = 1) with rfl | rfl
                            · refine zz_if_ne (by omega) zd_14_104_103 (fun c46 => ?_) (fun c46 => ?_)
                              · exfalso; omega
                              · refine zz_iconst zd_14_104_106 ?_
                                have g47 := zz_G.r G_S0 1079 36 0 11 rfl rfl
                                have e48 : S43 1079 36 = S0 1079 36 := (zz_rc fS43 rfl rfl (fun h => h) (zz_rc fS33 rfl rfl (fun h => h) (zz_rc fS21 rfl rfl (fun h => h) (zz_rc fS16 rfl rfl (fun h => h) rfl))))
                                exact zz_zret zd_14_104_107 rfl (by omega) (Nat.zero_le _) (Nat.zero_le _) ⟨_, _, rfl, G_S43, F_S43, by omega, by omega, R_S43⟩
                            · refine zz_if_ne (by omega) zd_14_104_103 (fun c49 => ?_) (fun c49 => ?_)
                              · refine zz_aload_n (x := 1079) rfl zd_14_104_108 ?_
                                refine zz_getr (kd := 0) (z := 1118) zd_14_104_109 zf_Md_136 zT_1079 rfl (zz_ltn hn rfl) (zz_G.eq G_S43 1079 63 1118 rfl rfl) (by decide) 1118 rfl ?_
                                refine zz_bipush (by decide) zd_14_104_112 ?_
                                have g50 := zz_G.r G_S43 1118 6 0 9999 rfl rfl
                                refine zz_iald (z := S43 1118 6) zd_14_104_114 zT_1118 rfl (zz_ltn hn rfl) (by decide) (by decide) rfl ?_
                                refine zz_bipush (by decide) zd_14_104_115 ?_
                                refine zz_aload_n (x := 1079) rfl zd_14_104_117 ?_
                                refine zz_getr (kd := 0) (z := 1118) zd_14_104_118 zf_Md_136 zT_1079 rfl (zz_ltn hn rfl) (zz_G.eq G_S43 1079 63 1118 rfl rfl) (by decide) 1118 rfl ?_
                                refine zz_bipush (by decide) zd_14_104_121 ?_
                                have g51 := zz_G.r G_S43 1118 7 0 9999 rfl rfl
                                refine zz_iald (z := S43 1118 7) zd_14_104_123 zT_1118 rfl (zz_ltn hn rfl) (by decide) (by decide) rfl ?_
                                refine zz_imul zd_14_104_124 ?_
                                refine zz_iadd zd_14_104_125 ?_
                                refine zz_istore [some (.ref 1079), some (zi 0), some (zi 0), some (zi v22), some (zi v34), some (zi ((S43 1118 6) + (16 * (S43 1118 7))))] zd_14_104_126 (by decide) rfl ?_
                                refine zz_bipush (by decide) zd_14_104_128 ?_
                                refine zz_aload_n (x := 1079) rfl zd_14_104_130 ?_
                                refine zz_getr (kd := 0) (z := 1118) zd_14_104_131 zf_Md_136 zT_1079 rfl (zz_ltn hn rfl) (zz_G.eq G_S43 1079 63 1118 rfl rfl) (by decide) 1118 rfl ?_
                                refine zz_iconst zd_14_104_134 ?_
                                have g52 := zz_G.r G_S43 1118 0 0 9999 rfl rfl
                                refine zz_iald (z := S43 1118 0) zd_14_104_135 zT_1118 rfl (zz_ltn hn rfl) (by decide) (by decide) rfl ?_
                                refine zz_imul zd_14_104_136 ?_
                                refine zz_aload_n (x := 1079) rfl zd_14_104_137 ?_
                                refine zz_getr (kd := 0) (z := 1118) zd_14_104_138 zf_Md_136 zT_1079 rfl (zz_ltn hn rfl) (zz_G.eq G_S43 1079 63 1118 rfl rfl) (by decide) 1118 rfl ?_
                                refine zz_iconst zd_14_104_141 ?_
                                have g53 := zz_G.r G_S43 1118 1 0 9999 rfl rfl
                                refine zz_iald (z := S43 1118 1) zd_14_104_142 zT_1118 rfl (zz_ltn hn rfl) (by decide) (by decide) rfl ?_
                                refine zz_iadd zd_14_104_143 ?_
                                refine zz_istore [some (.ref 1079), some (zi 0), some (zi 0), some (zi v22), some (zi v34), some (zi ((S43 1118 6) + (16 * (S43 1118 7)))), some (zi ((10 * (S43 1118 0)) + (S43 1118 1)))] zd_14_104_144 (by decide) rfl ?_
                                refine zz_aload_n (x := 1079) rfl zd_14_104_146 ?_
                                refine zz_getr (kd := 0) (z := 1118) zd_14_104_147 zf_Md_136 zT_1079 rfl (zz_ltn hn rfl) (zz_G.eq G_S43 1079 63 1118 rfl rfl) (by decide) 1118 rfl ?_
                                refine zz_iconst zd_14_104_150 ?_
                                refine zz_iald (z := S43 1118 0) zd_14_104_151 zT_1118 rfl (zz_ltn hn rfl) (by decide) (by decide) rfl ?_
                                refine zz_i2l (by omega) zd_14_104_152 ?_
                                refine zz_lconst (z := 1) (by decide) zd_14_104_153 ?_
                                refine zz_ldc2 (z := 3) zq_Md_416 (by decide) zd_14_104_154 ?_
                                refine zz_callSI [zl (S43 1118 0), zl 1, zl 3] zd_14_104_157 zk_Md_192 rfl rfl ⟨Nat.le_of_ble_eq_true rfl, Nat.le_of_ble_eq_true rfl⟩ ⟨rfl, rfl⟩ (Nat.zero_le _) (Nat.zero_le _) (zc_in_14_4 (S43 1118 0) 1 3 S43 n hn G_S43 (by omega) (by omega) (by omega)) (fun v55 S54 hP => ?_)
                                obtain ⟨rfl, o56, o57⟩ := hP
                                rcases (by omega : v55 = 0 ∨ v55 = 1) with rfl | rfl
                                · have n58 : S43 1118 0 < 1 ∨ 3 < S43 1118 0 := by omega
                                  clear o57
                                  refine zz_if_eq (by omega) zd_14_104_160 (fun c59 => ?_) (fun c59 => ?_)
                                  · refine zz_iconst zd_14_104_184 ?_
                                    refine zz_istore [some (.ref 1079), some (zi 0), some (zi 0), some (zi v22), some (zi v34), some (zi ((S43 1118 6) + (16 * (S43 1118 7)))), some (zi ((10 * (S43 1118 0)) + (S43 1118 1))), some (zi 0)] zd_14_104_185 (by decide) rfl ?_
                                    refine zz_iconst zd_14_104_187 ?_
                                    refine zz_istore [some (.ref 1079), some (zi 0), some (zi 0), some (zi v22), some (zi v34), some (zi ((S43 1118 6) + (16 * (S43 1118 7)))), some (zi ((10 * (S43 1118 0)) + (S43 1118 1))), some (zi 0), some (zi (-1))] zd_14_104_188 (by decide) rfl ?_
                                    refine zz_iload_n (x := 0) rfl zd_14_104_190 ?_
                                    refine zz_if_eq (by omega) zd_14_104_191 (fun c60 => ?_) (fun c60 => ?_)
                                    · refine zz_iload_n (x := 0) rfl zd_14_104_299 ?_
                                      refine zz_if_eq (by omega) zd_14_104_300 (fun c61 => ?_) (fun c61 => ?_)
                                      · refine zz_aload_n (x := 1079) rfl zd_14_104_337 ?_
                                        refine zz_getr (kd := 0) (z := 1118) zd_14_104_338 zf_Md_136 zT_1079 rfl (zz_ltn hn rfl) (zz_G.eq G_S43 1079 63 1118 rfl rfl) (by decide) 1118 rfl ?_
                                        refine zz_bipush (by decide) zd_14_104_341 ?_
                                        refine zz_iald (z := S43 1118 6) zd_14_104_343 zT_1118 rfl (zz_ltn hn rfl) (by decide) (by decide) rfl ?_
                                        refine zz_bipush (by decide) zd_14_104_344 ?_
                                        refine zz_icmp_le (by omega) (by omega) zd_14_104_346 (fun c62 => ?_) (fun c62 => ?_)
                                        · refine zz_aload_n (x := 1079) rfl zd_14_104_351 ?_
                                          refine zz_iload_n (x := v22) rfl zd_14_104_352 ?_
                                          refine zz_iload (x := v34) rfl zd_14_104_353 ?_
                                          refine zz_iload (x := (S43 1118 6) + (16 * (S43 1118 7))) rfl zd_14_104_355 ?_
                                          have g63 := zz_G.r G_S0 1079 36 0 11 rfl rfl
                                          have e64 : S43 1079 36 = S0 1079 36 := (zz_rc fS43 rfl rfl (fun h => h) (zz_rc fS33 rfl rfl (fun h => h) (zz_rc fS21 rfl rfl (fun h => h) (zz_rc fS16 rfl rfl (fun h => h) rfl))))
                                          refine zz_callVI [zi v22, zi v34, zi ((S43 1118 6) + (16 * (S43 1118 7)))] zd_14_104_357 zk_Md_592 zT_1079 (zz_ltn hn rfl) rfl rfl ⟨Nat.le_of_ble_eq_true rfl, Nat.le_of_ble_eq_true rfl⟩ ⟨rfl, rfl⟩ (Nat.zero_le _) (Nat.zero_le _) (zc_addition_14_70 v22 v34 ((S43 1118 6) + (16 * (S43 1118 7))) S43 n hn G_S43 (by omega) (by omega) (by omega) R_S43) (fun v66 S65 hP => ?_)
                                          obtain ⟨G_S65, fS65, o67, o68, o69⟩ := hP
                                          have F_S65 := zz_fr.trans F_S43 fS65 rfl (fun a i h => by rcases h with h | h | h | h | h | h | h | h | h | h | h | h; exact Or.inr (Or.inl (by rw [h.1]; rfl)); exact Or.inr (Or.inl (by rw [h.1]; rfl)); exact Or.inr (Or.inl (by rw [h.1]; rfl)); exact Or.inr (Or.inl (by rw [h.1]; rfl)); exact Or.inr (Or.inl (by rw [h.1]; rfl)); exact Or.inr (Or.inl (by rw [h.1]; rfl)); exact Or.inr (Or.inl (by rw [h.1]; rfl)); exact Or.inr (Or.inl (by rw [h.1]; rfl)); exact Or.inr (Or.inl (by rw [h.1]; rfl)); exact Or.inr (Or.inl (by rw [h.1]; rfl)); exact Or.inr (Or.inl (by rw [h.1]; rfl)); exact Or.inr (Or.inl (by rw [h.1]; rfl)))
                                          have R_S65 : zz_Hr S65 := o69
                                          refine zz_istore [some (.ref 1079), some (zi 0), some (zi 0), some (zi v22), some (zi v34), some (zi ((S43 1118 6) + (16 * (S43 1118 7)))), some (zi ((10 * (S43 1118 0)) + (S43 1118 1))), some (zi 0), some (zi v66)] zd_14_104_360 (by decide) rfl ?_
                                          refine zz_aload_n (x := 1079) rfl zd_14_104_362 ?_
                                          have g70 := zz_G.r G_S65 1079 0 0 3 rfl rfl
                                          refine zz_geti (z := S65 1079 0) zd_14_104_363 zf_Md_187 zT_1079 rfl (zz_ltn hn rfl) rfl ?_
                                          refine zz_if_le (by omega) zd_14_104_366 (fun c71 => ?_) (fun c71 => ?_)
                                          · refine zz_aload_n (x := 1079) rfl zd_14_104_371 ?_
                                            refine zz_getr (kd := 0) (z := 1117) zd_14_104_372 zf_Md_133 zT_1079 rfl (zz_ltn hn rfl) (zz_G.eq G_S65 1079 62 1117 rfl rfl) (by decide) 1117 rfl ?_
                                            refine zz_iload (x := v66) rfl zd_14_104_375 ?_
                                            refine zz_aload_n (x := 1079) rfl zd_14_104_377 ?_
                                            have g72 := zz_G.r G_S43 1079 64 (-9223372036854775808) 9223372036854775807 rfl rfl
                                            refine zz_getl (z := S43 1079 64) zd_14_104_378 zf_Md_564 zT_1079 rfl (zz_ltn hn rfl) (zz_rc fS65 rfl rfl (by omega) rfl) ?_
                                            refine zz_last zd_14_104_381 zT_1117 rfl (zz_ltn hn rfl) (by decide) (by omega) (fun S73 qS73 => ?_)
                                            have G_S73 := zz_G.put G_S65 qS73 (-9223372036854775808) 9223372036854775807 rfl (by omega)
                                            have F_S73 := zz_fr.putc F_S65 qS73 rfl
                                            have R_S73 : zz_Hr S73 := zz_Hr.fr (zz_fr.put1 qS73) rfl rfl (fun b j h => by omega) R_S65
                                            refine zz_iconst zd_14_104_382 ?_
                                            have g74 := zz_G.r G_S65 1079 36 0 11 rfl rfl
                                            have e75 : S73 1079 36 = S65 1079 36 := (zz_ro qS73 (fun h => absurd h.1 (by decide)) rfl)
                                            exact zz_zret zd_14_104_383 rfl (by omega) (Nat.zero_le _) (Nat.zero_le _) ⟨_, _, rfl, G_S73, F_S73, by omega, by omega, R_S73⟩
                                          · refine zz_iconst zd_14_104_369 ?_
                                            have g76 := zz_G.r G_S65 1079 36 0 11 rfl rfl
                                            exact zz_zret zd_14_104_370 rfl (by omega) (Nat.zero_le _) (Nat.zero_le _) ⟨_, _, rfl, G_S65, F_S65, by omega, by omega, R_S65⟩
                                        · refine zz_iconst zd_14_104_349 ?_
                                          have g77 := zz_G.r G_S0 1079 36 0 11 rfl rfl
                                          have e78 : S43 1079 36 = S0 1079 36 := (zz_rc fS43 rfl rfl (fun h => h) (zz_rc fS33 rfl rfl (fun h => h) (zz_rc fS21 rfl rfl (fun h => h) (zz_rc fS16 rfl rfl (fun h => h) rfl))))
                                          exact zz_zret zd_14_104_350 rfl (by omega) (Nat.zero_le _) (Nat.zero_le _) ⟨_, _, rfl, G_S43, F_S43, by omega, by omega, R_S43⟩
                                      · exfalso; omega
                                    · exfalso; omega
                                  · exfalso; omega
                                · have n79 : 1 ≤ S43 1118 0 ∧ S43 1118 0 ≤ 3 := by omega
                                  clear o57
                                  refine zz_if_eq (by omega) zd_14_104_160 (fun c80 => ?_) (fun c80 => ?_)
                                  · exfalso; omega
                                  · refine zz_aload_n (x := 1079) rfl zd_14_104_163 ?_
                                    refine zz_getr (kd := 0) (z := 1118) zd_14_104_164 zf_Md_136 zT_1079 rfl (zz_ltn hn rfl) (zz_G.eq G_S43 1079 63 1118 rfl rfl) (by decide) 1118 rfl ?_
                                    refine zz_iconst zd_14_104_167 ?_
                                    refine zz_iald (z := S43 1118 1) zd_14_104_168 zT_1118 rfl (zz_ltn hn rfl) (by decide) (by decide) rfl ?_
                                    refine zz_i2l (by omega) zd_14_104_169 ?_
                                    refine zz_lconst (z := 1) (by decide) zd_14_104_170 ?_
                                    refine zz_ldc2 (z := 3) zq_Md_416 (by decide) zd_14_104_171 ?_
                                    refine zz_callSI [zl (S43 1118 1), zl 1, zl 3] zd_14_104_174 zk_Md_192 rfl rfl ⟨Nat.le_of_ble_eq_true rfl, Nat.le_of_ble_eq_true rfl⟩ ⟨rfl, rfl⟩ (Nat.zero_le _) (Nat.zero_le _) (zc_in_14_4 (S43 1118 1) 1 3 S43 n hn G_S43 (by omega) (by omega) (by omega)) (fun v82 S81 hP => ?_)
                                    obtain ⟨rfl, o83, o84⟩ := hP
                                    rcases (by omega : v82 = 0 ∨ v82 = 1) with rfl | rfl
                                    · have n85 : S43 1118 1 < 1 ∨ 3 < S43 1118 1 := by omega
                                      clear o84
                                      refine zz_if_eq (by omega) zd_14_104_177 (fun c86 => ?_) (fun c86 => ?_)
                                      · refine zz_iconst zd_14_104_184 ?_
                                        refine zz_istore [some (.ref 1079), some (zi 0), some (zi 0), some (zi v22), some (zi v34), some (zi ((S43 1118 6) + (16 * (S43 1118 7)))), some (zi ((10 * (S43 1118 0)) + (S43 1118 1))), some (zi 0)] zd_14_104_185 (by decide) rfl ?_
                                        refine zz_iconst zd_14_104_187 ?_
                                        refine zz_istore [some (.ref 1079), some (zi 0), some (zi 0), some (zi v22), some (zi v34), some (zi ((S43 1118 6) + (16 * (S43 1118 7)))), some (zi ((10 * (S43 1118 0)) + (S43 1118 1))), some (zi 0), some (zi (-1))] zd_14_104_188 (by decide) rfl ?_
                                        refine zz_iload_n (x := 0) rfl zd_14_104_190 ?_
                                        refine zz_if_eq (by omega) zd_14_104_191 (fun c87 => ?_) (fun c87 => ?_)
                                        · refine zz_iload_n (x := 0) rfl zd_14_104_299 ?_
                                          refine zz_if_eq (by omega) zd_14_104_300 (fun c88 => ?_) (fun c88 => ?_)
                                          · refine zz_aload_n (x := 1079) rfl zd_14_104_337 ?_
                                            refine zz_getr (kd := 0) (z := 1118) zd_14_104_338 zf_Md_136 zT_1079 rfl (zz_ltn hn rfl) (zz_G.eq G_S43 1079 63 1118 rfl rfl) (by decide) 1118 rfl ?_
                                            refine zz_bipush (by decide) zd_14_104_341 ?_
                                            refine zz_iald (z := S43 1118 6) zd_14_104_343 zT_1118 rfl (zz_ltn hn rfl) (by decide) (by decide) rfl ?_
                                            refine zz_bipush (by decide) zd_14_104_344 ?_
                                            refine zz_icmp_le (by omega) (by omega) zd_14_104_346 (fun c89 => ?_) (fun c89 => ?_)
                                            · refine zz_aload_n (x := 1079) rfl zd_14_104_351 ?_
                                              refine zz_iload_n (x := v22) rfl zd_14_104_352 ?_
                                              refine zz_iload (x := v34) rfl zd_14_104_353 ?_
                                              refine zz_iload (x := (S43 1118 6) + (16 * (S43 1118 7))) rfl zd_14_104_355 ?_
                                              have g90 := zz_G.r G_S0 1079 36 0 11 rfl rfl
                                              have e91 : S43 1079 36 = S0 1079 36 := (zz_rc fS43 rfl rfl (fun h => h) (zz_rc fS33 rfl rfl (fun h => h) (zz_rc fS21 rfl rfl (fun h => h) (zz_rc fS16 rfl rfl (fun h => h) rfl))))
                                              refine zz_callVI [zi v22, zi v34, zi ((S43 1118 6) + (16 * (S43 1118 7)))] zd_14_104_357 zk_Md_592 zT_1079 (zz_ltn hn rfl) rfl rfl ⟨Nat.le_of_ble_eq_true rfl, Nat.le_of_ble_eq_true rfl⟩ ⟨rfl, rfl⟩ (Nat.zero_le _) (Nat.zero_le _) (zc_addition_14_70 v22 v34 ((S43 1118 6) + (16 * (S43 1118 7))) S43 n hn G_S43 (by omega) (by omega) (by omega) R_S43) (fun v93 S92 hP => ?_)
                                              obtain ⟨G_S92, fS92, o94, o95, o96⟩ := hP
                                              have F_S92 := zz_fr.trans F_S43 fS92 rfl (fun a i h => by rcases h with h | h | h | h | h | h | h | h | h | h | h | h; exact Or.inr (Or.inl (by rw [h.1]; rfl)); exact Or.inr (Or.inl (by rw [h.1]; rfl)); exact Or.inr (Or.inl (by rw [h.1]; rfl)); exact Or.inr (Or.inl (by rw [h.1]; rfl)); exact Or.inr (Or.inl (by rw [h.1]; rfl)); exact Or.inr (Or.inl (by rw [h.1]; rfl)); exact Or.inr (Or.inl (by rw [h.1]; rfl)); exact Or.inr (Or.inl (by rw [h.1]; rfl)); exact Or.inr (Or.inl (by rw [h.1]; rfl)); exact Or.inr (Or.inl (by rw [h.1]; rfl)); exact Or.inr (Or.inl (by rw [h.1]; rfl)); exact Or.inr (Or.inl (by rw [h.1]; rfl)))
                                              have R_S92 : zz_Hr S92 := o96
                                              refine zz_istore [some (.ref 1079), some (zi 0), some (zi 0), some (zi v22), some (zi v34), some (zi ((S43 1118 6) + (16 * (S43 1118 7)))), some (zi ((10 * (S43 1118 0)) + (S43 1118 1))), some (zi 0), some (zi v93)] zd_14_104_360 (by decide) rfl ?_
                                              refine zz_aload_n (x := 1079) rfl zd_14_104_362 ?_
                                              have g97 := zz_G.r G_S92 1079 0 0 3 rfl rfl
                                              refine zz_geti (z := S92 1079 0) zd_14_104_363 zf_Md_187 zT_1079 rfl (zz_ltn hn rfl) rfl ?_
                                              refine zz_if_le (by omega) zd_14_104_366 (fun c98 => ?_) (fun c98 => ?_)
                                              · refine zz_aload_n (x := 1079) rfl zd_14_104_371 ?_
                                                refine zz_getr (kd := 0) (z := 1117) zd_14_104_372 zf_Md_133 zT_1079 rfl (zz_ltn hn rfl) (zz_G.eq G_S92 1079 62 1117 rfl rfl) (by decide) 1117 rfl ?_
                                                refine zz_iload (x := v93) rfl zd_14_104_375 ?_
                                                refine zz_aload_n (x := 1079) rfl zd_14_104_377 ?_
                                                have g99 := zz_G.r G_S43 1079 64 (-9223372036854775808) 9223372036854775807 rfl rfl
                                                refine zz_getl (z := S43 1079 64) zd_14_104_378 zf_Md_564 zT_1079 rfl (zz_ltn hn rfl) (zz_rc fS92 rfl rfl (by omega) rfl) ?_
                                                refine zz_last zd_14_104_381 zT_1117 rfl (zz_ltn hn rfl) (by decide) (by omega) (fun S100 qS100 => ?_)
                                                have G_S100 := zz_G.put G_S92 qS100 (-9223372036854775808) 9223372036854775807 rfl (by omega)
                                                have F_S100 := zz_fr.putc F_S92 qS100 rfl
                                                have R_S100 : zz_Hr S100 := zz_Hr.fr (zz_fr.put1 qS100) rfl rfl (fun b j h => by omega) R_S92
                                                refine zz_iconst zd_14_104_382 ?_
                                                have g101 := zz_G.r G_S92 1079 36 0 11 rfl rfl
                                                have e102 : S100 1079 36 = S92 1079 36 := (zz_ro qS100 (fun h => absurd h.1 (by decide)) rfl)
                                                exact zz_zret zd_14_104_383 rfl (by omega) (Nat.zero_le _) (Nat.zero_le _) ⟨_, _, rfl, G_S100, F_S100, by omega, by omega, R_S100⟩
                                              · refine zz_iconst zd_14_104_369 ?_
                                                have g103 := zz_G.r G_S92 1079 36 0 11 rfl rfl
                                                exact zz_zret zd_14_104_370 rfl (by omega) (Nat.zero_le _) (Nat.zero_le _) ⟨_, _, rfl, G_S92, F_S92, by omega, by omega, R_S92⟩
                                            · refine zz_iconst zd_14_104_349 ?_
                                              have g104 := zz_G.r G_S0 1079 36 0 11 rfl rfl
                                              have e105 : S43 1079 36 = S0 1079 36 := (zz_rc fS43 rfl rfl (fun h => h) (zz_rc fS33 rfl rfl (fun h => h) (zz_rc fS21 rfl rfl (fun h => h) (zz_rc fS16 rfl rfl (fun h => h) rfl))))
                                              exact zz_zret zd_14_104_350 rfl (by omega) (Nat.zero_le _) (Nat.zero_le _) ⟨_, _, rfl, G_S43, F_S43, by omega, by omega, R_S43⟩
                                          · exfalso; omega
                                        · exfalso; omega
                                      · exfalso; omega
                                    · have n106 : 1 ≤ S43 1118 1 ∧ S43 1118 1 ≤ 3 := by omega
                                      clear o84
                                      refine zz_if_eq (by omega) zd_14_104_177 (fun c107 => ?_) (fun c107 => ?_)
                                      · exfalso; omega
                                      · refine zz_iconst zd_14_104_180 ?_
                                        refine zz_goto zd_14_104_181 ?_
                                        refine zz_istore [some (.ref 1079), some (zi 0), some (zi 0), some (zi v22), some (zi v34), some (zi ((S43 1118 6) + (16 * (S43 1118 7)))), some (zi ((10 * (S43 1118 0)) + (S43 1118 1))), some (zi 1)] zd_14_104_185 (by decide) rfl ?_
                                        refine zz_iconst zd_14_104_187 ?_
                                        refine zz_istore [some (.ref 1079), some (zi 0), some (zi 0), some (zi v22), some (zi v34), some (zi ((S43 1118 6) + (16 * (S43 1118 7)))), some (zi ((10 * (S43 1118 0)) + (S43 1118 1))), some (zi 1), some (zi (-1))] zd_14_104_188 (by decide) rfl ?_
                                        refine zz_iload_n (x := 0) rfl zd_14_104_190 ?_
                                        refine zz_if_eq (by omega) zd_14_104_191 (fun c108 => ?_) (fun c108 => ?_)
                                        · refine zz_iload_n (x := 0) rfl zd_14_104_299 ?_
                                          refine zz_if_eq (by omega) zd_14_104_300 (fun c109 => ?_) (fun c109 => ?_)
                                          · refine zz_aload_n (x := 1079) rfl zd_14_104_337 ?_
                                            refine zz_getr (kd := 0) (z := 1118) zd_14_104_338 zf_Md_136 zT_1079 rfl (zz_ltn hn rfl) (zz_G.eq G_S43 1079 63 1118 rfl rfl) (by decide) 1118 rfl ?_
                                            refine zz_bipush (by decide) zd_14_104_341 ?_
                                            refine zz_iald (z := S43 1118 6) zd_14_104_343 zT_1118 rfl (zz_ltn hn rfl) (by decide) (by decide) rfl ?_
                                            refine zz_bipush (by decide) zd_14_104_344 ?_
                                            refine zz_icmp_le (by omega) (by omega) zd_14_104_346 (fun c110 => ?_) (fun c110 => ?_)
                                            · refine zz_aload_n (x := 1079) rfl zd_14_104_351 ?_
                                              refine zz_iload_n (x := v22) rfl zd_14_104_352 ?_
                                              refine zz_iload (x := v34) rfl zd_14_104_353 ?_
                                              refine zz_iload (x := (S43 1118 6) + (16 * (S43 1118 7))) rfl zd_14_104_355 ?_
                                              have g111 := zz_G.r G_S0 1079 36 0 11 rfl rfl
                                              have e112 : S43 1079 36 = S0 1079 36 := (zz_rc fS43 rfl rfl (fun h => h) (zz_rc fS33 rfl rfl (fun h => h) (zz_rc fS21 rfl rfl (fun h => h) (zz_rc fS16 rfl rfl (fun h => h) rfl))))
                                              refine zz_callVI [zi v22, zi v34, zi ((S43 1118 6) + (16 * (S43 1118 7)))] zd_14_104_357 zk_Md_592 zT_1079 (zz_ltn hn rfl) rfl rfl ⟨Nat.le_of_ble_eq_true rfl, Nat.le_of_ble_eq_true rfl⟩ ⟨rfl, rfl⟩ (Nat.zero_le _) (Nat.zero_le _) (zc_addition_14_70 v22 v34 ((S43 1118 6) + (16 * (S43 1118 7))) S43 n hn G_S43 (by omega) (by omega) (by omega) R_S43) (fun v114 S113 hP => ?_)
                                              obtain ⟨G_S113, fS113, o115, o116, o117⟩ := hP
                                              have F_S113 := zz_fr.trans F_S43 fS113 rfl (fun a i h => by rcases h with h | h | h | h | h | h | h | h | h | h | h | h; exact Or.inr (Or.inl (by rw [h.1]; rfl)); exact Or.inr (Or.inl (by rw [h.1]; rfl)); exact Or.inr (Or.inl (by rw [h.1]; rfl)); exact Or.inr (Or.inl (by rw [h.1]; rfl)); exact Or.inr (Or.inl (by rw [h.1]; rfl)); exact Or.inr (Or.inl (by rw [h.1]; rfl)); exact Or.inr (Or.inl (by rw [h.1]; rfl)); exact Or.inr (Or.inl (by rw [h.1]; rfl)); exact Or.inr (Or.inl (by rw [h.1]; rfl)); exact Or.inr (Or.inl (by rw [h.1]; rfl)); exact Or.inr (Or.inl (by rw [h.1]; rfl)); exact Or.inr (Or.inl (by rw [h.1]; rfl)))
                                              have R_S113 : zz_Hr S113 := o117
                                              refine zz_istore [some (.ref 1079), some (zi 0), some (zi 0), some (zi v22), some (zi v34), some (zi ((S43 1118 6) + (16 * (S43 1118 7)))), some (zi ((10 * (S43 1118 0)) + (S43 1118 1))), some (zi 1), some (zi v114)] zd_14_104_360 (by decide) rfl ?_
                                              refine zz_aload_n (x := 1079) rfl zd_14_104_362 ?_
                                              have g118 := zz_G.r G_S113 1079 0 0 3 rfl rfl
                                              refine zz_geti (z := S113 1079 0) zd_14_104_363 zf_Md_187 zT_1079 rfl (zz_ltn hn rfl) rfl ?_
                                              refine zz_if_le (by omega) zd_14_104_366 (fun c119 => ?_) (fun c119 => ?_)
                                              · refine zz_aload_n (x := 1079) rfl zd_14_104_371 ?_
                                                refine zz_getr (kd := 0) (z := 1117) zd_14_104_372 zf_Md_133 zT_1079 rfl (zz_ltn hn rfl) (zz_G.eq G_S113 1079 62 1117 rfl rfl) (by decide) 1117 rfl ?_
                                                refine zz_iload (x := v114) rfl zd_14_104_375 ?_
                                                refine zz_aload_n (x := 1079) rfl zd_14_104_377 ?_
                                                have g120 := zz_G.r G_S43 1079 64 (-9223372036854775808) 9223372036854775807 rfl rfl
                                                refine zz_getl (z := S43 1079 64) zd_14_104_378 zf_Md_564 zT_1079 rfl (zz_ltn hn rfl) (zz_rc fS113 rfl rfl (by omega) rfl) ?_
                                                refine zz_last zd_14_104_381 zT_1117 rfl (zz_ltn hn rfl) (by decide) (by omega) (fun S121 qS121 => ?_)
                                                have G_S121 := zz_G.put G_S113 qS121 (-9223372036854775808) 9223372036854775807 rfl (by omega)
                                                have F_S121 := zz_fr.putc F_S113 qS121 rfl
                                                have R_S121 : zz_Hr S121 := zz_Hr.fr (zz_fr.put1 qS121) rfl rfl (fun b j h => by omega) R_S113
                                                refine zz_iconst zd_14_104_382 ?_
                                                have g122 := zz_G.r G_S113 1079 36 0 11 rfl rfl
                                                have e123 : S121 1079 36 = S113 1079 36 := (zz_ro qS121 (fun h => absurd h.1 (by decide)) rfl)
                                                exact zz_zret zd_14_104_383 rfl (by omega) (Nat.zero_le _) (Nat.zero_le _) ⟨_, _, rfl, G_S121, F_S121, by omega, by omega, R_S121⟩
                                              · refine zz_iconst zd_14_104_369 ?_
                                                have g124 := zz_G.r G_S113 1079 36 0 11 rfl rfl
                                                exact zz_zret zd_14_104_370 rfl (by omega) (Nat.zero_le _) (Nat.zero_le _) ⟨_, _, rfl, G_S113, F_S113, by omega, by omega, R_S113⟩
                                            · refine zz_iconst zd_14_104_349 ?_
                                              have g125 := zz_G.r G_S0 1079 36 0 11 rfl rfl
                                              have e126 : S43 1079 36 = S0 1079 36 := (zz_rc fS43 rfl rfl (fun h => h) (zz_rc fS33 rfl rfl (fun h => h) (zz_rc fS21 rfl rfl (fun h => h) (zz_rc fS16 rfl rfl (fun h => h) rfl))))
                                              exact zz_zret zd_14_104_350 rfl (by omega) (Nat.zero_le _) (Nat.zero_le _) ⟨_, _, rfl, G_S43, F_S43, by omega, by omega, R_S43⟩
                                          · exfalso; omega
                                        · exfalso; omega
                              · exfalso; omega
                          · exfalso; omega
                        · exfalso; omega
            · exfalso; omega
    · refine zz_istore_n [some (.ref 1079), some (zi 0), some (zi 1)] zd_14_104_15 (by decide) rfl ?_
      refine zz_iload_n (x := 0) rfl zd_14_104_16 ?_
      refine zz_if_ne (by omega) zd_14_104_17 (fun c127 => ?_) (fun c127 => ?_)
      · exfalso; omega
      · refine zz_iload_n (x := 1) rfl zd_14_104_20 ?_
        refine zz_if_ne (by omega) zd_14_104_21 (fun c128 => ?_) (fun c128 => ?_)
        · refine zz_aload_n (x := 1079) rfl zd_14_104_36 ?_
          have g129 := zz_G.r G_S0 1079 32 0 1500 rfl rfl
          refine zz_callVV [] zd_14_104_37 zk_Md_526 zT_1079 (zz_ltn hn rfl) rfl rfl ⟨Nat.le_of_ble_eq_true rfl, Nat.le_of_ble_eq_true rfl⟩ ⟨rfl, rfl⟩ (Nat.zero_le _) (Nat.zero_le _) (zc_advanceNet_14_93  S0 n hn G_S0 hN) (fun S130 hP => ?_)
          obtain ⟨G_S130, fS130, o132⟩ := hP
          have F_S130 := zz_fr.trans F_S0 fS130 rfl zz_nv
          have R_S130 : zz_Hr S130 := zz_Hr.fr fS130 rfl rfl (fun b j h => h.elim) R_S0
          refine zz_aload_n (x := 1079) rfl zd_14_104_40 ?_
          have g133 := zz_G.r G_S130 1079 30 0 102 rfl rfl
          have g134 := zz_G.r G_S130 1079 32 0 1500 rfl rfl
          refine zz_callVI [] zd_14_104_41 zk_Md_582 zT_1079 (zz_ltn hn rfl) rfl rfl ⟨Nat.le_of_ble_eq_true rfl, Nat.le_of_ble_eq_true rfl⟩ ⟨rfl, rfl⟩ (Nat.zero_le _) (Nat.zero_le _) (zc_takeTensor_14_102  S130 n hn G_S130 (fun u h1 h2 => ((zz_rc fS130 (zz_nc1 rfl) rfl (fun h => h) rfl)).trans (hN u h1 h2))) (fun v136 S135 hP => ?_)
          obtain ⟨G_S135, fS135, o137, o138⟩ := hP
          have F_S135 := zz_fr.trans F_S130 fS135 rfl zz_nv
          have R_S135 : zz_Hr S135 := zz_Hr.fr fS135 rfl rfl (fun b j h => h.elim) R_S130
          refine zz_istore_n [some (.ref 1079), some (zi 0), some (zi 1), some (zi v136)] zd_14_104_44 (by decide) rfl ?_
          refine zz_iload_n (x := 0) rfl zd_14_104_45 ?_
          refine zz_if_ne (by omega) zd_14_104_46 (fun c139 => ?_) (fun c139 => ?_)
          · exfalso; omega
          · refine zz_iload_n (x := 1) rfl zd_14_104_49 ?_
            refine zz_if_ne (by omega) zd_14_104_50 (fun c140 => ?_) (fun c140 => ?_)
            · refine zz_iconst zd_14_104_64 ?_
              refine zz_istore [some (.ref 1079), some (zi 0), some (zi 1), some (zi v136), some (zi 0)] zd_14_104_65 (by decide) rfl ?_
              refine zz_iload_n (x := v136) rfl zd_14_104_67 ?_
              refine zz_if_lt (by omega) zd_14_104_68 (fun c141 => ?_) (fun c141 => ?_)
              · refine zz_iconst zd_14_104_106 ?_
                have g142 := zz_G.r G_S0 1079 36 0 11 rfl rfl
                have e143 : S135 1079 36 = S0 1079 36 := (zz_rc fS135 rfl rfl (fun h => h) (zz_rc fS130 rfl rfl (fun h => h) rfl))
                exact zz_zret zd_14_104_107 rfl (by omega) (Nat.zero_le _) (Nat.zero_le _) ⟨_, _, rfl, G_S135, F_S135, by omega, by omega, R_S135⟩
              · refine zz_iload (x := 0) rfl zd_14_104_71 ?_
                refine zz_if_lt (by omega) zd_14_104_73 (fun c144 => ?_) (fun c144 => ?_)
                · exfalso; omega
                · refine zz_aload_n (x := 1079) rfl zd_14_104_76 ?_
                  refine zz_iload_n (x := 0) rfl zd_14_104_77 ?_
                  refine zz_if_eq (by omega) zd_14_104_78 (fun c145 => ?_) (fun c145 => ?_)
                  · refine zz_iload_n (x := 1) rfl zd_14_104_87 ?_
                    refine zz_if_eq (by omega) zd_14_104_88 (fun c146 => ?_) (fun c146 => ?_)
                    · exfalso; omega
                    · refine zz_sipush (by decide) zd_14_104_91 ?_
                      refine zz_goto zd_14_104_94 ?_
                      refine zz_callVI [zi 137] zd_14_104_100 zk_Md_576 zT_1079 (zz_ltn hn rfl) rfl rfl ⟨Nat.le_of_ble_eq_true rfl, Nat.le_of_ble_eq_true rfl⟩ ⟨rfl, rfl⟩ (Nat.zero_le _) (Nat.zero_le _) (zc_takeParts_14_101 137 S135 n hn G_S135 (by omega) (fun u h1 h2 => ((zz_rc fS135 (zz_nc1 rfl) rfl (fun h => h) (zz_rc fS130 (zz_nc1 rfl) rfl (fun h => h) rfl))).trans (hN u h1 h2))) (fun v148 S147 hP => ?_)
                      obtain ⟨G_S147, fS147, o149⟩ := hP
                      have F_S147 := zz_fr.trans F_S135 fS147 rfl zz_nv
                      have R_S147 : zz_Hr S147 := zz_Hr.fr fS147 rfl rfl (fun b j h => h.elim) R_S135
                      rcases (by omega : v148 = 0 ∨ v148 = 1) with rfl | rfl
                      · refine zz_if_ne (by omega) zd_14_104_103 (fun c150 => ?_) (fun c150 => ?_)
                        · exfalso; omega
                        · refine zz_iconst zd_14_104_106 ?_
                          have g151 := zz_G.r G_S0 1079 36 0 11 rfl rfl
                          have e152 : S147 1079 36 = S0 1079 36 := (zz_rc fS147 rfl rfl (fun h => h) (zz_rc fS135 rfl rfl (fun h => h) (zz_rc fS130 rfl rfl (fun h => h) rfl)))
                          exact zz_zret zd_14_104_107 rfl (by omega) (Nat.zero_le _) (Nat.zero_le _) ⟨_, _, rfl, G_S147, F_S147, by omega, by omega, R_S147⟩
                      · refine zz_if_ne (by omega) zd_14_104_103 (fun c153 => ?_) (fun c153 => ?_)
                        · refine zz_aload_n (x := 1079) rfl zd_14_104_108 ?_
                          refine zz_getr (kd := 0) (z := 1118) zd_14_104_109 zf_Md_136 zT_1079 rfl (zz_ltn hn rfl) (zz_G.eq G_S147 1079 63 1118 rfl rfl) (by decide) 1118 rfl ?_
                          refine zz_bipush (by decide) zd_14_104_112 ?_
                          have g154 := zz_G.r G_S147 1118 6 0 9999 rfl rfl
                          refine zz_iald (z := S147 1118 6) zd_14_104_114 zT_1118 rfl (zz_ltn hn rfl) (by decide) (by decide) rfl ?_
                          refine zz_bipush (by decide) zd_14_104_115 ?_
                          refine zz_aload_n (x := 1079) rfl zd_14_104_117 ?_
                          refine zz_getr (kd := 0) (z := 1118) zd_14_104_118 zf_Md_136 zT_1079 rfl (zz_ltn hn rfl) (zz_G.eq G_S147 1079 63 1118 rfl rfl) (by decide) 1118 rfl ?_
                          refine zz_bipush (by decide) zd_14_104_121 ?_
                          have g155 := zz_G.r G_S147 1118 7 0 9999 rfl rfl
                          refine zz_iald (z := S147 1118 7) zd_14_104_123 zT_1118 rfl (zz_ltn hn rfl) (by decide) (by decide) rfl ?_
                          refine zz_imul zd_14_104_124 ?_
                          refine zz_iadd zd_14_104_125 ?_
                          refine zz_istore [some (.ref 1079), some (zi 0), some (zi 1), some (zi v136), some (zi 0), some (zi ((S147 1118 6) + (16 * (S147 1118 7))))] zd_14_104_126 (by decide) rfl ?_
                          refine zz_bipush (by decide) zd_14_104_128 ?_
                          refine zz_aload_n (x := 1079) rfl zd_14_104_130 ?_
                          refine zz_getr (kd := 0) (z := 1118) zd_14_104_131 zf_Md_136 zT_1079 rfl (zz_ltn hn rfl) (zz_G.eq G_S147 1079 63 1118 rfl rfl) (by decide) 1118 rfl ?_
                          refine zz_iconst zd_14_104_134 ?_
                          have g156 := zz_G.r G_S147 1118 0 0 9999 rfl rfl
                          refine zz_iald (z := S147 1118 0) zd_14_104_135 zT_1118 rfl (zz_ltn hn rfl) (by decide) (by decide) rfl ?_
                          refine zz_imul zd_14_104_136 ?_
                          refine zz_aload_n (x := 1079) rfl zd_14_104_137 ?_
                          refine zz_getr (kd := 0) (z := 1118) zd_14_104_138 zf_Md_136 zT_1079 rfl (zz_ltn hn rfl) (zz_G.eq G_S147 1079 63 1118 rfl rfl) (by decide) 1118 rfl ?_
                          refine zz_iconst zd_14_104_141 ?_
                          have g157 := zz_G.r G_S147 1118 1 0 9999 rfl rfl
                          refine zz_iald (z := S147 1118 1) zd_14_104_142 zT_1118 rfl (zz_ltn hn rfl) (by decide) (by decide) rfl ?_
                          refine zz_iadd zd_14_104_143 ?_
                          refine zz_istore [some (.ref 1079), some (zi 0), some (zi 1), some (zi v136), some (zi 0), some (zi ((S147 1118 6) + (16 * (S147 1118 7)))), some (zi ((10 * (S147 1118 0)) + (S147 1118 1)))] zd_14_104_144 (by decide) rfl ?_
                          refine zz_aload_n (x := 1079) rfl zd_14_104_146 ?_
                          refine zz_getr (kd := 0) (z := 1118) zd_14_104_147 zf_Md_136 zT_1079 rfl (zz_ltn hn rfl) (zz_G.eq G_S147 1079 63 1118 rfl rfl) (by decide) 1118 rfl ?_
                          refine zz_iconst zd_14_104_150 ?_
                          refine zz_iald (z := S147 1118 0) zd_14_104_151 zT_1118 rfl (zz_ltn hn rfl) (by decide) (by decide) rfl ?_
                          refine zz_i2l (by omega) zd_14_104_152 ?_
                          refine zz_lconst (z := 1) (by decide) zd_14_104_153 ?_
                          refine zz_ldc2 (z := 3) zq_Md_416 (by decide) zd_14_104_154 ?_
                          refine zz_callSI [zl (S147 1118 0), zl 1, zl 3] zd_14_104_157 zk_Md_192 rfl rfl ⟨Nat.le_of_ble_eq_true rfl, Nat.le_of_ble_eq_true rfl⟩ ⟨rfl, rfl⟩ (Nat.zero_le _) (Nat.zero_le _) (zc_in_14_4 (S147 1118 0) 1 3 S147 n hn G_S147 (by omega) (by omega) (by omega)) (fun v159 S158 hP => ?_)
                          obtain ⟨rfl, o160, o161⟩ := hP
                          rcases (by omega : v159 = 0 ∨ v159 = 1) with rfl | rfl
                          · have n162 : S147 1118 0 < 1 ∨ 3 < S147 1118 0 := by omega
                            clear o161
                            refine zz_if_eq (by omega) zd_14_104_160 (fun c163 => ?_) (fun c163 => ?_)
                            · refine zz_iconst zd_14_104_184 ?_
                              refine zz_istore [some (.ref 1079), some (zi 0), some (zi 1), some (zi v136), some (zi 0), some (zi ((S147 1118 6) + (16 * (S147 1118 7)))), some (zi ((10 * (S147 1118 0)) + (S147 1118 1))), some (zi 0)] zd_14_104_185 (by decide) rfl ?_
                              refine zz_iconst zd_14_104_187 ?_
                              refine zz_istore [some (.ref 1079), some (zi 0), some (zi 1), some (zi v136), some (zi 0), some (zi ((S147 1118 6) + (16 * (S147 1118 7)))), some (zi ((10 * (S147 1118 0)) + (S147 1118 1))), some (zi 0), some (zi (-1))] zd_14_104_188 (by decide) rfl ?_
                              refine zz_iload_n (x := 0) rfl zd_14_104_190 ?_
                              refine zz_if_eq (by omega) zd_14_104_191 (fun c164 => ?_) (fun c164 => ?_)
                              · refine zz_iload_n (x := 1) rfl zd_14_104_299 ?_
                                refine zz_if_eq (by omega) zd_14_104_300 (fun c165 => ?_) (fun c165 => ?_)
                                · exfalso; omega
                                · refine zz_aload_n (x := 1079) rfl zd_14_104_303 ?_
                                  have g166 := zz_G.r G_S147 1079 65 0 255 rfl rfl
                                  refine zz_geti (z := S147 1079 65) zd_14_104_304 zf_Md_567 zT_1079 rfl (zz_ltn hn rfl) rfl ?_
                                  refine zz_iconst zd_14_104_307 ?_
                                  refine zz_iand (by omega) (by omega) zd_14_104_308 (fun v167 hv167 av167 bv167 ev167 => ?_)
                                  refine zz_if_eq (by omega) zd_14_104_309 (fun c168 => ?_) (fun c168 => ?_)
                                  · refine zz_iconst zd_14_104_317 ?_
                                    have g169 := zz_G.r G_S0 1079 36 0 11 rfl rfl
                                    have e170 : S147 1079 36 = S0 1079 36 := (zz_rc fS147 rfl rfl (fun h => h) (zz_rc fS135 rfl rfl (fun h => h) (zz_rc fS130 rfl rfl (fun h => h) rfl)))
                                    exact zz_zret zd_14_104_318 rfl (by omega) (Nat.zero_le _) (Nat.zero_le _) ⟨_, _, rfl, G_S147, F_S147, by omega, by omega, R_S147⟩
                                  · refine zz_iload (x := 0) rfl zd_14_104_312 ?_
                                    refine zz_if_ne (by omega) zd_14_104_314 (fun c171 => ?_) (fun c171 => ?_)
                                    · exfalso; omega
                                    · refine zz_iconst zd_14_104_317 ?_
                                      have g172 := zz_G.r G_S0 1079 36 0 11 rfl rfl
                                      have e173 : S147 1079 36 = S0 1079 36 := (zz_rc fS147 rfl rfl (fun h => h) (zz_rc fS135 rfl rfl (fun h => h) (zz_rc fS130 rfl rfl (fun h => h) rfl)))
                                      exact zz_zret zd_14_104_318 rfl (by omega) (Nat.zero_le _) (Nat.zero_le _) ⟨_, _, rfl, G_S147, F_S147, by omega, by omega, R_S147⟩
                              · exfalso; omega
                            · exfalso; omega
                          · have n174 : 1 ≤ S147 1118 0 ∧ S147 1118 0 ≤ 3 := by omega
                            clear o161
                            refine zz_if_eq (by omega) zd_14_104_160 (fun c175 => ?_) (fun c175 => ?_)
                            · exfalso; omega
                            · refine zz_aload_n (x := 1079) rfl zd_14_104_163 ?_
                              refine zz_getr (kd := 0) (z := 1118) zd_14_104_164 zf_Md_136 zT_1079 rfl (zz_ltn hn rfl) (zz_G.eq G_S147 1079 63 1118 rfl rfl) (by decide) 1118 rfl ?_
                              refine zz_iconst zd_14_104_167 ?_
                              refine zz_iald (z := S147 1118 1) zd_14_104_168 zT_1118 rfl (zz_ltn hn rfl) (by decide) (by decide) rfl ?_
                              refine zz_i2l (by omega) zd_14_104_169 ?_
                              refine zz_lconst (z := 1) (by decide) zd_14_104_170 ?_
                              refine zz_ldc2 (z := 3) zq_Md_416 (by decide) zd_14_104_171 ?_
                              refine zz_callSI [zl (S147 1118 1), zl 1, zl 3] zd_14_104_174 zk_Md_192 rfl rfl ⟨Nat.le_of_ble_eq_true rfl, Nat.le_of_ble_eq_true rfl⟩ ⟨rfl, rfl⟩ (Nat.zero_le _) (Nat.zero_le _) (zc_in_14_4 (S147 1118 1) 1 3 S147 n hn G_S147 (by omega) (by omega) (by omega)) (fun v177 S176 hP => ?_)
                              obtain ⟨rfl, o178, o179⟩ := hP
                              rcases (by omega : v177 = 0 ∨ v177 = 1) with rfl | rfl
                              · have n180 : S147 1118 1 < 1 ∨ 3 < S147 1118 1 := by omega
                                clear o179
                                refine zz_if_eq (by omega) zd_14_104_177 (fun c181 => ?_) (fun c181 => ?_)
                                · refine zz_iconst zd_14_104_184 ?_
                                  refine zz_istore [some (.ref 1079), some (zi 0), some (zi 1), some (zi v136), some (zi 0), some (zi ((S147 1118 6) + (16 * (S147 1118 7)))), some (zi ((10 * (S147 1118 0)) + (S147 1118 1))), some (zi 0)] zd_14_104_185 (by decide) rfl ?_
                                  refine zz_iconst zd_14_104_187 ?_
                                  refine zz_istore [some (.ref 1079), some (zi 0), some (zi 1), some (zi v136), some (zi 0), some (zi ((S147 1118 6) + (16 * (S147 1118 7)))), some (zi ((10 * (S147 1118 0)) + (S147 1118 1))), some (zi 0), some (zi (-1))] zd_14_104_188 (by decide) rfl ?_
                                  refine zz_iload_n (x := 0) rfl zd_14_104_190 ?_
                                  refine zz_if_eq (by omega) zd_14_104_191 (fun c182 => ?_) (fun c182 => ?_)
                                  · refine zz_iload_n (x := 1) rfl zd_14_104_299 ?_
                                    refine zz_if_eq (by omega) zd_14_104_300 (fun c183 => ?_) (fun c183 => ?_)
                                    · exfalso; omega
                                    · refine zz_aload_n (x := 1079) rfl zd_14_104_303 ?_
                                      have g184 := zz_G.r G_S147 1079 65 0 255 rfl rfl
                                      refine zz_geti (z := S147 1079 65) zd_14_104_304 zf_Md_567 zT_1079 rfl (zz_ltn hn rfl) rfl ?_
                                      refine zz_iconst zd_14_104_307 ?_
                                      refine zz_iand (by omega) (by omega) zd_14_104_308 (fun v185 hv185 av185 bv185 ev185 => ?_)
                                      refine zz_if_eq (by omega) zd_14_104_309 (fun c186 => ?_) (fun c186 => ?_)
                                      · refine zz_iconst zd_14_104_317 ?_
                                        have g187 := zz_G.r G_S0 1079 36 0 11 rfl rfl
                                        have e188 : S147 1079 36 = S0 1079 36 := (zz_rc fS147 rfl rfl (fun h => h) (zz_rc fS135 rfl rfl (fun h => h) (zz_rc fS130 rfl rfl (fun h => h) rfl)))
                                        exact zz_zret zd_14_104_318 rfl (by omega) (Nat.zero_le _) (Nat.zero_le _) ⟨_, _, rfl, G_S147, F_S147, by omega, by omega, R_S147⟩
                                      · refine zz_iload (x := 0) rfl zd_14_104_312 ?_
                                        refine zz_if_ne (by omega) zd_14_104_314 (fun c189 => ?_) (fun c189 => ?_)
                                        · exfalso; omega
                                        · refine zz_iconst zd_14_104_317 ?_
                                          have g190 := zz_G.r G_S0 1079 36 0 11 rfl rfl
                                          have e191 : S147 1079 36 = S0 1079 36 := (zz_rc fS147 rfl rfl (fun h => h) (zz_rc fS135 rfl rfl (fun h => h) (zz_rc fS130 rfl rfl (fun h => h) rfl)))
                                          exact zz_zret zd_14_104_318 rfl (by omega) (Nat.zero_le _) (Nat.zero_le _) ⟨_, _, rfl, G_S147, F_S147, by omega, by omega, R_S147⟩
                                  · exfalso; omega
                                · exfalso; omega
                              · have n192 : 1 ≤ S147 1118 1 ∧ S147 1118 1 ≤ 3 := by omega
                                clear o179
                                refine zz_if_eq (by omega) zd_14_104_177 (fun c193 => ?_) (fun c193 => ?_)
                                · exfalso; omega
                                · refine zz_iconst zd_14_104_180 ?_
                                  refine zz_goto zd_14_104_181 ?_
                                  refine zz_istore [some (.ref 1079), some (zi 0), some (zi 1), some (zi v136), some (zi 0), some (zi ((S147 1118 6) + (16 * (S147 1118 7)))), some (zi ((10 * (S147 1118 0)) + (S147 1118 1))), some (zi 1)] zd_14_104_185 (by decide) rfl ?_
                                  refine zz_iconst zd_14_104_187 ?_
                                  refine zz_istore [some (.ref 1079), some (zi 0), some (zi 1), some (zi v136), some (zi 0), some (zi ((S147 1118 6) + (16 * (S147 1118 7)))), some (zi ((10 * (S147 1118 0)) + (S147 1118 1))), some (zi 1), some (zi (-1))] zd_14_104_188 (by decide) rfl ?_
                                  refine zz_iload_n (x := 0) rfl zd_14_104_190 ?_
                                  refine zz_if_eq (by omega) zd_14_104_191 (fun c194 => ?_) (fun c194 => ?_)
                                  · refine zz_iload_n (x := 1) rfl zd_14_104_299 ?_
                                    refine zz_if_eq (by omega) zd_14_104_300 (fun c195 => ?_) (fun c195 => ?_)
                                    · exfalso; omega
                                    · refine zz_aload_n (x := 1079) rfl zd_14_104_303 ?_
                                      have g196 := zz_G.r G_S147 1079 65 0 255 rfl rfl
                                      refine zz_geti (z := S147 1079 65) zd_14_104_304 zf_Md_567 zT_1079 rfl (zz_ltn hn rfl) rfl ?_
                                      refine zz_iconst zd_14_104_307 ?_
                                      refine zz_iand (by omega) (by omega) zd_14_104_308 (fun v197 hv197 av197 bv197 ev197 => ?_)
                                      refine zz_if_eq (by omega) zd_14_104_309 (fun c198 => ?_) (fun c198 => ?_)
                                      · refine zz_iconst zd_14_104_317 ?_
                                        have g199 := zz_G.r G_S0 1079 36 0 11 rfl rfl
                                        have e200 : S147 1079 36 = S0 1079 36 := (zz_rc fS147 rfl rfl (fun h => h) (zz_rc fS135 rfl rfl (fun h => h) (zz_rc fS130 rfl rfl (fun h => h) rfl)))
                                        exact zz_zret zd_14_104_318 rfl (by omega) (Nat.zero_le _) (Nat.zero_le _) ⟨_, _, rfl, G_S147, F_S147, by omega, by omega, R_S147⟩
                                      · refine zz_iload (x := 1) rfl zd_14_104_312 ?_
                                        refine zz_if_ne (by omega) zd_14_104_314 (fun c201 => ?_) (fun c201 => ?_)
                                        · refine zz_aload_n (x := 1079) rfl zd_14_104_319 ?_
                                          refine zz_iload_n (x := v136) rfl zd_14_104_320 ?_
                                          refine zz_iload (x := (10 * (S147 1118 0)) + (S147 1118 1)) rfl zd_14_104_321 ?_
                                          refine zz_aload_n (x := 1079) rfl zd_14_104_323 ?_
                                          refine zz_getr (kd := 0) (z := 1118) zd_14_104_324 zf_Md_136 zT_1079 rfl (zz_ltn hn rfl) (zz_G.eq G_S147 1079 63 1118 rfl rfl) (by decide) 1118 rfl ?_
                                          refine zz_iconst zd_14_104_327 ?_
                                          have g202 := zz_G.r G_S147 1118 4 0 9999 rfl rfl
                                          refine zz_iald (z := S147 1118 4) zd_14_104_328 zT_1118 rfl (zz_ltn hn rfl) (by decide) (by decide) rfl ?_
                                          have g203 := zz_G.r G_S0 1079 36 0 11 rfl rfl
                                          have e204 : S147 1079 36 = S0 1079 36 := (zz_rc fS147 rfl rfl (fun h => h) (zz_rc fS135 rfl rfl (fun h => h) (zz_rc fS130 rfl rfl (fun h => h) rfl)))
                                          refine zz_callVI [zi v136, zi ((10 * (S147 1118 0)) + (S147 1118 1)), zi (S147 1118 4)] zd_14_104_329 zk_Md_589 zT_1079 (zz_ltn hn rfl) rfl rfl ⟨Nat.le_of_ble_eq_true rfl, Nat.le_of_ble_eq_true rfl⟩ ⟨rfl, rfl⟩ (Nat.zero_le _) (Nat.zero_le _) (zc_pool_14_69 v136 ((10 * (S147 1118 0)) + (S147 1118 1)) (S147 1118 4) S147 n hn G_S147 (by omega) (by omega) (by omega) R_S147) (fun v206 S205 hP => ?_)
                                          obtain ⟨G_S205, fS205, o207, o208, o209⟩ := hP
                                          have F_S205 := zz_fr.trans F_S147 fS205 rfl (fun a i h => by rcases h with h | h | h | h | h | h | h | h | h | h | h; exact Or.inr (Or.inl (by rw [h.1]; rfl)); exact Or.inr (Or.inl (by rw [h.1]; rfl)); exact Or.inr (Or.inl (by rw [h.1]; rfl)); exact Or.inr (Or.inl (by rw [h.1]; rfl)); exact Or.inr (Or.inl (by rw [h.1]; rfl)); exact Or.inr (Or.inl (by rw [h.1]; rfl)); exact Or.inr (Or.inl (by rw [h.1]; rfl)); exact Or.inr (Or.inl (by rw [h.1]; rfl)); exact Or.inr (Or.inl (by rw [h.1]; rfl)); exact Or.inr (Or.inl (by rw [h.1]; rfl)); exact Or.inr (Or.inl (by rw [h.1]; rfl)))
                                          have R_S205 : zz_Hr S205 := o209
                                          refine zz_istore [some (.ref 1079), some (zi 0), some (zi 1), some (zi v136), some (zi 0), some (zi ((S147 1118 6) + (16 * (S147 1118 7)))), some (zi ((10 * (S147 1118 0)) + (S147 1118 1))), some (zi 1), some (zi v206)] zd_14_104_332 (by decide) rfl ?_
                                          refine zz_goto zd_14_104_334 ?_
                                          refine zz_aload_n (x := 1079) rfl zd_14_104_362 ?_
                                          have g210 := zz_G.r G_S205 1079 0 0 3 rfl rfl
                                          refine zz_geti (z := S205 1079 0) zd_14_104_363 zf_Md_187 zT_1079 rfl (zz_ltn hn rfl) rfl ?_
                                          refine zz_if_le (by omega) zd_14_104_366 (fun c211 => ?_) (fun c211 => ?_)
                                          · refine zz_aload_n (x := 1079) rfl zd_14_104_371 ?_
                                            refine zz_getr (kd := 0) (z := 1117) zd_14_104_372 zf_Md_133 zT_1079 rfl (zz_ltn hn rfl) (zz_G.eq G_S205 1079 62 1117 rfl rfl) (by decide) 1117 rfl ?_
                                            refine zz_iload (x := v206) rfl zd_14_104_375 ?_
                                            refine zz_aload_n (x := 1079) rfl zd_14_104_377 ?_
                                            have g212 := zz_G.r G_S147 1079 64 (-9223372036854775808) 9223372036854775807 rfl rfl
                                            refine zz_getl (z := S147 1079 64) zd_14_104_378 zf_Md_564 zT_1079 rfl (zz_ltn hn rfl) (zz_rc fS205 rfl rfl (by omega) rfl) ?_
                                            refine zz_last zd_14_104_381 zT_1117 rfl (zz_ltn hn rfl) (by decide) (by omega) (fun S213 qS213 => ?_)
                                            have G_S213 := zz_G.put G_S205 qS213 (-9223372036854775808) 9223372036854775807 rfl (by omega)
                                            have F_S213 := zz_fr.putc F_S205 qS213 rfl
                                            have R_S213 : zz_Hr S213 := zz_Hr.fr (zz_fr.put1 qS213) rfl rfl (fun b j h => by omega) R_S205
                                            refine zz_iconst zd_14_104_382 ?_
                                            have g214 := zz_G.r G_S205 1079 36 0 11 rfl rfl
                                            have e215 : S213 1079 36 = S205 1079 36 := (zz_ro qS213 (fun h => absurd h.1 (by decide)) rfl)
                                            exact zz_zret zd_14_104_383 rfl (by omega) (Nat.zero_le _) (Nat.zero_le _) ⟨_, _, rfl, G_S213, F_S213, by omega, by omega, R_S213⟩
                                          · refine zz_iconst zd_14_104_369 ?_
                                            have g216 := zz_G.r G_S205 1079 36 0 11 rfl rfl
                                            exact zz_zret zd_14_104_370 rfl (by omega) (Nat.zero_le _) (Nat.zero_le _) ⟨_, _, rfl, G_S205, F_S205, by omega, by omega, R_S205⟩
                                        · exfalso; omega
                                  · exfalso; omega
                        · exfalso; omega
                  · exfalso; omega
            · exfalso; omega
        · exfalso; omega
  · refine zz_istore_n [some (.ref 1079), some (zi 1)] zd_14_104_7 (by decide) rfl ?_
    refine zz_aload_n (x := 1079) rfl zd_14_104_8 ?_
    refine zz_ldc2 (z := 409072) zq_Md_536 (by decide) zd_14_104_9 ?_
    refine zz_callVI [zl 409072] zd_14_104_12 zk_Md_529 zT_1079 (zz_ltn hn rfl) rfl rfl ⟨Nat.le_of_ble_eq_true rfl, Nat.le_of_ble_eq_true rfl⟩ ⟨rfl, rfl⟩ (Nat.zero_le _) (Nat.zero_le _) (zc_isWord_14_94 409072 S0 n hn G_S0 (by omega)) (fun v218 S217 hP => ?_)
    obtain ⟨rfl, o219⟩ := hP
    rcases (by omega : v218 = 0 ∨ v218 = 1) with rfl | rfl
    · refine zz_istore_n [some (.ref 1079), some (zi 1), some (zi 0)] zd_14_104_15 (by decide) rfl ?_
      refine zz_iload_n (x := 1) rfl zd_14_104_16 ?_
      refine zz_if_ne (by omega) zd_14_104_17 (fun c220 => ?_) (fun c220 => ?_)
      · refine zz_aload_n (x := 1079) rfl zd_14_104_36 ?_
        have g221 := zz_G.r G_S0 1079 32 0 1500 rfl rfl
        refine zz_callVV [] zd_14_104_37 zk_Md_526 zT_1079 (zz_ltn hn rfl) rfl rfl ⟨Nat.le_of_ble_eq_true rfl, Nat.le_of_ble_eq_true rfl⟩ ⟨rfl, rfl⟩ (Nat.zero_le _) (Nat.zero_le _) (zc_advanceNet_14_93  S0 n hn G_S0 hN) (fun S222 hP => ?_)
        obtain ⟨G_S222, fS222, o224⟩ := hP
        have F_S222 := zz_fr.trans F_S0 fS222 rfl zz_nv
        have R_S222 : zz_Hr S222 := zz_Hr.fr fS222 rfl rfl (fun b j h => h.elim) R_S0
        refine zz_aload_n (x := 1079) rfl zd_14_104_40 ?_
        have g225 := zz_G.r G_S222 1079 30 0 102 rfl rfl
        have g226 := zz_G.r G_S222 1079 32 0 1500 rfl rfl
        refine zz_callVI [] zd_14_104_41 zk_Md_582 zT_1079 (zz_ltn hn rfl) rfl rfl ⟨Nat.le_of_ble_eq_true rfl, Nat.le_of_ble_eq_true rfl⟩ ⟨rfl, rfl⟩ (Nat.zero_le _) (Nat.zero_le _) (zc_takeTensor_14_102  S222 n hn G_S222 (fun u h1 h2 => ((zz_rc fS222 (zz_nc1 rfl) rfl (fun h => h) rfl)).trans (hN u h1 h2))) (fun v228 S227 hP => ?_)
        obtain ⟨G_S227, fS227, o229, o230⟩ := hP
        have F_S227 := zz_fr.trans F_S222 fS227 rfl zz_nv
        have R_S227 : zz_Hr S227 := zz_Hr.fr fS227 rfl rfl (fun b j h => h.elim) R_S222
        refine zz_istore_n [some (.ref 1079), some (zi 1), some (zi 0), some (zi v228)] zd_14_104_44 (by decide) rfl ?_
        refine zz_iload_n (x := 1) rfl zd_14_104_45 ?_
        refine zz_if_ne (by omega) zd_14_104_46 (fun c231 => ?_) (fun c231 => ?_)
        · refine zz_iconst zd_14_104_64 ?_
          refine zz_istore [some (.ref 1079), some (zi 1), some (zi 0), some (zi v228), some (zi 0)] zd_14_104_65 (by decide) rfl ?_
          refine zz_iload_n (x := v228) rfl zd_14_104_67 ?_
          refine zz_if_lt (by omega) zd_14_104_68 (fun c232 => ?_) (fun c232 => ?_)
          · refine zz_iconst zd_14_104_106 ?_
            have g233 := zz_G.r G_S0 1079 36 0 11 rfl rfl
            have e234 : S227 1079 36 = S0 1079 36 := (zz_rc fS227 rfl rfl (fun h => h) (zz_rc fS222 rfl rfl (fun h => h) rfl))
            exact zz_zret zd_14_104_107 rfl (by omega) (Nat.zero_le _) (Nat.zero_le _) ⟨_, _, rfl, G_S227, F_S227, by omega, by omega, R_S227⟩
          · refine zz_iload (x := 0) rfl zd_14_104_71 ?_
            refine zz_if_lt (by omega) zd_14_104_73 (fun c235 => ?_) (fun c235 => ?_)
            · exfalso; omega
            · refine zz_aload_n (x := 1079) rfl zd_14_104_76 ?_
              refine zz_iload_n (x := 1) rfl zd_14_104_77 ?_
              refine zz_if_eq (by omega) zd_14_104_78 (fun c236 => ?_) (fun c236 => ?_)
              · exfalso; omega
              · refine zz_sipush (by decide) zd_14_104_81 ?_
                refine zz_goto zd_14_104_84 ?_
                refine zz_callVI [zi 255] zd_14_104_100 zk_Md_576 zT_1079 (zz_ltn hn rfl) rfl rfl ⟨Nat.le_of_ble_eq_true rfl, Nat.le_of_ble_eq_true rfl⟩ ⟨rfl, rfl⟩ (Nat.zero_le _) (Nat.zero_le _) (zc_takeParts_14_101 255 S227 n hn G_S227 (by omega) (fun u h1 h2 => ((zz_rc fS227 (zz_nc1 rfl) rfl (fun h => h) (zz_rc fS222 (zz_nc1 rfl) rfl (fun h => h) rfl))).trans (hN u h1 h2))) (fun v238 S237 hP => ?_)
                obtain ⟨G_S237, fS237, o239⟩ := hP
                have F_S237 := zz_fr.trans F_S227 fS237 rfl zz_nv
                have R_S237 : zz_Hr S237 := zz_Hr.fr fS237 rfl rfl (fun b j h => h.elim) R_S227
                rcases (by omega : v238 = 0 ∨ v238 = 1) with rfl | rfl
                · refine zz_if_ne (by omega) zd_14_104_103 (fun c240 => ?_) (fun c240 => ?_)
                  · exfalso; omega
                  · refine zz_iconst zd_14_104_106 ?_
                    have g241 := zz_G.r G_S0 1079 36 0 11 rfl rfl
                    have e242 : S237 1079 36 = S0 1079 36 := (zz_rc fS237 rfl rfl (fun h => h) (zz_rc fS227 rfl rfl (fun h => h) (zz_rc fS222 rfl rfl (fun h => h) rfl)))
                    exact zz_zret zd_14_104_107 rfl (by omega) (Nat.zero_le _) (Nat.zero_le _) ⟨_, _, rfl, G_S237, F_S237, by omega, by omega, R_S237⟩
                · refine zz_if_ne (by omega) zd_14_104_103 (fun c243 => ?_) (fun c243 => ?_)
                  · refine zz_aload_n (x := 1079) rfl zd_14_104_108 ?_
                    refine zz_getr (kd := 0) (z := 1118) zd_14_104_109 zf_Md_136 zT_1079 rfl (zz_ltn hn rfl) (zz_G.eq G_S237 1079 63 1118 rfl rfl) (by decide) 1118 rfl ?_
                    refine zz_bipush (by decide) zd_14_104_112 ?_
                    have g244 := zz_G.r G_S237 1118 6 0 9999 rfl rfl
                    refine zz_iald (z := S237 1118 6) zd_14_104_114 zT_1118 rfl (zz_ltn hn rfl) (by decide) (by decide) rfl ?_
                    refine zz_bipush (by decide) zd_14_104_115 ?_
                    refine zz_aload_n (x := 1079) rfl zd_14_104_117 ?_
                    refine zz_getr (kd := 0) (z := 1118) zd_14_104_118 zf_Md_136 zT_1079 rfl (zz_ltn hn rfl) (zz_G.eq G_S237 1079 63 1118 rfl rfl) (by decide) 1118 rfl ?_
                    refine zz_bipush (by decide) zd_14_104_121 ?_
                    have g245 := zz_G.r G_S237 1118 7 0 9999 rfl rfl
                    refine zz_iald (z := S237 1118 7) zd_14_104_123 zT_1118 rfl (zz_ltn hn rfl) (by decide) (by decide) rfl ?_
                    refine zz_imul zd_14_104_124 ?_
                    refine zz_iadd zd_14_104_125 ?_
                    refine zz_istore [some (.ref 1079), some (zi 1), some (zi 0), some (zi v228), some (zi 0), some (zi ((S237 1118 6) + (16 * (S237 1118 7))))] zd_14_104_126 (by decide) rfl ?_
                    refine zz_bipush (by decide) zd_14_104_128 ?_
                    refine zz_aload_n (x := 1079) rfl zd_14_104_130 ?_
                    refine zz_getr (kd := 0) (z := 1118) zd_14_104_131 zf_Md_136 zT_1079 rfl (zz_ltn hn rfl) (zz_G.eq G_S237 1079 63 1118 rfl rfl) (by decide) 1118 rfl ?_
                    refine zz_iconst zd_14_104_134 ?_
                    have g246 := zz_G.r G_S237 1118 0 0 9999 rfl rfl
                    refine zz_iald (z := S237 1118 0) zd_14_104_135 zT_1118 rfl (zz_ltn hn rfl) (by decide) (by decide) rfl ?_
                    refine zz_imul zd_14_104_136 ?_
                    refine zz_aload_n (x := 1079) rfl zd_14_104_137 ?_
                    refine zz_getr (kd := 0) (z := 1118) zd_14_104_138 zf_Md_136 zT_1079 rfl (zz_ltn hn rfl) (zz_G.eq G_S237 1079 63 1118 rfl rfl) (by decide) 1118 rfl ?_
                    refine zz_iconst zd_14_104_141 ?_
                    have g247 := zz_G.r G_S237 1118 1 0 9999 rfl rfl
                    refine zz_iald (z := S237 1118 1) zd_14_104_142 zT_1118 rfl (zz_ltn hn rfl) (by decide) (by decide) rfl ?_
                    refine zz_iadd zd_14_104_143 ?_
                    refine zz_istore [some (.ref 1079), some (zi 1), some (zi 0), some (zi v228), some (zi 0), some (zi ((S237 1118 6) + (16 * (S237 1118 7)))), some (zi ((10 * (S237 1118 0)) + (S237 1118 1)))] zd_14_104_144 (by decide) rfl ?_
                    refine zz_aload_n (x := 1079) rfl zd_14_104_146 ?_
                    refine zz_getr (kd := 0) (z := 1118) zd_14_104_147 zf_Md_136 zT_1079 rfl (zz_ltn hn rfl) (zz_G.eq G_S237 1079 63 1118 rfl rfl) (by decide) 1118 rfl ?_
                    refine zz_iconst zd_14_104_150 ?_
                    refine zz_iald (z := S237 1118 0) zd_14_104_151 zT_1118 rfl (zz_ltn hn rfl) (by decide) (by decide) rfl ?_
                    refine zz_i2l (by omega) zd_14_104_152 ?_
                    refine zz_lconst (z := 1) (by decide) zd_14_104_153 ?_
                    refine zz_ldc2 (z := 3) zq_Md_416 (by decide) zd_14_104_154 ?_
                    refine zz_callSI [zl (S237 1118 0), zl 1, zl 3] zd_14_104_157 zk_Md_192 rfl rfl ⟨Nat.le_of_ble_eq_true rfl, Nat.le_of_ble_eq_true rfl⟩ ⟨rfl, rfl⟩ (Nat.zero_le _) (Nat.zero_le _) (zc_in_14_4 (S237 1118 0) 1 3 S237 n hn G_S237 (by omega) (by omega) (by omega)) (fun v249 S248 hP => ?_)
                    obtain ⟨rfl, o250, o251⟩ := hP
                    rcases (by omega : v249 = 0 ∨ v249 = 1) with rfl | rfl
                    · have n252 : S237 1118 0 < 1 ∨ 3 < S237 1118 0 := by omega
                      clear o251
                      refine zz_if_eq (by omega) zd_14_104_160 (fun c253 => ?_) (fun c253 => ?_)
                      · refine zz_iconst zd_14_104_184 ?_
                        refine zz_istore [some (.ref 1079), some (zi 1), some (zi 0), some (zi v228), some (zi 0), some (zi ((S237 1118 6) + (16 * (S237 1118 7)))), some (zi ((10 * (S237 1118 0)) + (S237 1118 1))), some (zi 0)] zd_14_104_185 (by decide) rfl ?_
                        refine zz_iconst zd_14_104_187 ?_
                        refine zz_istore [some (.ref 1079), some (zi 1), some (zi 0), some (zi v228), some (zi 0), some (zi ((S237 1118 6) + (16 * (S237 1118 7)))), some (zi ((10 * (S237 1118 0)) + (S237 1118 1))), some (zi 0), some (zi (-1))] zd_14_104_188 (by decide) rfl ?_
                        refine zz_iload_n (x := 1) rfl zd_14_104_190 ?_
                        refine zz_if_eq (by omega) zd_14_104_191 (fun c254 => ?_) (fun c254 => ?_)
                        · exfalso; omega
                        · refine zz_aload_n (x := 1079) rfl zd_14_104_194 ?_
                          have g255 := zz_G.r G_S237 1079 65 0 255 rfl rfl
                          refine zz_geti (z := S237 1079 65) zd_14_104_195 zf_Md_567 zT_1079 rfl (zz_ltn hn rfl) rfl ?_
                          refine zz_bipush (by decide) zd_14_104_198 ?_
                          refine zz_iand (by omega) (by omega) zd_14_104_200 (fun v256 hv256 av256 bv256 ev256 => ?_)
                          refine zz_bipush (by decide) zd_14_104_201 ?_
                          refine zz_icmp_ne (by omega) (by omega) zd_14_104_203 (fun c257 => ?_) (fun c257 => ?_)
                          · refine zz_iconst zd_14_104_255 ?_
                            have g258 := zz_G.r G_S0 1079 36 0 11 rfl rfl
                            have e259 : S237 1079 36 = S0 1079 36 := (zz_rc fS237 rfl rfl (fun h => h) (zz_rc fS227 rfl rfl (fun h => h) (zz_rc fS222 rfl rfl (fun h => h) rfl)))
                            exact zz_zret zd_14_104_256 rfl (by omega) (Nat.zero_le _) (Nat.zero_le _) ⟨_, _, rfl, G_S237, F_S237, by omega, by omega, R_S237⟩
                          · refine zz_iload (x := 0) rfl zd_14_104_206 ?_
                            refine zz_if_eq (by omega) zd_14_104_208 (fun c260 => ?_) (fun c260 => ?_)
                            · refine zz_iconst zd_14_104_255 ?_
                              have g261 := zz_G.r G_S0 1079 36 0 11 rfl rfl
                              have e262 : S237 1079 36 = S0 1079 36 := (zz_rc fS237 rfl rfl (fun h => h) (zz_rc fS227 rfl rfl (fun h => h) (zz_rc fS222 rfl rfl (fun h => h) rfl)))
                              exact zz_zret zd_14_104_256 rfl (by omega) (Nat.zero_le _) (Nat.zero_le _) ⟨_, _, rfl, G_S237, F_S237, by omega, by omega, R_S237⟩
                            · exfalso; omega
                      · exfalso; omega
                    · have n263 : 1 ≤ S237 1118 0 ∧ S237 1118 0 ≤ 3 := by omega
                      clear o251
                      refine zz_if_eq (by omega) zd_14_104_160 (fun c264 => ?_) (fun c264 => ?_)
                      · exfalso; omega
                      · refine zz_aload_n (x := 1079) rfl zd_14_104_163 ?_
                        refine zz_getr (kd := 0) (z := 1118) zd_14_104_164 zf_Md_136 zT_1079 rfl (zz_ltn hn rfl) (zz_G.eq G_S237 1079 63 1118 rfl rfl) (by decide) 1118 rfl ?_
                        refine zz_iconst zd_14_104_167 ?_
                        refine zz_iald (z := S237 1118 1) zd_14_104_168 zT_1118 rfl (zz_ltn hn rfl) (by decide) (by decide) rfl ?_
                        refine zz_i2l (by omega) zd_14_104_169 ?_
                        refine zz_lconst (z := 1) (by decide) zd_14_104_170 ?_
                        refine zz_ldc2 (z := 3) zq_Md_416 (by decide) zd_14_104_171 ?_
                        refine zz_callSI [zl (S237 1118 1), zl 1, zl 3] zd_14_104_174 zk_Md_192 rfl rfl ⟨Nat.le_of_ble_eq_true rfl, Nat.le_of_ble_eq_true rfl⟩ ⟨rfl, rfl⟩ (Nat.zero_le _) (Nat.zero_le _) (zc_in_14_4 (S237 1118 1) 1 3 S237 n hn G_S237 (by omega) (by omega) (by omega)) (fun v266 S265 hP => ?_)
                        obtain ⟨rfl, o267, o268⟩ := hP
                        rcases (by omega : v266 = 0 ∨ v266 = 1) with rfl | rfl
                        · have n269 : S237 1118 1 < 1 ∨ 3 < S237 1118 1 := by omega
                          clear o268
                          refine zz_if_eq (by omega) zd_14_104_177 (fun c270 => ?_) (fun c270 => ?_)
                          · refine zz_iconst zd_14_104_184 ?_
                            refine zz_istore [some (.ref 1079), some (zi 1), some (zi 0), some (zi v228), some (zi 0), some (zi ((S237 1118 6) + (16 * (S237 1118 7)))), some (zi ((10 * (S237 1118 0)) + (S237 1118 1))), some (zi 0)] zd_14_104_185 (by decide) rfl ?_
                            refine zz_iconst zd_14_104_187 ?_
                            refine zz_istore [some (.ref 1079), some (zi 1), some (zi 0), some (zi v228), some (zi 0), some (zi ((S237 1118 6) + (16 * (S237 1118 7)))), some (zi ((10 * (S237 1118 0)) + (S237 1118 1))), some (zi 0), some (zi (-1))] zd_14_104_188 (by decide) rfl ?_
                            refine zz_iload_n (x := 1) rfl zd_14_104_190 ?_
                            refine zz_if_eq (by omega) zd_14_104_191 (fun c271 => ?_) (fun c271 => ?_)
                            · exfalso; omega
                            · refine zz_aload_n (x := 1079) rfl zd_14_104_194 ?_
                              have g272 := zz_G.r G_S237 1079 65 0 255 rfl rfl
                              refine zz_geti (z := S237 1079 65) zd_14_104_195 zf_Md_567 zT_1079 rfl (zz_ltn hn rfl) rfl ?_
                              refine zz_bipush (by decide) zd_14_104_198 ?_
                              refine zz_iand (by omega) (by omega) zd_14_104_200 (fun v273 hv273 av273 bv273 ev273 => ?_)
                              refine zz_bipush (by decide) zd_14_104_201 ?_
                              refine zz_icmp_ne (by omega) (by omega) zd_14_104_203 (fun c274 => ?_) (fun c274 => ?_)
                              · refine zz_iconst zd_14_104_255 ?_
                                have g275 := zz_G.r G_S0 1079 36 0 11 rfl rfl
                                have e276 : S237 1079 36 = S0 1079 36 := (zz_rc fS237 rfl rfl (fun h => h) (zz_rc fS227 rfl rfl (fun h => h) (zz_rc fS222 rfl rfl (fun h => h) rfl)))
                                exact zz_zret zd_14_104_256 rfl (by omega) (Nat.zero_le _) (Nat.zero_le _) ⟨_, _, rfl, G_S237, F_S237, by omega, by omega, R_S237⟩
                              · refine zz_iload (x := 0) rfl zd_14_104_206 ?_
                                refine zz_if_eq (by omega) zd_14_104_208 (fun c277 => ?_) (fun c277 => ?_)
                                · refine zz_iconst zd_14_104_255 ?_
                                  have g278 := zz_G.r G_S0 1079 36 0 11 rfl rfl
                                  have e279 : S237 1079 36 = S0 1079 36 := (zz_rc fS237 rfl rfl (fun h => h) (zz_rc fS227 rfl rfl (fun h => h) (zz_rc fS222 rfl rfl (fun h => h) rfl)))
                                  exact zz_zret zd_14_104_256 rfl (by omega) (Nat.zero_le _) (Nat.zero_le _) ⟨_, _, rfl, G_S237, F_S237, by omega, by omega, R_S237⟩
                                · exfalso; omega
                          · exfalso; omega
                        · have n280 : 1 ≤ S237 1118 1 ∧ S237 1118 1 ≤ 3 := by omega
                          clear o268
                          refine zz_if_eq (by omega) zd_14_104_177 (fun c281 => ?_) (fun c281 => ?_)
                          · exfalso; omega
                          · refine zz_iconst zd_14_104_180 ?_
                            refine zz_goto zd_14_104_181 ?_
                            refine zz_istore [some (.ref 1079), some (zi 1), some (zi 0), some (zi v228), some (zi 0), some (zi ((S237 1118 6) + (16 * (S237 1118 7)))), some (zi ((10 * (S237 1118 0)) + (S237 1118 1))), some (zi 1)] zd_14_104_185 (by decide) rfl ?_
                            refine zz_iconst zd_14_104_187 ?_
                            refine zz_istore [some (.ref 1079), some (zi 1), some (zi 0), some (zi v228), some (zi 0), some (zi ((S237 1118 6) + (16 * (S237 1118 7)))), some (zi ((10 * (S237 1118 0)) + (S237 1118 1))), some (zi 1), some (zi (-1))] zd_14_104_188 (by decide) rfl ?_
                            refine zz_iload_n (x := 1) rfl zd_14_104_190 ?_
                            refine zz_if_eq (by omega) zd_14_104_191 (fun c282 => ?_) (fun c282 => ?_)
                            · exfalso; omega
                            · refine zz_aload_n (x := 1079) rfl zd_14_104_194 ?_
                              have g283 := zz_G.r G_S237 1079 65 0 255 rfl rfl
                              refine zz_geti (z := S237 1079 65) zd_14_104_195 zf_Md_567 zT_1079 rfl (zz_ltn hn rfl) rfl ?_
                              refine zz_bipush (by decide) zd_14_104_198 ?_
                              refine zz_iand (by omega) (by omega) zd_14_104_200 (fun v284 hv284 av284 bv284 ev284 => ?_)
                              refine zz_bipush (by decide) zd_14_104_201 ?_
                              refine zz_icmp_ne (by omega) (by omega) zd_14_104_203 (fun c285 => ?_) (fun c285 => ?_)
                              · refine zz_iconst zd_14_104_255 ?_
                                have g286 := zz_G.r G_S0 1079 36 0 11 rfl rfl
                                have e287 : S237 1079 36 = S0 1079 36 := (zz_rc fS237 rfl rfl (fun h => h) (zz_rc fS227 rfl rfl (fun h => h) (zz_rc fS222 rfl rfl (fun h => h) rfl)))
                                exact zz_zret zd_14_104_256 rfl (by omega) (Nat.zero_le _) (Nat.zero_le _) ⟨_, _, rfl, G_S237, F_S237, by omega, by omega, R_S237⟩
                              · refine zz_iload (x := 1) rfl zd_14_104_206 ?_
                                refine zz_if_eq (by omega) zd_14_104_208 (fun c288 => ?_) (fun c288 => ?_)
                                · exfalso; omega
                                · refine zz_aload_n (x := 1079) rfl zd_14_104_211 ?_
                                  refine zz_getr (kd := 0) (z := 1118) zd_14_104_212 zf_Md_136 zT_1079 rfl (zz_ltn hn rfl) (zz_G.eq G_S237 1079 63 1118 rfl rfl) (by decide) 1118 rfl ?_
                                  refine zz_iconst zd_14_104_215 ?_
                                  have g289 := zz_G.r G_S237 1118 4 0 9999 rfl rfl
                                  refine zz_iald (z := S237 1118 4) zd_14_104_216 zT_1118 rfl (zz_ltn hn rfl) (by decide) (by decide) rfl ?_
                                  refine zz_i2l (by omega) zd_14_104_217 ?_
                                  refine zz_lconst (z := 1) (by decide) zd_14_104_218 ?_
                                  refine zz_ldc2 (z := 2) zq_Md_169 (by decide) zd_14_104_219 ?_
                                  refine zz_callSI [zl (S237 1118 4), zl 1, zl 2] zd_14_104_222 zk_Md_192 rfl rfl ⟨Nat.le_of_ble_eq_true rfl, Nat.le_of_ble_eq_true rfl⟩ ⟨rfl, rfl⟩ (Nat.zero_le _) (Nat.zero_le _) (zc_in_14_4 (S237 1118 4) 1 2 S237 n hn G_S237 (by omega) (by omega) (by omega)) (fun v291 S290 hP => ?_)
                                  obtain ⟨rfl, o292, o293⟩ := hP
                                  rcases (by omega : v291 = 0 ∨ v291 = 1) with rfl | rfl
                                  · have n294 : S237 1118 4 < 1 ∨ 2 < S237 1118 4 := by omega
                                    clear o293
                                    refine zz_if_eq (by omega) zd_14_104_225 (fun c295 => ?_) (fun c295 => ?_)
                                    · refine zz_iconst zd_14_104_255 ?_
                                      have g296 := zz_G.r G_S0 1079 36 0 11 rfl rfl
                                      have e297 : S237 1079 36 = S0 1079 36 := (zz_rc fS237 rfl rfl (fun h => h) (zz_rc fS227 rfl rfl (fun h => h) (zz_rc fS222 rfl rfl (fun h => h) rfl)))
                                      exact zz_zret zd_14_104_256 rfl (by omega) (Nat.zero_le _) (Nat.zero_le _) ⟨_, _, rfl, G_S237, F_S237, by omega, by omega, R_S237⟩
                                    · exfalso; omega
                                  · have n298 : 1 ≤ S237 1118 4 ∧ S237 1118 4 ≤ 2 := by omega
                                    clear o293
                                    refine zz_if_eq (by omega) zd_14_104_225 (fun c299 => ?_) (fun c299 => ?_)
                                    · exfalso; omega
                                    · refine zz_aload_n (x := 1079) rfl zd_14_104_228 ?_
                                      refine zz_getr (kd := 0) (z := 1118) zd_14_104_229 zf_Md_136 zT_1079 rfl (zz_ltn hn rfl) (zz_G.eq G_S237 1079 63 1118 rfl rfl) (by decide) 1118 rfl ?_
                                      refine zz_iconst zd_14_104_232 ?_
                                      have g300 := zz_G.r G_S237 1118 5 0 9999 rfl rfl
                                      refine zz_iald (z := S237 1118 5) zd_14_104_233 zT_1118 rfl (zz_ltn hn rfl) (by decide) (by decide) rfl ?_
                                      refine zz_i2l (by omega) zd_14_104_234 ?_
                                      refine zz_lconst (z := 0) (by decide) zd_14_104_235 ?_
                                      refine zz_lconst (z := 1) (by decide) zd_14_104_236 ?_
                                      refine zz_callSI [zl (S237 1118 5), zl 0, zl 1] zd_14_104_237 zk_Md_192 rfl rfl ⟨Nat.le_of_ble_eq_true rfl, Nat.le_of_ble_eq_true rfl⟩ ⟨rfl, rfl⟩ (Nat.zero_le _) (Nat.zero_le _) (zc_in_14_4 (S237 1118 5) 0 1 S237 n hn G_S237 (by omega) (by omega) (by omega)) (fun v302 S301 hP => ?_)
                                      obtain ⟨rfl, o303, o304⟩ := hP
                                      rcases (by omega : v302 = 0 ∨ v302 = 1) with rfl | rfl
                                      · have n305 : S237 1118 5 < 0 ∨ 1 < S237 1118 5 := by omega
                                        clear o304
                                        refine zz_if_eq (by omega) zd_14_104_240 (fun c306 => ?_) (fun c306 => ?_)
                                        · refine zz_iconst zd_14_104_255 ?_
                                          have g307 := zz_G.r G_S0 1079 36 0 11 rfl rfl
                                          have e308 : S237 1079 36 = S0 1079 36 := (zz_rc fS237 rfl rfl (fun h => h) (zz_rc fS227 rfl rfl (fun h => h) (zz_rc fS222 rfl rfl (fun h => h) rfl)))
                                          exact zz_zret zd_14_104_256 rfl (by omega) (Nat.zero_le _) (Nat.zero_le _) ⟨_, _, rfl, G_S237, F_S237, by omega, by omega, R_S237⟩
                                        · exfalso; omega
                                      · have n309 : 0 ≤ S237 1118 5 ∧ S237 1118 5 ≤ 1 := by omega
                                        clear o304
                                        refine zz_if_eq (by omega) zd_14_104_240 (fun c310 => ?_) (fun c310 => ?_)
                                        · exfalso; omega
                                        · refine zz_aload_n (x := 1079) rfl zd_14_104_243 ?_
                                          refine zz_getr (kd := 0) (z := 1118) zd_14_104_244 zf_Md_136 zT_1079 rfl (zz_ltn hn rfl) (zz_G.eq G_S237 1079 63 1118 rfl rfl) (by decide) 1118 rfl ?_
                                          refine zz_bipush (by decide) zd_14_104_247 ?_
                                          refine zz_iald (z := S237 1118 6) zd_14_104_249 zT_1118 rfl (zz_ltn hn rfl) (by decide) (by decide) rfl ?_
                                          refine zz_bipush (by decide) zd_14_104_250 ?_
                                          refine zz_icmp_le (by omega) (by omega) zd_14_104_252 (fun c311 => ?_) (fun c311 => ?_)
                                          · refine zz_aload_n (x := 1079) rfl zd_14_104_257 ?_
                                            refine zz_iload_n (x := v228) rfl zd_14_104_258 ?_
                                            refine zz_iload (x := (10 * (S237 1118 0)) + (S237 1118 1)) rfl zd_14_104_259 ?_
                                            refine zz_aload_n (x := 1079) rfl zd_14_104_261 ?_
                                            refine zz_getr (kd := 0) (z := 1118) zd_14_104_262 zf_Md_136 zT_1079 rfl (zz_ltn hn rfl) (zz_G.eq G_S237 1079 63 1118 rfl rfl) (by decide) 1118 rfl ?_
                                            refine zz_iconst zd_14_104_265 ?_
                                            have g312 := zz_G.r G_S237 1118 2 0 9999 rfl rfl
                                            refine zz_iald (z := S237 1118 2) zd_14_104_266 zT_1118 rfl (zz_ltn hn rfl) (by decide) (by decide) rfl ?_
                                            refine zz_bipush (by decide) zd_14_104_267 ?_
                                            refine zz_aload_n (x := 1079) rfl zd_14_104_269 ?_
                                            refine zz_getr (kd := 0) (z := 1118) zd_14_104_270 zf_Md_136 zT_1079 rfl (zz_ltn hn rfl) (zz_G.eq G_S237 1079 63 1118 rfl rfl) (by decide) 1118 rfl ?_
                                            refine zz_iconst zd_14_104_273 ?_
                                            refine zz_iald (z := S237 1118 4) zd_14_104_274 zT_1118 rfl (zz_ltn hn rfl) (by decide) (by decide) rfl ?_
                                            refine zz_imul zd_14_104_275 ?_
                                            refine zz_aload_n (x := 1079) rfl zd_14_104_276 ?_
                                            refine zz_getr (kd := 0) (z := 1118) zd_14_104_277 zf_Md_136 zT_1079 rfl (zz_ltn hn rfl) (zz_G.eq G_S237 1079 63 1118 rfl rfl) (by decide) 1118 rfl ?_
                                            refine zz_iconst zd_14_104_280 ?_
                                            refine zz_iald (z := S237 1118 5) zd_14_104_281 zT_1118 rfl (zz_ltn hn rfl) (by decide) (by decide) rfl ?_
                                            refine zz_iadd zd_14_104_282 ?_
                                            refine zz_iload (x := (S237 1118 6) + (16 * (S237 1118 7))) rfl zd_14_104_283 ?_
                                            refine zz_aload_n (x := 1079) rfl zd_14_104_285 ?_
                                            refine zz_getr (kd := 0) (z := 1118) zd_14_104_286 zf_Md_136 zT_1079 rfl (zz_ltn hn rfl) (zz_G.eq G_S237 1079 63 1118 rfl rfl) (by decide) 1118 rfl ?_
                                            refine zz_iconst zd_14_104_289 ?_
                                            have g313 := zz_G.r G_S237 1118 3 0 9999 rfl rfl
                                            refine zz_iald (z := S237 1118 3) zd_14_104_290 zT_1118 rfl (zz_ltn hn rfl) (by decide) (by decide) rfl ?_
                                            have g314 := zz_G.r G_S0 1079 36 0 11 rfl rfl
                                            have e315 : S237 1079 36 = S0 1079 36 := (zz_rc fS237 rfl rfl (fun h => h) (zz_rc fS227 rfl rfl (fun h => h) (zz_rc fS222 rfl rfl (fun h => h) rfl)))
                                            refine zz_callVI [zi v228, zi ((10 * (S237 1118 0)) + (S237 1118 1)), zi (S237 1118 2), zi ((10 * (S237 1118 4)) + (S237 1118 5)), zi ((S237 1118 6) + (16 * (S237 1118 7))), zi (S237 1118 3)] zd_14_104_291 zk_Md_585 zT_1079 (zz_ltn hn rfl) rfl rfl ⟨Nat.le_of_ble_eq_true rfl, Nat.le_of_ble_eq_true rfl⟩ ⟨rfl, rfl⟩ (Nat.zero_le _) (Nat.zero_le _) (zc_convolution_14_67 v228 ((10 * (S237 1118 0)) + (S237 1118 1)) (S237 1118 2) ((10 * (S237 1118 4)) + (S237 1118 5)) ((S237 1118 6) + (16 * (S237 1118 7))) (S237 1118 3) S237 n hn G_S237 (by omega) (by omega) (by omega) (by omega) (by omega) (by omega) R_S237) (fun v317 S316 hP => ?_)
                                            obtain ⟨G_S316, fS316, o318, o319, o320⟩ := hP
                                            have F_S316 := zz_fr.trans F_S237 fS316 rfl (fun a i h => by rcases h with h | h | h | h | h | h | h | h | h | h | h | h; exact Or.inr (Or.inl (by rw [h.1]; rfl)); exact Or.inr (Or.inl (by rw [h.1]; rfl)); exact Or.inr (Or.inl (by rw [h.1]; rfl)); exact Or.inr (Or.inl (by rw [h.1]; rfl)); exact Or.inr (Or.inl (by rw [h.1]; rfl)); exact Or.inr (Or.inl (by rw [h.1]; rfl)); exact Or.inr (Or.inl (by rw [h.1]; rfl)); exact Or.inr (Or.inl (by rw [h.1]; rfl)); exact Or.inr (Or.inl (by rw [h.1]; rfl)); exact Or.inr (Or.inl (by rw [h.1]; rfl)); exact Or.inr (Or.inl (by rw [h.1]; rfl)); exact Or.inr (Or.inl (by rw [h.1]; rfl)))
                                            have R_S316 : zz_Hr S316 := o320
                                            refine zz_istore [some (.ref 1079), some (zi 1), some (zi 0), some (zi v228), some (zi 0), some (zi ((S237 1118 6) + (16 * (S237 1118 7)))), some (zi ((10 * (S237 1118 0)) + (S237 1118 1))), some (zi 1), some (zi v317)] zd_14_104_294 (by decide) rfl ?_
                                            refine zz_goto zd_14_104_296 ?_
                                            refine zz_aload_n (x := 1079) rfl zd_14_104_362 ?_
                                            have g321 := zz_G.r G_S316 1079 0 0 3 rfl rfl
                                            refine zz_geti (z := S316 1079 0) zd_14_104_363 zf_Md_187 zT_1079 rfl (zz_ltn hn rfl) rfl ?_
                                            refine zz_if_le (by omega) zd_14_104_366 (fun c322 => ?_) (fun c322 => ?_)
                                            · refine zz_aload_n (x := 1079) rfl zd_14_104_371 ?_
                                              refine zz_getr (kd := 0) (z := 1117) zd_14_104_372 zf_Md_133 zT_1079 rfl (zz_ltn hn rfl) (zz_G.eq G_S316 1079 62 1117 rfl rfl) (by decide) 1117 rfl ?_
                                              refine zz_iload (x := v317) rfl zd_14_104_375 ?_
                                              refine zz_aload_n (x := 1079) rfl zd_14_104_377 ?_
                                              have g323 := zz_G.r G_S237 1079 64 (-9223372036854775808) 9223372036854775807 rfl rfl
                                              refine zz_getl (z := S237 1079 64) zd_14_104_378 zf_Md_564 zT_1079 rfl (zz_ltn hn rfl) (zz_rc fS316 rfl rfl (by omega) rfl) ?_
                                              refine zz_last zd_14_104_381 zT_1117 rfl (zz_ltn hn rfl) (by decide) (by omega) (fun S324 qS324 => ?_)
                                              have G_S324 := zz_G.put G_S316 qS324 (-9223372036854775808) 9223372036854775807 rfl (by omega)
                                              have F_S324 := zz_fr.putc F_S316 qS324 rfl
                                              have R_S324 : zz_Hr S324 := zz_Hr.fr (zz_fr.put1 qS324) rfl rfl (fun b j h => by omega) R_S316
                                              refine zz_iconst zd_14_104_382 ?_
                                              have g325 := zz_G.r G_S316 1079 36 0 11 rfl rfl
                                              have e326 : S324 1079 36 = S316 1079 36 := (zz_ro qS324 (fun h => absurd h.1 (by decide)) rfl)
                                              exact zz_zret zd_14_104_383 rfl (by omega) (Nat.zero_le _) (Nat.zero_le _) ⟨_, _, rfl, G_S324, F_S324, by omega, by omega, R_S324⟩
                                            · refine zz_iconst zd_14_104_369 ?_
                                              have g327 := zz_G.r G_S316 1079 36 0 11 rfl rfl
                                              exact zz_zret zd_14_104_370 rfl (by omega) (Nat.zero_le _) (Nat.zero_le _) ⟨_, _, rfl, G_S316, F_S316, by omega, by omega, R_S316⟩
                                          · refine zz_iconst zd_14_104_255 ?_
                                            have g328 := zz_G.r G_S0 1079 36 0 11 rfl rfl
                                            have e329 : S237 1079 36 = S0 1079 36 := (zz_rc fS237 rfl rfl (fun h => h) (zz_rc fS227 rfl rfl (fun h => h) (zz_rc fS222 rfl rfl (fun h => h) rfl)))
                                            exact zz_zret zd_14_104_256 rfl (by omega) (Nat.zero_le _) (Nat.zero_le _) ⟨_, _, rfl, G_S237, F_S237, by omega, by omega, R_S237⟩
                  · exfalso; omega
        · exfalso; omega
      · exfalso; omega
    · refine zz_istore_n [some (.ref 1079), some (zi 1), some (zi 1)] zd_14_104_15 (by decide) rfl ?_
      refine zz_iload_n (x := 1) rfl zd_14_104_16 ?_
      refine zz_if_ne (by omega) zd_14_104_17 (fun c330 => ?_) (fun c330 => ?_)
      · refine zz_aload_n (x := 1079) rfl zd_14_104_36 ?_
        have g331 := zz_G.r G_S0 1079 32 0 1500 rfl rfl
        refine zz_callVV [] zd_14_104_37 zk_Md_526 zT_1079 (zz_ltn hn rfl) rfl rfl ⟨Nat.le_of_ble_eq_true rfl, Nat.le_of_ble_eq_true rfl⟩ ⟨rfl, rfl⟩ (Nat.zero_le _) (Nat.zero_le _) (zc_advanceNet_14_93  S0 n hn G_S0 hN) (fun S332 hP => ?_)
        obtain ⟨G_S332, fS332, o334⟩ := hP
        have F_S332 := zz_fr.trans F_S0 fS332 rfl zz_nv
        have R_S332 : zz_Hr S332 := zz_Hr.fr fS332 rfl rfl (fun b j h => h.elim) R_S0
        refine zz_aload_n (x := 1079) rfl zd_14_104_40 ?_
        have g335 := zz_G.r G_S332 1079 30 0 102 rfl rfl
        have g336 := zz_G.r G_S332 1079 32 0 1500 rfl rfl
        refine zz_callVI [] zd_14_104_41 zk_Md_582 zT_1079 (zz_ltn hn rfl) rfl rfl ⟨Nat.le_of_ble_eq_true rfl, Nat.le_of_ble_eq_true rfl⟩ ⟨rfl, rfl⟩ (Nat.zero_le _) (Nat.zero_le _) (zc_takeTensor_14_102  S332 n hn G_S332 (fun u h1 h2 => ((zz_rc fS332 (zz_nc1 rfl) rfl (fun h => h) rfl)).trans (hN u h1 h2))) (fun v338 S337 hP => ?_)
        obtain ⟨G_S337, fS337, o339, o340⟩ := hP
        have F_S337 := zz_fr.trans F_S332 fS337 rfl zz_nv
        have R_S337 : zz_Hr S337 := zz_Hr.fr fS337 rfl rfl (fun b j h => h.elim) R_S332
        refine zz_istore_n [some (.ref 1079), some (zi 1), some (zi 1), some (zi v338)] zd_14_104_44 (by decide) rfl ?_
        refine zz_iload_n (x := 1) rfl zd_14_104_45 ?_
        refine zz_if_ne (by omega) zd_14_104_46 (fun c341 => ?_) (fun c341 => ?_)
        · refine zz_iconst zd_14_104_64 ?_
          refine zz_istore [some (.ref 1079), some (zi 1), some (zi 1), some (zi v338), some (zi 0)] zd_14_104_65 (by decide) rfl ?_
          refine zz_iload_n (x := v338) rfl zd_14_104_67 ?_
          refine zz_if_lt (by omega) zd_14_104_68 (fun c342 => ?_) (fun c342 => ?_)
          · refine zz_iconst zd_14_104_106 ?_
            have g343 := zz_G.r G_S0 1079 36 0 11 rfl rfl
            have e344 : S337 1079 36 = S0 1079 36 := (zz_rc fS337 rfl rfl (fun h => h) (zz_rc fS332 rfl rfl (fun h => h) rfl))
            exact zz_zret zd_14_104_107 rfl (by omega) (Nat.zero_le _) (Nat.zero_le _) ⟨_, _, rfl, G_S337, F_S337, by omega, by omega, R_S337⟩
          · refine zz_iload (x := 0) rfl zd_14_104_71 ?_
            refine zz_if_lt (by omega) zd_14_104_73 (fun c345 => ?_) (fun c345 => ?_)
            · exfalso; omega
            · refine zz_aload_n (x := 1079) rfl zd_14_104_76 ?_
              refine zz_iload_n (x := 1) rfl zd_14_104_77 ?_
              refine zz_if_eq (by omega) zd_14_104_78 (fun c346 => ?_) (fun c346 => ?_)
              · exfalso; omega
              · refine zz_sipush (by decide) zd_14_104_81 ?_
                refine zz_goto zd_14_104_84 ?_
                refine zz_callVI [zi 255] zd_14_104_100 zk_Md_576 zT_1079 (zz_ltn hn rfl) rfl rfl ⟨Nat.le_of_ble_eq_true rfl, Nat.le_of_ble_eq_true rfl⟩ ⟨rfl, rfl⟩ (Nat.zero_le _) (Nat.zero_le _) (zc_takeParts_14_101 255 S337 n hn G_S337 (by omega) (fun u h1 h2 => ((zz_rc fS337 (zz_nc1 rfl) rfl (fun h => h) (zz_rc fS332 (zz_nc1 rfl) rfl (fun h => h) rfl))).trans (hN u h1 h2))) (fun v348 S347 hP => ?_)
                obtain ⟨G_S347, fS347, o349⟩ := hP
                have F_S347 := zz_fr.trans F_S337 fS347 rfl zz_nv
                have R_S347 : zz_Hr S347 := zz_Hr.fr fS347 rfl rfl (fun b j h => h.elim) R_S337
                rcases (by omega : v348 = 0 ∨ v348 = 1) with rfl | rfl
                · refine zz_if_ne (by omega) zd_14_104_103 (fun c350 => ?_) (fun c350 => ?_)
                  · exfalso; omega
                  · refine zz_iconst zd_14_104_106 ?_
                    have g351 := zz_G.r G_S0 1079 36 0 11 rfl rfl
                    have e352 : S347 1079 36 = S0 1079 36 := (zz_rc fS347 rfl rfl (fun h => h) (zz_rc fS337 rfl rfl (fun h => h) (zz_rc fS332 rfl rfl (fun h => h) rfl)))
                    exact zz_zret zd_14_104_107 rfl (by omega) (Nat.zero_le _) (Nat.zero_le _) ⟨_, _, rfl, G_S347, F_S347, by omega, by omega, R_S347⟩
                · refine zz_if_ne (by omega) zd_14_104_103 (fun c353 => ?_) (fun c353 => ?_)
                  · refine zz_aload_n (x := 1079) rfl zd_14_104_108 ?_
                    refine zz_getr (kd := 0) (z := 1118) zd_14_104_109 zf_Md_136 zT_1079 rfl (zz_ltn hn rfl) (zz_G.eq G_S347 1079 63 1118 rfl rfl) (by decide) 1118 rfl ?_
                    refine zz_bipush (by decide) zd_14_104_112 ?_
                    have g354 := zz_G.r G_S347 1118 6 0 9999 rfl rfl
                    refine zz_iald (z := S347 1118 6) zd_14_104_114 zT_1118 rfl (zz_ltn hn rfl) (by decide) (by decide) rfl ?_
                    refine zz_bipush (by decide) zd_14_104_115 ?_
                    refine zz_aload_n (x := 1079) rfl zd_14_104_117 ?_
                    refine zz_getr (kd := 0) (z := 1118) zd_14_104_118 zf_Md_136 zT_1079 rfl (zz_ltn hn rfl) (zz_G.eq G_S347 1079 63 1118 rfl rfl) (by decide) 1118 rfl ?_
                    refine zz_bipush (by decide) zd_14_104_121 ?_
                    have g355 := zz_G.r G_S347 1118 7 0 9999 rfl rfl
                    refine zz_iald (z := S347 1118 7) zd_14_104_123 zT_1118 rfl (zz_ltn hn rfl) (by decide) (by decide) rfl ?_
                    refine zz_imul zd_14_104_124 ?_
                    refine zz_iadd zd_14_104_125 ?_
                    refine zz_istore [some (.ref 1079), some (zi 1), some (zi 1), some (zi v338), some (zi 0), some (zi ((S347 1118 6) + (16 * (S347 1118 7))))] zd_14_104_126 (by decide) rfl ?_
                    refine zz_bipush (by decide) zd_14_104_128 ?_
                    refine zz_aload_n (x := 1079) rfl zd_14_104_130 ?_
                    refine zz_getr (kd := 0) (z := 1118) zd_14_104_131 zf_Md_136 zT_1079 rfl (zz_ltn hn rfl) (zz_G.eq G_S347 1079 63 1118 rfl rfl) (by decide) 1118 rfl ?_
                    refine zz_iconst zd_14_104_134 ?_
                    have g356 := zz_G.r G_S347 1118 0 0 9999 rfl rfl
                    refine zz_iald (z := S347 1118 0) zd_14_104_135 zT_1118 rfl (zz_ltn hn rfl) (by decide) (by decide) rfl ?_
                    refine zz_imul zd_14_104_136 ?_
                    refine zz_aload_n (x := 1079) rfl zd_14_104_137 ?_
                    refine zz_getr (kd := 0) (z := 1118) zd_14_104_138 zf_Md_136 zT_1079 rfl (zz_ltn hn rfl) (zz_G.eq G_S347 1079 63 1118 rfl rfl) (by decide) 1118 rfl ?_
                    refine zz_iconst zd_14_104_141 ?_
                    have g357 := zz_G.r G_S347 1118 1 0 9999 rfl rfl
                    refine zz_iald (z := S347 1118 1) zd_14_104_142 zT_1118 rfl (zz_ltn hn rfl) (by decide) (by decide) rfl ?_
                    refine zz_iadd zd_14_104_143 ?_
                    refine zz_istore [some (.ref 1079), some (zi 1), some (zi 1), some (zi v338), some (zi 0), some (zi ((S347 1118 6) + (16 * (S347 1118 7)))), some (zi ((10 * (S347 1118 0)) + (S347 1118 1)))] zd_14_104_144 (by decide) rfl ?_
                    refine zz_aload_n (x := 1079) rfl zd_14_104_146 ?_
                    refine zz_getr (kd := 0) (z := 1118) zd_14_104_147 zf_Md_136 zT_1079 rfl (zz_ltn hn rfl) (zz_G.eq G_S347 1079 63 1118 rfl rfl) (by decide) 1118 rfl ?_
                    refine zz_iconst zd_14_104_150 ?_
                    refine zz_iald (z := S347 1118 0) zd_14_104_151 zT_1118 rfl (zz_ltn hn rfl) (by decide) (by decide) rfl ?_
                    refine zz_i2l (by omega) zd_14_104_152 ?_
                    refine zz_lconst (z := 1) (by decide) zd_14_104_153 ?_
                    refine zz_ldc2 (z := 3) zq_Md_416 (by decide) zd_14_104_154 ?_
                    refine zz_callSI [zl (S347 1118 0), zl 1, zl 3] zd_14_104_157 zk_Md_192 rfl rfl ⟨Nat.le_of_ble_eq_true rfl, Nat.le_of_ble_eq_true rfl⟩ ⟨rfl, rfl⟩ (Nat.zero_le _) (Nat.zero_le _) (zc_in_14_4 (S347 1118 0) 1 3 S347 n hn G_S347 (by omega) (by omega) (by omega)) (fun v359 S358 hP => ?_)
                    obtain ⟨rfl, o360, o361⟩ := hP
                    rcases (by omega : v359 = 0 ∨ v359 = 1) with rfl | rfl
                    · have n362 : S347 1118 0 < 1 ∨ 3 < S347 1118 0 := by omega
                      clear o361
                      refine zz_if_eq (by omega) zd_14_104_160 (fun c363 => ?_) (fun c363 => ?_)
                      · refine zz_iconst zd_14_104_184 ?_
                        refine zz_istore [some (.ref 1079), some (zi 1), some (zi 1), some (zi v338), some (zi 0), some (zi ((S347 1118 6) + (16 * (S347 1118 7)))), some (zi ((10 * (S347 1118 0)) + (S347 1118 1))), some (zi 0)] zd_14_104_185 (by decide) rfl ?_
                        refine zz_iconst zd_14_104_187 ?_
                        refine zz_istore [some (.ref 1079), some (zi 1), some (zi 1), some (zi v338), some (zi 0), some (zi ((S347 1118 6) + (16 * (S347 1118 7)))), some (zi ((10 * (S347 1118 0)) + (S347 1118 1))), some (zi 0), some (zi (-1))] zd_14_104_188 (by decide) rfl ?_
                        refine zz_iload_n (x := 1) rfl zd_14_104_190 ?_
                        refine zz_if_eq (by omega) zd_14_104_191 (fun c364 => ?_) (fun c364 => ?_)
                        · exfalso; omega
                        · refine zz_aload_n (x := 1079) rfl zd_14_104_194 ?_
                          have g365 := zz_G.r G_S347 1079 65 0 255 rfl rfl
                          refine zz_geti (z := S347 1079 65) zd_14_104_195 zf_Md_567 zT_1079 rfl (zz_ltn hn rfl) rfl ?_
                          refine zz_bipush (by decide) zd_14_104_198 ?_
                          refine zz_iand (by omega) (by omega) zd_14_104_200 (fun v366 hv366 av366 bv366 ev366 => ?_)
                          refine zz_bipush (by decide) zd_14_104_201 ?_
                          refine zz_icmp_ne (by omega) (by omega) zd_14_104_203 (fun c367 => ?_) (fun c367 => ?_)
                          · refine zz_iconst zd_14_104_255 ?_
                            have g368 := zz_G.r G_S0 1079 36 0 11 rfl rfl
                            have e369 : S347 1079 36 = S0 1079 36 := (zz_rc fS347 rfl rfl (fun h => h) (zz_rc fS337 rfl rfl (fun h => h) (zz_rc fS332 rfl rfl (fun h => h) rfl)))
                            exact zz_zret zd_14_104_256 rfl (by omega) (Nat.zero_le _) (Nat.zero_le _) ⟨_, _, rfl, G_S347, F_S347, by omega, by omega, R_S347⟩
                          · refine zz_iload (x := 0) rfl zd_14_104_206 ?_
                            refine zz_if_eq (by omega) zd_14_104_208 (fun c370 => ?_) (fun c370 => ?_)
                            · refine zz_iconst zd_14_104_255 ?_
                              have g371 := zz_G.r G_S0 1079 36 0 11 rfl rfl
                              have e372 : S347 1079 36 = S0 1079 36 := (zz_rc fS347 rfl rfl (fun h => h) (zz_rc fS337 rfl rfl (fun h => h) (zz_rc fS332 rfl rfl (fun h => h) rfl)))
                              exact zz_zret zd_14_104_256 rfl (by omega) (Nat.zero_le _) (Nat.zero_le _) ⟨_, _, rfl, G_S347, F_S347, by omega, by omega, R_S347⟩
                            · exfalso; omega
                      · exfalso; omega
                    · have n373 : 1 ≤ S347 1118 0 ∧ S347 1118 0 ≤ 3 := by omega
                      clear o361
                      refine zz_if_eq (by omega) zd_14_104_160 (fun c374 => ?_) (fun c374 => ?_)
                      · exfalso; omega
                      · refine zz_aload_n (x := 1079) rfl zd_14_104_163 ?_
                        refine zz_getr (kd := 0) (z := 1118) zd_14_104_164 zf_Md_136 zT_1079 rfl (zz_ltn hn rfl) (zz_G.eq G_S347 1079 63 1118 rfl rfl) (by decide) 1118 rfl ?_
                        refine zz_iconst zd_14_104_167 ?_
                        refine zz_iald (z := S347 1118 1) zd_14_104_168 zT_1118 rfl (zz_ltn hn rfl) (by decide) (by decide) rfl ?_
                        refine zz_i2l (by omega) zd_14_104_169 ?_
                        refine zz_lconst (z := 1) (by decide) zd_14_104_170 ?_
                        refine zz_ldc2 (z := 3) zq_Md_416 (by decide) zd_14_104_171 ?_
                        refine zz_callSI [zl (S347 1118 1), zl 1, zl 3] zd_14_104_174 zk_Md_192 rfl rfl ⟨Nat.le_of_ble_eq_true rfl, Nat.le_of_ble_eq_true rfl⟩ ⟨rfl, rfl⟩ (Nat.zero_le _) (Nat.zero_le _) (zc_in_14_4 (S347 1118 1) 1 3 S347 n hn G_S347 (by omega) (by omega) (by omega)) (fun v376 S375 hP => ?_)
                        obtain ⟨rfl, o377, o378⟩ := hP
                        rcases (by omega : v376 = 0 ∨ v376 = 1) with rfl | rfl
                        · have n379 : S347 1118 1 < 1 ∨ 3 < S347 1118 1 := by omega
                          clear o378
                          refine zz_if_eq (by omega) zd_14_104_177 (fun c380 => ?_) (fun c380 => ?_)
                          · refine zz_iconst zd_14_104_184 ?_
                            refine zz_istore [some (.ref 1079), some (zi 1), some (zi 1), some (zi v338), some (zi 0), some (zi ((S347 1118 6) + (16 * (S347 1118 7)))), some (zi ((10 * (S347 1118 0)) + (S347 1118 1))), some (zi 0)] zd_14_104_185 (by decide) rfl ?_
                            refine zz_iconst zd_14_104_187 ?_
                            refine zz_istore [some (.ref 1079), some (zi 1), some (zi 1), some (zi v338), some (zi 0), some (zi ((S347 1118 6) + (16 * (S347 1118 7)))), some (zi ((10 * (S347 1118 0)) + (S347 1118 1))), some (zi 0), some (zi (-1))] zd_14_104_188 (by decide) rfl ?_
                            refine zz_iload_n (x := 1) rfl zd_14_104_190 ?_
                            refine zz_if_eq (by omega) zd_14_104_191 (fun c381 => ?_) (fun c381 => ?_)
                            · exfalso; omega
                            · refine zz_aload_n (x := 1079) rfl zd_14_104_194 ?_
                              have g382 := zz_G.r G_S347 1079 65 0 255 rfl rfl
                              refine zz_geti (z := S347 1079 65) zd_14_104_195 zf_Md_567 zT_1079 rfl (zz_ltn hn rfl) rfl ?_
                              refine zz_bipush (by decide) zd_14_104_198 ?_
                              refine zz_iand (by omega) (by omega) zd_14_104_200 (fun v383 hv383 av383 bv383 ev383 => ?_)
                              refine zz_bipush (by decide) zd_14_104_201 ?_
                              refine zz_icmp_ne (by omega) (by omega) zd_14_104_203 (fun c384 => ?_) (fun c384 => ?_)
                              · refine zz_iconst zd_14_104_255 ?_
                                have g385 := zz_G.r G_S0 1079 36 0 11 rfl rfl
                                have e386 : S347 1079 36 = S0 1079 36 := (zz_rc fS347 rfl rfl (fun h => h) (zz_rc fS337 rfl rfl (fun h => h) (zz_rc fS332 rfl rfl (fun h => h) rfl)))
                                exact zz_zret zd_14_104_256 rfl (by omega) (Nat.zero_le _) (Nat.zero_le _) ⟨_, _, rfl, G_S347, F_S347, by omega, by omega, R_S347⟩
                              · refine zz_iload (x := 0) rfl zd_14_104_206 ?_
                                refine zz_if_eq (by omega) zd_14_104_208 (fun c387 => ?_) (fun c387 => ?_)
                                · refine zz_iconst zd_14_104_255 ?_
                                  have g388 := zz_G.r G_S0 1079 36 0 11 rfl rfl
                                  have e389 : S347 1079 36 = S0 1079 36 := (zz_rc fS347 rfl rfl (fun h => h) (zz_rc fS337 rfl rfl (fun h => h) (zz_rc fS332 rfl rfl (fun h => h) rfl)))
                                  exact zz_zret zd_14_104_256 rfl (by omega) (Nat.zero_le _) (Nat.zero_le _) ⟨_, _, rfl, G_S347, F_S347, by omega, by omega, R_S347⟩
                                · exfalso; omega
                          · exfalso; omega
                        · have n390 : 1 ≤ S347 1118 1 ∧ S347 1118 1 ≤ 3 := by omega
                          clear o378
                          refine zz_if_eq (by omega) zd_14_104_177 (fun c391 => ?_) (fun c391 => ?_)
                          · exfalso; omega
                          · refine zz_iconst zd_14_104_180 ?_
                            refine zz_goto zd_14_104_181 ?_
                            refine zz_istore [some (.ref 1079), some (zi 1), some (zi 1), some (zi v338), some (zi 0), some (zi ((S347 1118 6) + (16 * (S347 1118 7)))), some (zi ((10 * (S347 1118 0)) + (S347 1118 1))), some (zi 1)] zd_14_104_185 (by decide) rfl ?_
                            refine zz_iconst zd_14_104_187 ?_
                            refine zz_istore [some (.ref 1079), some (zi 1), some (zi 1), some (zi v338), some (zi 0), some (zi ((S347 1118 6) + (16 * (S347 1118 7)))), some (zi ((10 * (S347 1118 0)) + (S347 1118 1))), some (zi 1), some (zi (-1))] zd_14_104_188 (by decide) rfl ?_
                            refine zz_iload_n (x := 1) rfl zd_14_104_190 ?_
                            refine zz_if_eq (by omega) zd_14_104_191 (fun c392 => ?_) (fun c392 => ?_)
                            · exfalso; omega
                            · refine zz_aload_n (x := 1079) rfl zd_14_104_194 ?_
                              have g393 := zz_G.r G_S347 1079 65 0 255 rfl rfl
                              refine zz_geti (z := S347 1079 65) zd_14_104_195 zf_Md_567 zT_1079 rfl (zz_ltn hn rfl) rfl ?_
                              refine zz_bipush (by decide) zd_14_104_198 ?_
                              refine zz_iand (by omega) (by omega) zd_14_104_200 (fun v394 hv394 av394 bv394 ev394 => ?_)
                              refine zz_bipush (by decide) zd_14_104_201 ?_
                              refine zz_icmp_ne (by omega) (by omega) zd_14_104_203 (fun c395 => ?_) (fun c395 => ?_)
                              · refine zz_iconst zd_14_104_255 ?_
                                have g396 := zz_G.r G_S0 1079 36 0 11 rfl rfl
                                have e397 : S347 1079 36 = S0 1079 36 := (zz_rc fS347 rfl rfl (fun h => h) (zz_rc fS337 rfl rfl (fun h => h) (zz_rc fS332 rfl rfl (fun h => h) rfl)))
                                exact zz_zret zd_14_104_256 rfl (by omega) (Nat.zero_le _) (Nat.zero_le _) ⟨_, _, rfl, G_S347, F_S347, by omega, by omega, R_S347⟩
                              · refine zz_iload (x := 1) rfl zd_14_104_206 ?_
                                refine zz_if_eq (by omega) zd_14_104_208 (fun c398 => ?_) (fun c398 => ?_)
                                · exfalso; omega
                                · refine zz_aload_n (x := 1079) rfl zd_14_104_211 ?_
                                  refine zz_getr (kd := 0) (z := 1118) zd_14_104_212 zf_Md_136 zT_1079 rfl (zz_ltn hn rfl) (zz_G.eq G_S347 1079 63 1118 rfl rfl) (by decide) 1118 rfl ?_
                                  refine zz_iconst zd_14_104_215 ?_
                                  have g399 := zz_G.r G_S347 1118 4 0 9999 rfl rfl
                                  refine zz_iald (z := S347 1118 4) zd_14_104_216 zT_1118 rfl (zz_ltn hn rfl) (by decide) (by decide) rfl ?_
                                  refine zz_i2l (by omega) zd_14_104_217 ?_
                                  refine zz_lconst (z := 1) (by decide) zd_14_104_218 ?_
                                  refine zz_ldc2 (z := 2) zq_Md_169 (by decide) zd_14_104_219 ?_
                                  refine zz_callSI [zl (S347 1118 4), zl 1, zl 2] zd_14_104_222 zk_Md_192 rfl rfl ⟨Nat.le_of_ble_eq_true rfl, Nat.le_of_ble_eq_true rfl⟩ ⟨rfl, rfl⟩ (Nat.zero_le _) (Nat.zero_le _) (zc_in_14_4 (S347 1118 4) 1 2 S347 n hn G_S347 (by omega) (by omega) (by omega)) (fun v401 S400 hP => ?_)
                                  obtain ⟨rfl, o402, o403⟩ := hP
                                  rcases (by omega : v401 = 0 ∨ v401 = 1) with rfl | rfl
                                  · have n404 : S347 1118 4 < 1 ∨ 2 < S347 1118 4 := by omega
                                    clear o403
                                    refine zz_if_eq (by omega) zd_14_104_225 (fun c405 => ?_) (fun c405 => ?_)
                                    · refine zz_iconst zd_14_104_255 ?_
                                      have g406 := zz_G.r G_S0 1079 36 0 11 rfl rfl
                                      have e407 : S347 1079 36 = S0 1079 36 := (zz_rc fS347 rfl rfl (fun h => h) (zz_rc fS337 rfl rfl (fun h => h) (zz_rc fS332 rfl rfl (fun h => h) rfl)))
                                      exact zz_zret zd_14_104_256 rfl (by omega) (Nat.zero_le _) (Nat.zero_le _) ⟨_, _, rfl, G_S347, F_S347, by omega, by omega, R_S347⟩
                                    · exfalso; omega
                                  · have n408 : 1 ≤ S347 1118 4 ∧ S347 1118 4 ≤ 2 := by omega
                                    clear o403
                                    refine zz_if_eq (by omega) zd_14_104_225 (fun c409 => ?_) (fun c409 => ?_)
                                    · exfalso; omega
                                    · refine zz_aload_n (x := 1079) rfl zd_14_104_228 ?_
                                      refine zz_getr (kd := 0) (z := 1118) zd_14_104_229 zf_Md_136 zT_1079 rfl (zz_ltn hn rfl) (zz_G.eq G_S347 1079 63 1118 rfl rfl) (by decide) 1118 rfl ?_
                                      refine zz_iconst zd_14_104_232 ?_
                                      have g410 := zz_G.r G_S347 1118 5 0 9999 rfl rfl
                                      refine zz_iald (z := S347 1118 5) zd_14_104_233 zT_1118 rfl (zz_ltn hn rfl) (by decide) (by decide) rfl ?_
                                      refine zz_i2l (by omega) zd_14_104_234 ?_
                                      refine zz_lconst (z := 0) (by decide) zd_14_104_235 ?_
                                      refine zz_lconst (z := 1) (by decide) zd_14_104_236 ?_
                                      refine zz_callSI [zl (S347 1118 5), zl 0, zl 1] zd_14_104_237 zk_Md_192 rfl rfl ⟨Nat.le_of_ble_eq_true rfl, Nat.le_of_ble_eq_true rfl⟩ ⟨rfl, rfl⟩ (Nat.zero_le _) (Nat.zero_le _) (zc_in_14_4 (S347 1118 5) 0 1 S347 n hn G_S347 (by omega) (by omega) (by omega)) (fun v412 S411 hP => ?_)
                                      obtain ⟨rfl, o413, o414⟩ := hP
                                      rcases (by omega : v412 = 0 ∨ v412 = 1) with rfl | rfl
                                      · have n415 : S347 1118 5 < 0 ∨ 1 < S347 1118 5 := by omega
                                        clear o414
                                        refine zz_if_eq (by omega) zd_14_104_240 (fun c416 => ?_) (fun c416 => ?_)
                                        · refine zz_iconst zd_14_104_255 ?_
                                          have g417 := zz_G.r G_S0 1079 36 0 11 rfl rfl
                                          have e418 : S347 1079 36 = S0 1079 36 := (zz_rc fS347 rfl rfl (fun h => h) (zz_rc fS337 rfl rfl (fun h => h) (zz_rc fS332 rfl rfl (fun h => h) rfl)))
                                          exact zz_zret zd_14_104_256 rfl (by omega) (Nat.zero_le _) (Nat.zero_le _) ⟨_, _, rfl, G_S347, F_S347, by omega, by omega, R_S347⟩
                                        · exfalso; omega
                                      · have n419 : 0 ≤ S347 1118 5 ∧ S347 1118 5 ≤ 1 := by omega
                                        clear o414
                                        refine zz_if_eq (by omega) zd_14_104_240 (fun c420 => ?_) (fun c420 => ?_)
                                        · exfalso; omega
                                        · refine zz_aload_n (x := 1079) rfl zd_14_104_243 ?_
                                          refine zz_getr (kd := 0) (z := 1118) zd_14_104_244 zf_Md_136 zT_1079 rfl (zz_ltn hn rfl) (zz_G.eq G_S347 1079 63 1118 rfl rfl) (by decide) 1118 rfl ?_
                                          refine zz_bipush (by decide) zd_14_104_247 ?_
                                          refine zz_iald (z := S347 1118 6) zd_14_104_249 zT_1118 rfl (zz_ltn hn rfl) (by decide) (by decide) rfl ?_
                                          refine zz_bipush (by decide) zd_14_104_250 ?_
                                          refine zz_icmp_le (by omega) (by omega) zd_14_104_252 (fun c421 => ?_) (fun c421 => ?_)
                                          · refine zz_aload_n (x := 1079) rfl zd_14_104_257 ?_
                                            refine zz_iload_n (x := v338) rfl zd_14_104_258 ?_
                                            refine zz_iload (x := (10 * (S347 1118 0)) + (S347 1118 1)) rfl zd_14_104_259 ?_
                                            refine zz_aload_n (x := 1079) rfl zd_14_104_261 ?_
                                            refine zz_getr (kd := 0) (z := 1118) zd_14_104_262 zf_Md_136 zT_1079 rfl (zz_ltn hn rfl) (zz_G.eq G_S347 1079 63 1118 rfl rfl) (by decide) 1118 rfl ?_
                                            refine zz_iconst zd_14_104_265 ?_
                                            have g422 := zz_G.r G_S347 1118 2 0 9999 rfl rfl
                                            refine zz_iald (z := S347 1118 2) zd_14_104_266 zT_1118 rfl (zz_ltn hn rfl) (by decide) (by decide) rfl ?_
                                            refine zz_bipush (by decide) zd_14_104_267 ?_
                                            refine zz_aload_n (x := 1079) rfl zd_14_104_269 ?_
                                            refine zz_getr (kd := 0) (z := 1118) zd_14_104_270 zf_Md_136 zT_1079 rfl (zz_ltn hn rfl) (zz_G.eq G_S347 1079 63 1118 rfl rfl) (by decide) 1118 rfl ?_
                                            refine zz_iconst zd_14_104_273 ?_
                                            refine zz_iald (z := S347 1118 4) zd_14_104_274 zT_1118 rfl (zz_ltn hn rfl) (by decide) (by decide) rfl ?_
                                            refine zz_imul zd_14_104_275 ?_
                                            refine zz_aload_n (x := 1079) rfl zd_14_104_276 ?_
                                            refine zz_getr (kd := 0) (z := 1118) zd_14_104_277 zf_Md_136 zT_1079 rfl (zz_ltn hn rfl) (zz_G.eq G_S347 1079 63 1118 rfl rfl) (by decide) 1118 rfl ?_
                                            refine zz_iconst zd_14_104_280 ?_
                                            refine zz_iald (z := S347 1118 5) zd_14_104_281 zT_1118 rfl (zz_ltn hn rfl) (by decide) (by decide) rfl ?_
                                            refine zz_iadd zd_14_104_282 ?_
                                            refine zz_iload (x := (S347 1118 6) + (16 * (S347 1118 7))) rfl zd_14_104_283 ?_
                                            refine zz_aload_n (x := 1079) rfl zd_14_104_285 ?_
                                            refine zz_getr (kd := 0) (z := 1118) zd_14_104_286 zf_Md_136 zT_1079 rfl (zz_ltn hn rfl) (zz_G.eq G_S347 1079 63 1118 rfl rfl) (by decide) 1118 rfl ?_
                                            refine zz_iconst zd_14_104_289 ?_
                                            have g423 := zz_G.r G_S347 1118 3 0 9999 rfl rfl
                                            refine zz_iald (z := S347 1118 3) zd_14_104_290 zT_1118 rfl (zz_ltn hn rfl) (by decide) (by decide) rfl ?_
                                            have g424 := zz_G.r G_S0 1079 36 0 11 rfl rfl
                                            have e425 : S347 1079 36 = S0 1079 36 := (zz_rc fS347 rfl rfl (fun h => h) (zz_rc fS337 rfl rfl (fun h => h) (zz_rc fS332 rfl rfl (fun h => h) rfl)))
                                            refine zz_callVI [zi v338, zi ((10 * (S347 1118 0)) + (S347 1118 1)), zi (S347 1118 2), zi ((10 * (S347 1118 4)) + (S347 1118 5)), zi ((S347 1118 6) + (16 * (S347 1118 7))), zi (S347 1118 3)] zd_14_104_291 zk_Md_585 zT_1079 (zz_ltn hn rfl) rfl rfl ⟨Nat.le_of_ble_eq_true rfl, Nat.le_of_ble_eq_true rfl⟩ ⟨rfl, rfl⟩ (Nat.zero_le _) (Nat.zero_le _) (zc_convolution_14_67 v338 ((10 * (S347 1118 0)) + (S347 1118 1)) (S347 1118 2) ((10 * (S347 1118 4)) + (S347 1118 5)) ((S347 1118 6) + (16 * (S347 1118 7))) (S347 1118 3) S347 n hn G_S347 (by omega) (by omega) (by omega) (by omega) (by omega) (by omega) R_S347) (fun v427 S426 hP => ?_)
                                            obtain ⟨G_S426, fS426, o428, o429, o430⟩ := hP
                                            have F_S426 := zz_fr.trans F_S347 fS426 rfl (fun a i h => by rcases h with h | h | h | h | h | h | h | h | h | h | h | h; exact Or.inr (Or.inl (by rw [h.1]; rfl)); exact Or.inr (Or.inl (by rw [h.1]; rfl)); exact Or.inr (Or.inl (by rw [h.1]; rfl)); exact Or.inr (Or.inl (by rw [h.1]; rfl)); exact Or.inr (Or.inl (by rw [h.1]; rfl)); exact Or.inr (Or.inl (by rw [h.1]; rfl)); exact Or.inr (Or.inl (by rw [h.1]; rfl)); exact Or.inr (Or.inl (by rw [h.1]; rfl)); exact Or.inr (Or.inl (by rw [h.1]; rfl)); exact Or.inr (Or.inl (by rw [h.1]; rfl)); exact Or.inr (Or.inl (by rw [h.1]; rfl)); exact Or.inr (Or.inl (by rw [h.1]; rfl)))
                                            have R_S426 : zz_Hr S426 := o430
                                            refine zz_istore [some (.ref 1079), some (zi 1), some (zi 1), some (zi v338), some (zi 0), some (zi ((S347 1118 6) + (16 * (S347 1118 7)))), some (zi ((10 * (S347 1118 0)) + (S347 1118 1))), some (zi 1), some (zi v427)] zd_14_104_294 (by decide) rfl ?_
                                            refine zz_goto zd_14_104_296 ?_
                                            refine zz_aload_n (x := 1079) rfl zd_14_104_362 ?_
                                            have g431 := zz_G.r G_S426 1079 0 0 3 rfl rfl
                                            refine zz_geti (z := S426 1079 0) zd_14_104_363 zf_Md_187 zT_1079 rfl (zz_ltn hn rfl) rfl ?_
                                            refine zz_if_le (by omega) zd_14_104_366 (fun c432 => ?_) (fun c432 => ?_)
                                            · refine zz_aload_n (x := 1079) rfl zd_14_104_371 ?_
                                              refine zz_getr (kd := 0) (z := 1117) zd_14_104_372 zf_Md_133 zT_1079 rfl (zz_ltn hn rfl) (zz_G.eq G_S426 1079 62 1117 rfl rfl) (by decide) 1117 rfl ?_
                                              refine zz_iload (x := v427) rfl zd_14_104_375 ?_
                                              refine zz_aload_n (x := 1079) rfl zd_14_104_377 ?_
                                              have g433 := zz_G.r G_S347 1079 64 (-9223372036854775808) 9223372036854775807 rfl rfl
                                              refine zz_getl (z := S347 1079 64) zd_14_104_378 zf_Md_564 zT_1079 rfl (zz_ltn hn rfl) (zz_rc fS426 rfl rfl (by omega) rfl) ?_
                                              refine zz_last zd_14_104_381 zT_1117 rfl (zz_ltn hn rfl) (by decide) (by omega) (fun S434 qS434 => ?_)
                                              have G_S434 := zz_G.put G_S426 qS434 (-9223372036854775808) 9223372036854775807 rfl (by omega)
                                              have F_S434 := zz_fr.putc F_S426 qS434 rfl
                                              have R_S434 : zz_Hr S434 := zz_Hr.fr (zz_fr.put1 qS434) rfl rfl (fun b j h => by omega) R_S426
                                              refine zz_iconst zd_14_104_382 ?_
                                              have g435 := zz_G.r G_S426 1079 36 0 11 rfl rfl
                                              have e436 : S434 1079 36 = S426 1079 36 := (zz_ro qS434 (fun h => absurd h.1 (by decide)) rfl)
                                              exact zz_zret zd_14_104_383 rfl (by omega) (Nat.zero_le _) (Nat.zero_le _) ⟨_, _, rfl, G_S434, F_S434, by omega, by omega, R_S434⟩
                                            · refine zz_iconst zd_14_104_369 ?_
                                              have g437 := zz_G.r G_S426 1079 36 0 11 rfl rfl
                                              exact zz_zret zd_14_104_370 rfl (by omega) (Nat.zero_le _) (Nat.zero_le _) ⟨_, _, rfl, G_S426, F_S426, by omega, by omega, R_S426⟩
                                          · refine zz_iconst zd_14_104_255 ?_
                                            have g438 := zz_G.r G_S0 1079 36 0 11 rfl rfl
                                            have e439 : S347 1079 36 = S0 1079 36 := (zz_rc fS347 rfl rfl (fun h => h) (zz_rc fS337 rfl rfl (fun h => h) (zz_rc fS332 rfl rfl (fun h => h) rfl)))
                                            exact zz_zret zd_14_104_256 rfl (by omega) (Nat.zero_le _) (Nat.zero_le _) ⟨_, _, rfl, G_S347, F_S347, by omega, by omega, R_S347⟩
                  · exfalso; omega
        · exfalso; omega
      · exfalso; omega
abbrev zy_network_14_105 : mm_Y := (⟨"TensorForgeModel", "network", "()I"⟩, prog_14_method_105_code, 6, (some .int))
theorem zyw_network_14_105 : mm_Yw zy_network_14_105 0 := ⟨mm_tb_1 2183 (by decide +kernel) rfl, mm_tb_1 12 (by decide +kernel) rfl, ⟨by decide, by decide⟩, by decide +kernel⟩
abbrev zy_keepNetwork_14_91 : mm_Y := (⟨"TensorForgeModel", "keepNetwork", "(Z)V"⟩, prog_14_method_91_code, 2, none)
theorem zyw_keepNetwork_14_91 : mm_Yw zy_keepNetwork_14_91 1 := ⟨mm_tb_1 2187 (by decide +kernel) rfl, mm_tb_1 12 (by decide +kernel) rfl, ⟨by decide, by decide⟩, by decide +kernel⟩
theorem zf_Md_515 : mm_Fl "TensorForgeModel" 515 11 66 .int false := ⟨R_Md, F_Md, 69, t_Md, rfl, i_Md, by decide, mm_tb_1 1677 (by decide +kernel) rfl, rfl, t_Md_ok, n_Md, rfl, by decide +kernel⟩
abbrev zy_keepRow_14_92 : mm_Y := (⟨"TensorForgeModel", "keepRow", "([IIIZ)V"⟩, prog_14_method_92_code, 6, none)
theorem zyw_keepRow_14_92 : mm_Yw zy_keepRow_14_92 4 := ⟨mm_tb_1 2191 (by decide +kernel) rfl, mm_tb_1 12 (by decide +kernel) rfl, ⟨by decide, by decide⟩, by decide +kernel⟩
theorem zf_Md_139 : mm_Fl "TensorForgeModel" 139 11 67 (.array .int) true := ⟨R_Md, F_Md, 69, t_Md, rfl, i_Md, by decide, mm_tb_1 1678 (by decide +kernel) rfl, rfl, t_Md_ok, n_Md, rfl, by decide +kernel⟩
theorem zg_14_105_0 : (decode zy_network_14_105.2.1 0 = .ok ((.aload_n 0), 1)) ∧ (decode zy_network_14_105.2.1 1 = .ok ((.iconst 0), 1)) ∧ (decode zy_network_14_105.2.1 2 = .ok ((.putfield 187), 3)) ∧ (decode zy_network_14_105.2.1 5 = .ok ((.aload_n 0), 1)) ∧ (decode zy_network_14_105.2.1 6 = .ok ((.iconst 0), 1)) ∧ (decode zy_network_14_105.2.1 7 = .ok ((.invokevirtual 595), 3)) := by decide +kernel
theorem zd_14_105_0 : zz_D zy_network_14_105 0 (.aload_n 0) 1 1 := ⟨zg_14_105_0.1, rfl⟩
theorem zd_14_105_1 : zz_D zy_network_14_105 1 (.iconst 0) 1 2 := ⟨zg_14_105_0.2.1, rfl⟩
theorem zd_14_105_2 : zz_D zy_network_14_105 2 (.putfield 187) 3 5 := ⟨zg_14_105_0.2.2.1, rfl⟩
theorem zd_14_105_5 : zz_D zy_network_14_105 5 (.aload_n 0) 1 6 := ⟨zg_14_105_0.2.2.2.1, rfl⟩
theorem zd_14_105_6 : zz_D zy_network_14_105 6 (.iconst 0) 1 7 := ⟨zg_14_105_0.2.2.2.2.1, rfl⟩
theorem zd_14_105_7 : zz_D zy_network_14_105 7 (.invokevirtual 595) 3 10 := ⟨zg_14_105_0.2.2.2.2.2, rfl⟩
theorem zg_14_91_0 : (decode zy_keepNetwork_14_91.2.1 0 = .ok ((.aload_n 0), 1)) ∧ (decode zy_keepNetwork_14_91.2.1 1 = .ok ((.iload_n 1), 1)) ∧ (decode zy_keepNetwork_14_91.2.1 2 = .ok ((Instr.ifCond .eq) 10, 3)) ∧ (decode zy_keepNetwork_14_91.2.1 12 = .ok ((.aload_n 0), 1)) ∧ (decode zy_keepNetwork_14_91.2.1 13 = .ok ((.getfield 85), 3)) ∧ (decode zy_keepNetwork_14_91.2.1 16 = .ok ((.putfield 515), 3)) ∧ (decode zy_keepNetwork_14_91.2.1 19 = .ok ((.aload_n 0), 1)) ∧ (decode zy_keepNetwork_14_91.2.1 20 = .ok ((.aload_n 0), 1)) ∧ (decode zy_keepNetwork_14_91.2.1 21 = .ok ((.getfield 515), 3)) ∧ (decode zy_keepNetwork_14_91.2.1 24 = .ok ((.putfield 85), 3)) := by decide +kernel
theorem zd_14_91_0 : zz_D zy_keepNetwork_14_91 0 (.aload_n 0) 1 1 := ⟨zg_14_91_0.1, rfl⟩
theorem zd_14_91_1 : zz_D zy_keepNetwork_14_91 1 (.iload_n 1) 1 2 := ⟨zg_14_91_0.2.1, rfl⟩
theorem zd_14_91_2 : zz_B zy_keepNetwork_14_91 2 (Instr.ifCond .eq) 12 5 := ⟨10, zg_14_91_0.2.2.1, rfl, rfl⟩
theorem zd_14_91_12 : zz_D zy_keepNetwork_14_91 12 (.aload_n 0) 1 13 := ⟨zg_14_91_0.2.2.2.1, rfl⟩
theorem zd_14_91_13 : zz_D zy_keepNetwork_14_91 13 (.getfield 85) 3 16 := ⟨zg_14_91_0.2.2.2.2.1, rfl⟩
theorem zd_14_91_16 : zz_D zy_keepNetwork_14_91 16 (.putfield 515) 3 19 := ⟨zg_14_91_0.2.2.2.2.2.1, rfl⟩
theorem zd_14_91_19 : zz_D zy_keepNetwork_14_91 19 (.aload_n 0) 1 20 := ⟨zg_14_91_0.2.2.2.2.2.2.1, rfl⟩
theorem zd_14_91_20 : zz_D zy_keepNetwork_14_91 20 (.aload_n 0) 1 21 := ⟨zg_14_91_0.2.2.2.2.2.2.2.1, rfl⟩
theorem zd_14_91_21 : zz_D zy_keepNetwork_14_91 21 (.getfield 515) 3 24 := ⟨zg_14_91_0.2.2.2.2.2.2.2.2.1, rfl⟩
theorem zd_14_91_24 : zz_D zy_keepNetwork_14_91 24 (.putfield 85) 3 27 := ⟨zg_14_91_0.2.2.2.2.2.2.2.2.2, rfl⟩
theorem zg_14_91_27 : (decode zy_keepNetwork_14_91.2.1 27 = .ok ((.aload_n 0), 1)) ∧ (decode zy_keepNetwork_14_91.2.1 28 = .ok ((.aload_n 0), 1)) ∧ (decode zy_keepNetwork_14_91.2.1 29 = .ok ((.getfield 88), 3)) ∧ (decode zy_keepNetwork_14_91.2.1 32 = .ok ((.bipush 11), 2)) ∧ (decode zy_keepNetwork_14_91.2.1 34 = .ok ((.iconst 0), 1)) ∧ (decode zy_keepNetwork_14_91.2.1 35 = .ok ((.iload_n 1), 1)) ∧ (decode zy_keepNetwork_14_91.2.1 36 = .ok ((.invokevirtual 518), 3)) := by decide +kernel
theorem zd_14_91_27 : zz_D zy_keepNetwork_14_91 27 (.aload_n 0) 1 28 := ⟨zg_14_91_27.1, rfl⟩
theorem zd_14_91_28 : zz_D zy_keepNetwork_14_91 28 (.aload_n 0) 1 29 := ⟨zg_14_91_27.2.1, rfl⟩
theorem zd_14_91_29 : zz_D zy_keepNetwork_14_91 29 (.getfield 88) 3 32 := ⟨zg_14_91_27.2.2.1, rfl⟩
theorem zd_14_91_32 : zz_D zy_keepNetwork_14_91 32 (.bipush 11) 2 34 := ⟨zg_14_91_27.2.2.2.1, rfl⟩
theorem zd_14_91_34 : zz_D zy_keepNetwork_14_91 34 (.iconst 0) 1 35 := ⟨zg_14_91_27.2.2.2.2.1, rfl⟩
theorem zd_14_91_35 : zz_D zy_keepNetwork_14_91 35 (.iload_n 1) 1 36 := ⟨zg_14_91_27.2.2.2.2.2.1, rfl⟩
theorem zd_14_91_36 : zz_D zy_keepNetwork_14_91 36 (.invokevirtual 518) 3 39 := ⟨zg_14_91_27.2.2.2.2.2.2, rfl⟩
theorem zg_14_92_0 : (decode zy_keepRow_14_92.2.1 0 = .ok ((.iconst 0), 1)) ∧ (decode zy_keepRow_14_92.2.1 1 = .ok ((.istore 5), 2)) ∧ (decode zy_keepRow_14_92.2.1 3 = .ok ((.iload 5), 2)) ∧ (decode zy_keepRow_14_92.2.1 5 = .ok ((.iload_n 2), 1)) ∧ (decode zy_keepRow_14_92.2.1 6 = .ok ((Instr.if_icmp .ge) 43, 3)) ∧ (decode zy_keepRow_14_92.2.1 49 = .ok ((.return_), 1)) ∧ (decode zy_keepRow_14_92.2.1 9 = .ok ((.iload 4), 2)) ∧ (decode zy_keepRow_14_92.2.1 11 = .ok ((Instr.ifCond .eq) 19, 3)) ∧ (decode zy_keepRow_14_92.2.1 30 = .ok ((.aload_n 0), 1)) ∧ (decode zy_keepRow_14_92.2.1 31 = .ok ((.getfield 139), 3)) := by decide +kernel
theorem zd_14_92_0 : zz_D zy_keepRow_14_92 0 (.iconst 0) 1 1 := ⟨zg_14_92_0.1, rfl⟩
theorem zd_14_92_1 : zz_D zy_keepRow_14_92 1 (.istore 5) 2 3 := ⟨zg_14_92_0.2.1, rfl⟩
theorem zd_14_92_3 : zz_D zy_keepRow_14_92 3 (.iload 5) 2 5 := ⟨zg_14_92_0.2.2.1, rfl⟩
theorem zd_14_92_5 : zz_D zy_keepRow_14_92 5 (.iload_n 2) 1 6 := ⟨zg_14_92_0.2.2.2.1, rfl⟩
theorem zd_14_92_6 : zz_B zy_keepRow_14_92 6 (Instr.if_icmp .ge) 49 9 := ⟨43, zg_14_92_0.2.2.2.2.1, rfl, rfl⟩
theorem zd_14_92_49 : zz_D zy_keepRow_14_92 49 (.return_) 1 50 := ⟨zg_14_92_0.2.2.2.2.2.1, rfl⟩
theorem zd_14_92_9 : zz_D zy_keepRow_14_92 9 (.iload 4) 2 11 := ⟨zg_14_92_0.2.2.2.2.2.2.1, rfl⟩
theorem zd_14_92_11 : zz_B zy_keepRow_14_92 11 (Instr.ifCond .eq) 30 14 := ⟨19, zg_14_92_0.2.2.2.2.2.2.2.1, rfl, rfl⟩
theorem zd_14_92_30 : zz_D zy_keepRow_14_92 30 (.aload_n 0) 1 31 := ⟨zg_14_92_0.2.2.2.2.2.2.2.2.1, rfl⟩
theorem zd_14_92_31 : zz_D zy_keepRow_14_92 31 (.getfield 139) 3 34 := ⟨zg_14_92_0.2.2.2.2.2.2.2.2.2, rfl⟩
theorem zg_14_92_34 : (decode zy_keepRow_14_92.2.1 34 = .ok ((.iload_n 3), 1)) ∧ (decode zy_keepRow_14_92.2.1 35 = .ok ((.iload 5), 2)) ∧ (decode zy_keepRow_14_92.2.1 37 = .ok ((.iadd), 1)) ∧ (decode zy_keepRow_14_92.2.1 38 = .ok ((.aload_n 1), 1)) ∧ (decode zy_keepRow_14_92.2.1 39 = .ok ((.iload 5), 2)) ∧ (decode zy_keepRow_14_92.2.1 41 = .ok ((.iaload), 1)) ∧ (decode zy_keepRow_14_92.2.1 42 = .ok ((.iastore), 1)) ∧ (decode zy_keepRow_14_92.2.1 43 = .ok ((.iinc 5 1), 3)) ∧ (decode zy_keepRow_14_92.2.1 46 = .ok (Instr.goto (-43), 3)) := by decide +kernel
theorem zd_14_92_34 : zz_D zy_keepRow_14_92 34 (.iload_n 3) 1 35 := ⟨zg_14_92_34.1, rfl⟩
theorem zd_14_92_35 : zz_D zy_keepRow_14_92 35 (.iload 5) 2 37 := ⟨zg_14_92_34.2.1, rfl⟩
theorem zd_14_92_37 : zz_D zy_keepRow_14_92 37 (.iadd) 1 38 := ⟨zg_14_92_34.2.2.1, rfl⟩
theorem zd_14_92_38 : zz_D zy_keepRow_14_92 38 (.aload_n 1) 1 39 := ⟨zg_14_92_34.2.2.2.1, rfl⟩
theorem zd_14_92_39 : zz_D zy_keepRow_14_92 39 (.iload 5) 2 41 := ⟨zg_14_92_34.2.2.2.2.1, rfl⟩
theorem zd_14_92_41 : zz_D zy_keepRow_14_92 41 (.iaload) 1 42 := ⟨zg_14_92_34.2.2.2.2.2.1, rfl⟩
theorem zd_14_92_42 : zz_D zy_keepRow_14_92 42 (.iastore) 1 43 := ⟨zg_14_92_34.2.2.2.2.2.2.1, rfl⟩
theorem zd_14_92_43 : zz_D zy_keepRow_14_92 43 (.iinc 5 1) 3 46 := ⟨zg_14_92_34.2.2.2.2.2.2.2.1, rfl⟩
theorem zd_14_92_46 : zz_B zy_keepRow_14_92 46 Instr.goto 3 49 := ⟨(-43), zg_14_92_34.2.2.2.2.2.2.2.2, rfl, rfl⟩

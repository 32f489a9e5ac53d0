-- TensorForge$NetworkReader readInput ()Z
abbrev zr_readInput_8_3 : Room := { frames := 6, cells := 0, slots := 0, locals := 81 }
def zp_readInput_8_3  (S0 : zz_S) : Int → zz_S → Prop := fun r S => zz_G S ∧ zz_fr [(1070, 3), (1070, 4), (1070, 5), (1070, 6), (1073, 6), (1073, 7)] [] (fun a i => (a = zz_rf 3 (S0 1073 1) ∧ i = 1) ∨ (a = zz_rf 6 (12 * (S0 1073 1) + 0) ∧ i = 0) ∨ (a = zz_rf 6 (12 * (S0 1073 1) + 0) ∧ i = 1) ∨ (a = zz_rf 6 (12 * (S0 1073 1) + 0) ∧ i = 10) ∨ (a = zz_rf 6 (12 * (S0 1073 1) + 0) ∧ i = 11) ∨ (a = zz_rf 6 (12 * (S0 1073 1) + 0) ∧ i = 12) ∨ (a = zz_rf 6 (12 * (S0 1073 1) + 0) ∧ i = 13) ∨ (a = zz_rf 6 (12 * (S0 1073 1) + 0) ∧ i = 14) ∨ (a = zz_rf 6 (12 * (S0 1073 1) + 0) ∧ i = 2) ∨ (a = zz_rf 6 (12 * (S0 1073 1) + 0) ∧ i = 3) ∨ (a = zz_rf 6 (12 * (S0 1073 1) + 0) ∧ i = 4) ∨ (a = zz_rf 6 (12 * (S0 1073 1) + 0) ∧ i = 5) ∨ (a = zz_rf 6 (12 * (S0 1073 1) + 0) ∧ i = 6) ∨ (a = zz_rf 6 (12 * (S0 1073 1) + 0) ∧ i = 7) ∨ (a = zz_rf 6 (12 * (S0 1073 1) + 0) ∧ i = 8) ∨ (a = zz_rf 6 (12 * (S0 1073 1) + 0) ∧ i = 9)) S0 S ∧ (0 ≤ r ∧ r ≤ 1) ∧ (zz_Hc S)
theorem zc_readInput_8_3 {g : mm_G} {l : Launch}  (S0 : zz_S) (n : Nat) (hn : zz_end ≤ n) (G_S0 : zz_G S0) (H_S0 : zz_Hc S0) : mm_Met g l zy_readInput_8_3 zr_readInput_8_3 [.ref 1073] (zz_M S0 n) n (zz_QI n (zp_readInput_8_3  S0)) := by
  refine zz_enter (by decide) (Nat.le_of_ble_eq_true rfl) (zz_less (ls1 := [some (.ref 1073)]) ⟨rfl, trivial⟩ ?_)
  have F_S0 : zz_fr [(1070, 3), (1070, 4), (1070, 5), (1070, 6), (1073, 6), (1073, 7)] [] (fun a i => (a = zz_rf 3 (S0 1073 1) ∧ i = 1) ∨ (a = zz_rf 6 (12 * (S0 1073 1) + 0) ∧ i = 0) ∨ (a = zz_rf 6 (12 * (S0 1073 1) + 0) ∧ i = 1) ∨ (a = zz_rf 6 (12 * (S0 1073 1) + 0) ∧ i = 10) ∨ (a = zz_rf 6 (12 * (S0 1073 1) + 0) ∧ i = 11) ∨ (a = zz_rf 6 (12 * (S0 1073 1) + 0) ∧ i = 12) ∨ (a = zz_rf 6 (12 * (S0 1073 1) + 0) ∧ i = 13) ∨ (a = zz_rf 6 (12 * (S0 1073 1) + 0) ∧ i = 14) ∨ (a = zz_rf 6 (12 * (S0 1073 1) + 0) ∧ i = 2) ∨ (a = zz_rf 6 (12 * (S0 1073 1) + 0) ∧ i = 3) ∨ (a = zz_rf 6 (12 * (S0 1073 1) + 0) ∧ i = 4) ∨ (a = zz_rf 6 (12 * (S0 1073 1) + 0) ∧ i = 5) ∨ (a = zz_rf 6 (12 * (S0 1073 1) + 0) ∧ i = 6) ∨ (a = zz_rf 6 (12 * (S0 1073 1) + 0) ∧ i = 7) ∨ (a = zz_rf 6 (12 * (S0 1073 1) + 0) ∧ i = 8) ∨ (a = zz_rf 6 (12 * (S0 1073 1) + 0) ∧ i = 9)) S0 S0 := zz_fr.refl
  refine zz_aload_n (x := 1073) rfl zd_8_3_0 ?_
  refine zz_getr (kd := 0) (z := 1070) zd_8_3_1 zf_NetworkReader_9 zT_1073 rfl (zz_ltn hn rfl) (zz_G.eq G_S0 1073 0 1070 rfl rfl) (by decide) 1070 rfl ?_
  refine zz_ldcs (t := 29) (by decide +kernel) (by decide) zd_8_3_4 ?_
  refine zz_callVI [.ref (100 + 29)] zd_8_3_6 zk_NetworkReader_87 zT_1070 (zz_ltn hn rfl) rfl rfl ⟨Nat.le_of_ble_eq_true rfl, Nat.le_of_ble_eq_true rfl⟩ ⟨rfl, rfl⟩ (Nat.zero_le _) (Nat.zero_le _) (zc_isWord_11_9 29 S0 n hn G_S0 (by omega)) (fun v2 S1 hP => ?_)
  obtain ⟨rfl, o3⟩ := hP
  rcases (by omega : v2 = 0 ∨ v2 = 1) with rfl | rfl
  · refine zz_if_eq (by omega) zd_8_3_9 (fun c4 => ?_) (fun c4 => ?_)
    · refine zz_iconst zd_8_3_22 ?_
      exact zz_zret zd_8_3_23 rfl (by omega) (Nat.zero_le _) (Nat.zero_le _) ⟨_, _, rfl, G_S0, F_S0, by omega, H_S0⟩
    · exfalso; omega
  · refine zz_if_eq (by omega) zd_8_3_9 (fun c5 => ?_) (fun c5 => ?_)
    · exfalso; omega
    · refine zz_aload_n (x := 1073) rfl zd_8_3_12 ?_
      refine zz_getr (kd := 0) (z := 1070) zd_8_3_13 zf_NetworkReader_9 zT_1073 rfl (zz_ltn hn rfl) (zz_G.eq G_S0 1073 0 1070 rfl rfl) (by decide) 1070 rfl ?_
      refine zz_callVI [] zd_8_3_16 zk_NetworkReader_91 zT_1070 (zz_ltn hn rfl) rfl rfl ⟨Nat.le_of_ble_eq_true rfl, Nat.le_of_ble_eq_true rfl⟩ ⟨rfl, rfl⟩ (Nat.zero_le _) (Nat.zero_le _) (zc_nextIsNumber_11_11  S0 n hn G_S0 ) (fun v7 S6 hP => ?_)
      obtain ⟨G_S6, fS6, o8⟩ := hP
      have F_S6 := zz_fr.trans F_S0 fS6 rfl zz_nv
      have H_S6 : zz_Hc S6 := zz_Hc.fr (q := 0) fS6 rfl rfl G_S0 (by decide) rfl (fun b j h => h.elim) H_S0
      rcases (by omega : v7 = 0 ∨ v7 = 1) with rfl | rfl
      · refine zz_if_ne (by omega) zd_8_3_19 (fun c9 => ?_) (fun c9 => ?_)
        · exfalso; omega
        · refine zz_iconst zd_8_3_22 ?_
          exact zz_zret zd_8_3_23 rfl (by omega) (Nat.zero_le _) (Nat.zero_le _) ⟨_, _, rfl, G_S6, F_S6, by omega, H_S6⟩
      · refine zz_if_ne (by omega) zd_8_3_19 (fun c10 => ?_) (fun c10 => ?_)
        · refine zz_aload_n (x := 1073) rfl zd_8_3_24 ?_
          refine zz_getr (kd := 0) (z := 1070) zd_8_3_25 zf_NetworkReader_9 zT_1073 rfl (zz_ltn hn rfl) (zz_G.eq G_S6 1073 0 1070 rfl rfl) (by decide) 1070 rfl ?_
          have g11 := zz_G.r G_S6 1070 6 (-2147483648) 2147483647 rfl rfl
          refine zz_geti (z := S6 1070 6) zd_8_3_28 zf_NetworkReader_94 zT_1070 rfl (zz_ltn hn rfl) rfl ?_
          refine zz_istore_n [some (.ref 1073), some (zi (S6 1070 6))] zd_8_3_31 (by decide) rfl ?_
          refine zz_aload_n (x := 1073) rfl zd_8_3_32 ?_
          refine zz_getr (kd := 0) (z := 1070) zd_8_3_33 zf_NetworkReader_9 zT_1073 rfl (zz_ltn hn rfl) (zz_G.eq G_S6 1073 0 1070 rfl rfl) (by decide) 1070 rfl ?_
          refine zz_ldcs (t := 12) (by decide +kernel) (by decide) zd_8_3_36 ?_
          refine zz_callVI [.ref (100 + 12)] zd_8_3_38 zk_NetworkReader_99 zT_1070 (zz_ltn hn rfl) rfl rfl ⟨Nat.le_of_ble_eq_true rfl, Nat.le_of_ble_eq_true rfl⟩ ⟨rfl, rfl⟩ (Nat.zero_le _) (Nat.zero_le _) (zc_nextIsWord_11_10 12 S6 n hn G_S6 (by omega)) (fun v13 S12 hP => ?_)
          obtain ⟨G_S12, fS12, o14⟩ := hP
          have F_S12 := zz_fr.trans F_S6 fS12 rfl zz_nv
          have H_S12 : zz_Hc S12 := zz_Hc.fr (q := 0) fS12 rfl rfl G_S6 (by decide) rfl (fun b j h => h.elim) H_S6
          rcases (by omega : v13 = 0 ∨ v13 = 1) with rfl | rfl
          · refine zz_if_eq (by omega) zd_8_3_41 (fun c15 => ?_) (fun c15 => ?_)
            · refine zz_iconst zd_8_3_54 ?_
              exact zz_zret zd_8_3_55 rfl (by omega) (Nat.zero_le _) (Nat.zero_le _) ⟨_, _, rfl, G_S12, F_S12, by omega, H_S12⟩
            · exfalso; omega
          · refine zz_if_eq (by omega) zd_8_3_41 (fun c16 => ?_) (fun c16 => ?_)
            · exfalso; omega
            · refine zz_aload_n (x := 1073) rfl zd_8_3_44 ?_
              refine zz_getr (kd := 0) (z := 1070) zd_8_3_45 zf_NetworkReader_9 zT_1073 rfl (zz_ltn hn rfl) (zz_G.eq G_S12 1073 0 1070 rfl rfl) (by decide) 1070 rfl ?_
              refine zz_callVI [] zd_8_3_48 zk_NetworkReader_91 zT_1070 (zz_ltn hn rfl) rfl rfl ⟨Nat.le_of_ble_eq_true rfl, Nat.le_of_ble_eq_true rfl⟩ ⟨rfl, rfl⟩ (Nat.zero_le _) (Nat.zero_le _) (zc_nextIsNumber_11_11  S12 n hn G_S12 ) (fun v18 S17 hP => ?_)
              obtain ⟨G_S17, fS17, o19⟩ := hP
              have F_S17 := zz_fr.trans F_S12 fS17 rfl zz_nv
              have H_S17 : zz_Hc S17 := zz_Hc.fr (q := 0) fS17 rfl rfl G_S12 (by decide) rfl (fun b j h => h.elim) H_S12
              rcases (by omega : v18 = 0 ∨ v18 = 1) with rfl | rfl
              · refine zz_if_ne (by omega) zd_8_3_51 (fun c20 => ?_) (fun c20 => ?_)
                · exfalso; omega
                · refine zz_iconst zd_8_3_54 ?_
                  exact zz_zret zd_8_3_55 rfl (by omega) (Nat.zero_le _) (Nat.zero_le _) ⟨_, _, rfl, G_S17, F_S17, by omega, H_S17⟩
              · refine zz_if_ne (by omega) zd_8_3_51 (fun c21 => ?_) (fun c21 => ?_)
                · refine zz_aload_n (x := 1073) rfl zd_8_3_56 ?_
                  refine zz_getr (kd := 0) (z := 1070) zd_8_3_57 zf_NetworkReader_9 zT_1073 rfl (zz_ltn hn rfl) (zz_G.eq G_S17 1073 0 1070 rfl rfl) (by decide) 1070 rfl ?_
                  have g22 := zz_G.r G_S17 1070 6 (-2147483648) 2147483647 rfl rfl
                  refine zz_geti (z := S17 1070 6) zd_8_3_60 zf_NetworkReader_94 zT_1070 rfl (zz_ltn hn rfl) rfl ?_
                  refine zz_istore_n [some (.ref 1073), some (zi (S6 1070 6)), some (zi (S17 1070 6))] zd_8_3_63 (by decide) rfl ?_
                  refine zz_aload_n (x := 1073) rfl zd_8_3_64 ?_
                  refine zz_getr (kd := 0) (z := 1070) zd_8_3_65 zf_NetworkReader_9 zT_1073 rfl (zz_ltn hn rfl) (zz_G.eq G_S17 1073 0 1070 rfl rfl) (by decide) 1070 rfl ?_
                  refine zz_ldcs (t := 12) (by decide +kernel) (by decide) zd_8_3_68 ?_
                  refine zz_callVI [.ref (100 + 12)] zd_8_3_70 zk_NetworkReader_99 zT_1070 (zz_ltn hn rfl) rfl rfl ⟨Nat.le_of_ble_eq_true rfl, Nat.le_of_ble_eq_true rfl⟩ ⟨rfl, rfl⟩ (Nat.zero_le _) (Nat.zero_le _) (zc_nextIsWord_11_10 12 S17 n hn G_S17 (by omega)) (fun v24 S23 hP => ?_)
                  obtain ⟨G_S23, fS23, o25⟩ := hP
                  have F_S23 := zz_fr.trans F_S17 fS23 rfl zz_nv
                  have H_S23 : zz_Hc S23 := zz_Hc.fr (q := 0) fS23 rfl rfl G_S17 (by decide) rfl (fun b j h => h.elim) H_S17
                  rcases (by omega : v24 = 0 ∨ v24 = 1) with rfl | rfl
                  · refine zz_if_eq (by omega) zd_8_3_73 (fun c26 => ?_) (fun c26 => ?_)
                    · refine zz_iconst zd_8_3_86 ?_
                      exact zz_zret zd_8_3_87 rfl (by omega) (Nat.zero_le _) (Nat.zero_le _) ⟨_, _, rfl, G_S23, F_S23, by omega, H_S23⟩
                    · exfalso; omega
                  · refine zz_if_eq (by omega) zd_8_3_73 (fun c27 => ?_) (fun c27 => ?_)
                    · exfalso; omega
                    · refine zz_aload_n (x := 1073) rfl zd_8_3_76 ?_
                      refine zz_getr (kd := 0) (z := 1070) zd_8_3_77 zf_NetworkReader_9 zT_1073 rfl (zz_ltn hn rfl) (zz_G.eq G_S23 1073 0 1070 rfl rfl) (by decide) 1070 rfl ?_
                      refine zz_callVI [] zd_8_3_80 zk_NetworkReader_91 zT_1070 (zz_ltn hn rfl) rfl rfl ⟨Nat.le_of_ble_eq_true rfl, Nat.le_of_ble_eq_true rfl⟩ ⟨rfl, rfl⟩ (Nat.zero_le _) (Nat.zero_le _) (zc_nextIsNumber_11_11  S23 n hn G_S23 ) (fun v29 S28 hP => ?_)
                      obtain ⟨G_S28, fS28, o30⟩ := hP
                      have F_S28 := zz_fr.trans F_S23 fS28 rfl zz_nv
                      have H_S28 : zz_Hc S28 := zz_Hc.fr (q := 0) fS28 rfl rfl G_S23 (by decide) rfl (fun b j h => h.elim) H_S23
                      rcases (by omega : v29 = 0 ∨ v29 = 1) with rfl | rfl
                      · refine zz_if_ne (by omega) zd_8_3_83 (fun c31 => ?_) (fun c31 => ?_)
                        · exfalso; omega
                        · refine zz_iconst zd_8_3_86 ?_
                          exact zz_zret zd_8_3_87 rfl (by omega) (Nat.zero_le _) (Nat.zero_le _) ⟨_, _, rfl, G_S28, F_S28, by omega, H_S28⟩
                      · refine zz_if_ne (by omega) zd_8_3_83 (fun c32 => ?_) (fun c32 => ?_)
                        · refine zz_aload_n (x := 1073) rfl zd_8_3_88 ?_
                          refine zz_getr (kd := 0) (z := 1070) zd_8_3_89 zf_NetworkReader_9 zT_1073 rfl (zz_ltn hn rfl) (zz_G.eq G_S28 1073 0 1070 rfl rfl) (by decide) 1070 rfl ?_
                          have g33 := zz_G.r G_S28 1070 6 (-2147483648) 2147483647 rfl rfl
                          refine zz_geti (z := S28 1070 6) zd_8_3_92 zf_NetworkReader_94 zT_1070 rfl (zz_ltn hn rfl) rfl ?_
                          refine zz_istore_n [some (.ref 1073), some (zi (S6 1070 6)), some (zi (S17 1070 6)), some (zi (S28 1070 6))] zd_8_3_95 (by decide) rfl ?_
                          refine zz_iload_n (x := S6 1070 6) rfl zd_8_3_96 ?_
                          refine zz_iload_n (x := S17 1070 6) rfl zd_8_3_97 ?_
                          refine zz_iload_n (x := S28 1070 6) rfl zd_8_3_98 ?_
                          refine zz_callSI [zi (S6 1070 6), zi (S17 1070 6), zi (S28 1070 6)] zd_8_3_99 zk_NetworkReader_102 rfl rfl ⟨Nat.le_of_ble_eq_true rfl, Nat.le_of_ble_eq_true rfl⟩ ⟨rfl, rfl⟩ (Nat.zero_le _) (Nat.zero_le _) (zc_inputFits_7_2 (S6 1070 6) (S17 1070 6) (S28 1070 6) S28 n hn G_S28 (by omega) (by omega) (by omega)) (fun v35 S34 hP => ?_)
                          obtain ⟨rfl, o36, o37⟩ := hP
                          rcases (by omega : v35 = 0 ∨ v35 = 1) with rfl | rfl
                          · refine zz_if_ne (by omega) zd_8_3_102 (fun c38 => ?_) (fun c38 => ?_)
                            · exfalso; omega
                            · refine zz_iconst zd_8_3_105 ?_
                              exact zz_zret zd_8_3_106 rfl (by omega) (Nat.zero_le _) (Nat.zero_le _) ⟨_, _, rfl, G_S28, F_S28, by omega, H_S28⟩
                          · refine zz_if_ne (by omega) zd_8_3_102 (fun c39 => ?_) (fun c39 => ?_)
                            · refine zz_aload_n (x := 1073) rfl zd_8_3_107 ?_
                              have g40 := zz_G.r G_S0 1073 1 0 1 rfl rfl
                              refine zz_getr (kd := 1) (z := S0 1073 1) zd_8_3_108 zf_NetworkReader_15 zT_1073 rfl (zz_ltn hn rfl) (zz_rc fS28 rfl rfl (fun h => h) (zz_rc fS23 rfl rfl (fun h => h) (zz_rc fS17 rfl rfl (fun h => h) (zz_rc fS12 rfl rfl (fun h => h) (zz_rc fS6 rfl rfl (fun h => h) rfl))))) (by omega) (zz_rf 3 (S0 1073 1)) rfl ?_
                              refine zz_iload_n (x := S6 1070 6) rfl zd_8_3_111 ?_
                              refine zz_iload_n (x := S17 1070 6) rfl zd_8_3_112 ?_
                              refine zz_iload_n (x := S28 1070 6) rfl zd_8_3_113 ?_
                              refine zz_callVV [zi (S6 1070 6), zi (S17 1070 6), zi (S28 1070 6)] zd_8_3_114 zk_NetworkReader_106 (zT_k3 (by omega)) (zN_k3 hn (by omega)) rfl rfl ⟨Nat.le_of_ble_eq_true rfl, Nat.le_of_ble_eq_true rfl⟩ ⟨rfl, rfl⟩ (Nat.zero_le _) (Nat.zero_le _) (zc_beginWith_7_3 (S0 1073 1) (S6 1070 6) (S17 1070 6) (S28 1070 6) S28 n hn G_S28 (by omega) (by omega) (by omega) (by omega) H_S28) (fun S41 hP => ?_)
                              obtain ⟨G_S41, fS41, o43, o44, o45⟩ := hP
                              have g46 := zz_G.r G_S0 1073 1 0 1 rfl rfl
                              have F_S41 := zz_fr.trans F_S28 fS41 rfl (fun a i h => by rcases h with h | h | h | h | h | h | h | h | h | h | h | h | h | h | h | h; exact Or.inr (Or.inr (Or.inl h)); exact Or.inr (Or.inr (Or.inr (Or.inl h))); exact Or.inr (Or.inr (Or.inr (Or.inr (Or.inl h)))); exact Or.inr (Or.inr (Or.inr (Or.inr (Or.inr (Or.inl h))))); exact Or.inr (Or.inr (Or.inr (Or.inr (Or.inr (Or.inr (Or.inl h)))))); exact Or.inr (Or.inr (Or.inr (Or.inr (Or.inr (Or.inr (Or.inr (Or.inl h))))))); exact Or.inr (Or.inr (Or.inr (Or.inr (Or.inr (Or.inr (Or.inr (Or.inr (Or.inl h)))))))); exact Or.inr (Or.inr (Or.inr (Or.inr (Or.inr (Or.inr (Or.inr (Or.inr (Or.inr (Or.inl h))))))))); exact Or.inr (Or.inr (Or.inr (Or.inr (Or.inr (Or.inr (Or.inr (Or.inr (Or.inr (Or.inr (Or.inl h)))))))))); exact Or.inr (Or.inr (Or.inr (Or.inr (Or.inr (Or.inr (Or.inr (Or.inr (Or.inr (Or.inr (Or.inr (Or.inl h))))))))))); exact Or.inr (Or.inr (Or.inr (Or.inr (Or.inr (Or.inr (Or.inr (Or.inr (Or.inr (Or.inr (Or.inr (Or.inr (Or.inl h)))))))))))); exact Or.inr (Or.inr (Or.inr (Or.inr (Or.inr (Or.inr (Or.inr (Or.inr (Or.inr (Or.inr (Or.inr (Or.inr (Or.inr (Or.inl h))))))))))))); exact Or.inr (Or.inr (Or.inr (Or.inr (Or.inr (Or.inr (Or.inr (Or.inr (Or.inr (Or.inr (Or.inr (Or.inr (Or.inr (Or.inr (Or.inl h)))))))))))))); exact Or.inr (Or.inr (Or.inr (Or.inr (Or.inr (Or.inr (Or.inr (Or.inr (Or.inr (Or.inr (Or.inr (Or.inr (Or.inr (Or.inr (Or.inr (Or.inl h))))))))))))))); exact Or.inr (Or.inr (Or.inr (Or.inr (Or.inr (Or.inr (Or.inr (Or.inr (Or.inr (Or.inr (Or.inr (Or.inr (Or.inr (Or.inr (Or.inr (Or.inr (Or.inl h)))))))))))))))); exact Or.inr (Or.inr (Or.inr (Or.inr (Or.inr (Or.inr (Or.inr (Or.inr (Or.inr (Or.inr (Or.inr (Or.inr (Or.inr (Or.inr (Or.inr (Or.inr (Or.inr (h))))))))))))))))))
                              have b47 := zz_rf3 (z := (S0 1073 1)) (by omega)
                              have b48 := zz_rf6 (z := (12 * (S0 1073 1) + 0)) (by omega)
                              have H_S41 : zz_Hc S41 := o45
                              refine zz_aload_n (x := 1073) rfl zd_8_3_117 ?_
                              refine zz_sipush (by decide) zd_8_3_118 ?_
                              refine zz_puti zd_8_3_121 zf_NetworkReader_35 zT_1073 rfl (zz_ltn hn rfl) (fun S49 qS49 => ?_)
                              have G_S49 := zz_G.put G_S41 qS49 (-2147483648) 2147483647 rfl (by omega)
                              have F_S49 := zz_fr.puts F_S41 qS49 rfl
                              have H_S49 : zz_Hc S49 := zz_Hc.fr (q := 0) (zz_fr.put1 qS49) rfl rfl G_S41 (by decide) rfl (fun b j h => by omega) H_S41
                              refine zz_aload_n (x := 1073) rfl zd_8_3_124 ?_
                              refine zz_iconst zd_8_3_125 ?_
                              refine zz_puti zd_8_3_126 zf_NetworkReader_38 zT_1073 rfl (zz_ltn hn rfl) (fun S50 qS50 => ?_)
                              have G_S50 := zz_G.put G_S49 qS50 (-2147483648) 2147483647 rfl (by omega)
                              have F_S50 := zz_fr.puts F_S49 qS50 rfl
                              have H_S50 : zz_Hc S50 := zz_Hc.fr (q := 0) (zz_fr.put1 qS50) rfl rfl G_S49 (by decide) rfl (fun b j h => by omega) H_S49
                              refine zz_iconst zd_8_3_129 ?_
                              exact zz_zret zd_8_3_130 rfl (by omega) (Nat.zero_le _) (Nat.zero_le _) ⟨_, _, rfl, G_S50, F_S50, by omega, H_S50⟩
                            · exfalso; omega
                        · exfalso; omega
                · exfalso; omega
        · exfalso; omega
theorem zk_NetworkReader_75 : mm_Vl "TensorForge$NetworkReader" 75 8 0 zy_readInput_8_3 := ⟨zyw_readInput_8_3, (R_NetworkReader, F_NetworkReader, 9), rfl, mm_tb_1 1018 (by decide +kernel) rfl, mm_tb_1 1020 (by decide +kernel) rfl, mm_tb_s 51 (by decide +kernel) rfl⟩
theorem zd_8_2_98 : zz_B zy_readInto_8_2 98 (Instr.ifCond .eq) 112 101 := ⟨14, by decide +kernel, rfl, rfl⟩
theorem zd_8_2_112 : zz_D zy_readInto_8_2 112 (.iconst 0) 1 113 := ⟨by decide +kernel, rfl⟩
theorem zd_8_2_113 : zz_D zy_readInto_8_2 113 (.istore 4) 2 115 := ⟨by decide +kernel, rfl⟩
theorem zd_8_2_115 : zz_D zy_readInto_8_2 115 (.iload 4) 2 117 := ⟨by decide +kernel, rfl⟩
theorem zd_8_2_117 : zz_B zy_readInto_8_2 117 (Instr.ifCond .ne) 122 120 := ⟨5, by decide +kernel, rfl, rfl⟩
theorem zd_8_2_120 : zz_D zy_readInto_8_2 120 (.iload_n 3) 1 121 := ⟨by decide +kernel, rfl⟩
theorem zd_8_2_121 : zz_D zy_readInto_8_2 121 (.ireturn) 1 122 := ⟨by decide +kernel, rfl⟩
theorem zd_8_2_101 : zz_D zy_readInto_8_2 101 (.aload_n 0) 1 102 := ⟨by decide +kernel, rfl⟩
theorem zd_8_2_102 : zz_D zy_readInto_8_2 102 (.invokevirtual 68) 3 105 := ⟨by decide +kernel, rfl⟩
abbrev zy_readOptions_8_7 : mm_Y := (⟨"TensorForge$NetworkReader", "readOptions", "()Z"⟩, prog_8_method_7_code, 3, (some .boolean))
theorem zyw_readOptions_8_7 : mm_Yw zy_readOptions_8_7 0 := ⟨mm_tb_1 948 (by decide +kernel) rfl, mm_tb_1 9 (by decide +kernel) rfl, ⟨by decide, by decide⟩, by decide +kernel⟩
theorem zd_8_7_0 : zz_D zy_readOptions_8_7 0 (.aload_n 0) 1 1 := ⟨by decide +kernel, rfl⟩
theorem zd_8_7_1 : zz_D zy_readOptions_8_7 1 (.iconst 0) 1 2 := ⟨by decide +kernel, rfl⟩
theorem zd_8_7_2 : zz_D zy_readOptions_8_7 2 (.putfield 41) 3 5 := ⟨by decide +kernel, rfl⟩
theorem zd_8_7_5 : zz_D zy_readOptions_8_7 5 (.aload_n 0) 1 6 := ⟨by decide +kernel, rfl⟩
theorem zd_8_7_6 : zz_D zy_readOptions_8_7 6 (.iconst 0) 1 7 := ⟨by decide +kernel, rfl⟩
theorem zd_8_7_7 : zz_D zy_readOptions_8_7 7 (.putfield 32) 3 10 := ⟨by decide +kernel, rfl⟩
theorem zd_8_7_10 : zz_D zy_readOptions_8_7 10 (.iconst 0) 1 11 := ⟨by decide +kernel, rfl⟩
theorem zd_8_7_11 : zz_D zy_readOptions_8_7 11 (.istore_n 1) 1 12 := ⟨by decide +kernel, rfl⟩
theorem zd_8_7_12 : zz_D zy_readOptions_8_7 12 (.iload_n 1) 1 13 := ⟨by decide +kernel, rfl⟩
theorem zd_8_7_13 : zz_D zy_readOptions_8_7 13 (.sipush 1500) 3 16 := ⟨by decide +kernel, rfl⟩
theorem zd_8_7_16 : zz_B zy_readOptions_8_7 16 (Instr.if_icmp .gt) 107 19 := ⟨91, by decide +kernel, rfl, rfl⟩
theorem zd_8_7_19 : zz_D zy_readOptions_8_7 19 (.aload_n 0) 1 20 := ⟨by decide +kernel, rfl⟩
theorem zd_8_7_20 : zz_D zy_readOptions_8_7 20 (.getfield 9) 3 23 := ⟨by decide +kernel, rfl⟩
theorem zd_8_7_23 : zz_D zy_readOptions_8_7 23 (.invokevirtual 59) 3 26 := ⟨by decide +kernel, rfl⟩
theorem zd_8_7_26 : zz_D zy_readOptions_8_7 26 (.aload_n 0) 1 27 := ⟨by decide +kernel, rfl⟩
theorem zd_8_7_27 : zz_D zy_readOptions_8_7 27 (.getfield 9) 3 30 := ⟨by decide +kernel, rfl⟩
theorem zd_8_7_30 : zz_D zy_readOptions_8_7 30 (.getfield 62) 3 33 := ⟨by decide +kernel, rfl⟩
theorem zd_8_7_33 : zz_B zy_readOptions_8_7 33 (Instr.ifCond .ne) 58 36 := ⟨25, by decide +kernel, rfl, rfl⟩
theorem zd_8_7_58 : zz_D zy_readOptions_8_7 58 (.aload_n 0) 1 59 := ⟨by decide +kernel, rfl⟩
theorem zd_8_7_59 : zz_D zy_readOptions_8_7 59 (.invokevirtual 135) 3 62 := ⟨by decide +kernel, rfl⟩
abbrev zy_optionTold_8_8 : mm_Y := (⟨"TensorForge$NetworkReader", "optionTold", "()I"⟩, prog_8_method_8_code, 1, (some .int))
theorem zyw_optionTold_8_8 : mm_Yw zy_optionTold_8_8 0 := ⟨mm_tb_1 952 (by decide +kernel) rfl, mm_tb_1 9 (by decide +kernel) rfl, ⟨by decide, by decide⟩, by decide +kernel⟩
theorem zd_8_8_0 : zz_D zy_optionTold_8_8 0 (.aload_n 0) 1 1 := ⟨by decide +kernel, rfl⟩
theorem zd_8_8_1 : zz_D zy_optionTold_8_8 1 (.getfield 9) 3 4 := ⟨by decide +kernel, rfl⟩
theorem zd_8_8_4 : zz_D zy_optionTold_8_8 4 (.ldc 142) 2 6 := ⟨by decide +kernel, rfl⟩
theorem zd_8_8_6 : zz_D zy_optionTold_8_8 6 (.invokevirtual 87) 3 9 := ⟨by decide +kernel, rfl⟩
theorem zd_8_8_9 : zz_B zy_optionTold_8_8 9 (Instr.ifCond .eq) 14 12 := ⟨5, by decide +kernel, rfl, rfl⟩
theorem zd_8_8_14 : zz_D zy_optionTold_8_8 14 (.aload_n 0) 1 15 := ⟨by decide +kernel, rfl⟩
theorem zd_8_8_15 : zz_D zy_optionTold_8_8 15 (.getfield 9) 3 18 := ⟨by decide +kernel, rfl⟩
theorem zd_8_8_18 : zz_D zy_optionTold_8_8 18 (.ldc 144) 2 20 := ⟨by decide +kernel, rfl⟩
theorem zd_8_8_20 : zz_D zy_optionTold_8_8 20 (.invokevirtual 87) 3 23 := ⟨by decide +kernel, rfl⟩
theorem zd_8_8_23 : zz_B zy_optionTold_8_8 23 (Instr.ifCond .eq) 28 26 := ⟨5, by decide +kernel, rfl, rfl⟩
theorem zd_8_8_28 : zz_D zy_optionTold_8_8 28 (.aload_n 0) 1 29 := ⟨by decide +kernel, rfl⟩
theorem zd_8_8_29 : zz_D zy_optionTold_8_8 29 (.getfield 9) 3 32 := ⟨by decide +kernel, rfl⟩
theorem zd_8_8_32 : zz_D zy_optionTold_8_8 32 (.ldc 146) 2 34 := ⟨by decide +kernel, rfl⟩
theorem zd_8_8_34 : zz_D zy_optionTold_8_8 34 (.invokevirtual 87) 3 37 := ⟨by decide +kernel, rfl⟩
theorem zd_8_8_37 : zz_B zy_optionTold_8_8 37 (Instr.ifCond .eq) 42 40 := ⟨5, by decide +kernel, rfl, rfl⟩
theorem zd_8_8_42 : zz_D zy_optionTold_8_8 42 (.aload_n 0) 1 43 := ⟨by decide +kernel, rfl⟩
theorem zd_8_8_43 : zz_D zy_optionTold_8_8 43 (.getfield 9) 3 46 := ⟨by decide +kernel, rfl⟩
theorem zd_8_8_46 : zz_D zy_optionTold_8_8 46 (.ldc 148) 2 48 := ⟨by decide +kernel, rfl⟩
theorem zd_8_8_48 : zz_D zy_optionTold_8_8 48 (.invokevirtual 87) 3 51 := ⟨by decide +kernel, rfl⟩
theorem zd_8_8_51 : zz_B zy_optionTold_8_8 51 (Instr.ifCond .eq) 57 54 := ⟨6, by decide +kernel, rfl, rfl⟩
theorem zd_8_8_57 : zz_D zy_optionTold_8_8 57 (.aload_n 0) 1 58 := ⟨by decide +kernel, rfl⟩
theorem zd_8_8_58 : zz_D zy_optionTold_8_8 58 (.getfield 9) 3 61 := ⟨by decide +kernel, rfl⟩
theorem zd_8_8_61 : zz_D zy_optionTold_8_8 61 (.ldc 150) 2 63 := ⟨by decide +kernel, rfl⟩
theorem zd_8_8_63 : zz_D zy_optionTold_8_8 63 (.invokevirtual 87) 3 66 := ⟨by decide +kernel, rfl⟩
theorem zd_8_8_66 : zz_B zy_optionTold_8_8 66 (Instr.ifCond .eq) 72 69 := ⟨6, by decide +kernel, rfl, rfl⟩
theorem zd_8_8_72 : zz_D zy_optionTold_8_8 72 (.aload_n 0) 1 73 := ⟨by decide +kernel, rfl⟩
theorem zd_8_8_73 : zz_D zy_optionTold_8_8 73 (.getfield 9) 3 76 := ⟨by decide +kernel, rfl⟩
theorem zd_8_8_76 : zz_D zy_optionTold_8_8 76 (.ldc 152) 2 78 := ⟨by decide +kernel, rfl⟩
theorem zd_8_8_78 : zz_D zy_optionTold_8_8 78 (.invokevirtual 87) 3 81 := ⟨by decide +kernel, rfl⟩
theorem zd_8_8_81 : zz_B zy_optionTold_8_8 81 (Instr.ifCond .eq) 87 84 := ⟨6, by decide +kernel, rfl, rfl⟩
theorem zd_8_8_87 : zz_D zy_optionTold_8_8 87 (.aload_n 0) 1 88 := ⟨by decide +kernel, rfl⟩
theorem zd_8_8_88 : zz_D zy_optionTold_8_8 88 (.getfield 9) 3 91 := ⟨by decide +kernel, rfl⟩
theorem zd_8_8_91 : zz_D zy_optionTold_8_8 91 (.ldc 154) 2 93 := ⟨by decide +kernel, rfl⟩
theorem zd_8_8_93 : zz_D zy_optionTold_8_8 93 (.invokevirtual 87) 3 96 := ⟨by decide +kernel, rfl⟩
theorem zd_8_8_96 : zz_B zy_optionTold_8_8 96 (Instr.ifCond .eq) 102 99 := ⟨6, by decide +kernel, rfl, rfl⟩
theorem zd_8_8_102 : zz_D zy_optionTold_8_8 102 (.aload_n 0) 1 103 := ⟨by decide +kernel, rfl⟩
theorem zd_8_8_103 : zz_D zy_optionTold_8_8 103 (.getfield 9) 3 106 := ⟨by decide +kernel, rfl⟩
theorem zd_8_8_106 : zz_D zy_optionTold_8_8 106 (.ldc 156) 2 108 := ⟨by decide +kernel, rfl⟩
theorem zd_8_8_108 : zz_D zy_optionTold_8_8 108 (.invokevirtual 87) 3 111 := ⟨by decide +kernel, rfl⟩
theorem zd_8_8_111 : zz_B zy_optionTold_8_8 111 (Instr.ifCond .eq) 120 114 := ⟨9, by decide +kernel, rfl, rfl⟩
theorem zd_8_8_120 : zz_D zy_optionTold_8_8 120 (.iconst 0) 1 121 := ⟨by decide +kernel, rfl⟩
theorem zd_8_8_121 : zz_D zy_optionTold_8_8 121 (.ireturn) 1 122 := ⟨by decide +kernel, rfl⟩
theorem zd_8_8_114 : zz_D zy_optionTold_8_8 114 (.sipush 128) 3 117 := ⟨by decide +kernel, rfl⟩
theorem zd_8_8_117 : zz_B zy_optionTold_8_8 117 Instr.goto 121 120 := ⟨4, by decide +kernel, rfl, rfl⟩
theorem zd_8_8_99 : zz_D zy_optionTold_8_8 99 (.bipush 64) 2 101 := ⟨by decide +kernel, rfl⟩
theorem zd_8_8_101 : zz_D zy_optionTold_8_8 101 (.ireturn) 1 102 := ⟨by decide +kernel, rfl⟩
theorem zd_8_8_84 : zz_D zy_optionTold_8_8 84 (.bipush 32) 2 86 := ⟨by decide +kernel, rfl⟩
theorem zd_8_8_86 : zz_D zy_optionTold_8_8 86 (.ireturn) 1 87 := ⟨by decide +kernel, rfl⟩
theorem zd_8_8_69 : zz_D zy_optionTold_8_8 69 (.bipush 16) 2 71 := ⟨by decide +kernel, rfl⟩
theorem zd_8_8_71 : zz_D zy_optionTold_8_8 71 (.ireturn) 1 72 := ⟨by decide +kernel, rfl⟩
theorem zd_8_8_54 : zz_D zy_optionTold_8_8 54 (.bipush 8) 2 56 := ⟨by decide +kernel, rfl⟩
theorem zd_8_8_56 : zz_D zy_optionTold_8_8 56 (.ireturn) 1 57 := ⟨by decide +kernel, rfl⟩
theorem zd_8_8_40 : zz_D zy_optionTold_8_8 40 (.iconst 4) 1 41 := ⟨by decide +kernel, rfl⟩
theorem zd_8_8_41 : zz_D zy_optionTold_8_8 41 (.ireturn) 1 42 := ⟨by decide +kernel, rfl⟩
theorem zd_8_8_26 : zz_D zy_optionTold_8_8 26 (.iconst 2) 1 27 := ⟨by decide +kernel, rfl⟩
theorem zd_8_8_27 : zz_D zy_optionTold_8_8 27 (.ireturn) 1 28 := ⟨by decide +kernel, rfl⟩
theorem zd_8_8_12 : zz_D zy_optionTold_8_8 12 (.iconst 1) 1 13 := ⟨by decide +kernel, rfl⟩
theorem zd_8_8_13 : zz_D zy_optionTold_8_8 13 (.ireturn) 1 14 := ⟨by decide +kernel, rfl⟩
-- TensorForge$NetworkReader optionTold ()I
abbrev zr_optionTold_8_8 : Room := { frames := 5, cells := 0, slots := 0, locals := 68 }
def zp_optionTold_8_8  (S0 : zz_S) : Int → zz_S → Prop := fun r S => S0 = S ∧ ((-2147483648) ≤ r ∧ r ≤ 2147483647)
theorem zc_optionTold_8_8 {g : mm_G} {l : Launch}  (S0 : zz_S) (n : Nat) (hn : zz_end ≤ n) (G_S0 : zz_G S0)  : mm_Met g l zy_optionTold_8_8 zr_optionTold_8_8 [.ref 1073] (zz_M S0 n) n (zz_QI n (zp_optionTold_8_8  S0)) := by
  refine zz_enter (by decide) (Nat.le_of_ble_eq_true rfl) (zz_less (ls1 := [some (.ref 1073)]) ⟨rfl, trivial⟩ ?_)
  refine zz_aload_n (x := 1073) rfl zd_8_8_0 ?_
  refine zz_getr (kd := 0) (z := 1070) zd_8_8_1 zf_NetworkReader_9 zT_1073 rfl (zz_ltn hn rfl) (zz_G.eq G_S0 1073 0 1070 rfl rfl) (by decide) 1070 rfl ?_
  refine zz_ldcs (t := 11) (by decide +kernel) (by decide) zd_8_8_4 ?_
  refine zz_callVI [.ref (100 + 11)] zd_8_8_6 zk_NetworkReader_87 zT_1070 (zz_ltn hn rfl) rfl rfl ⟨Nat.le_of_ble_eq_true rfl, Nat.le_of_ble_eq_true rfl⟩ ⟨rfl, rfl⟩ (Nat.zero_le _) (Nat.zero_le _) (zc_isWord_11_9 11 S0 n hn G_S0 (by omega)) (fun v2 S1 hP => ?_)
  obtain ⟨rfl, o3⟩ := hP
  rcases (by omega : v2 = 0 ∨ v2 = 1) with rfl | rfl
  · refine zz_if_eq (by omega) zd_8_8_9 (fun c4 => ?_) (fun c4 => ?_)
    · refine zz_aload_n (x := 1073) rfl zd_8_8_14 ?_
      refine zz_getr (kd := 0) (z := 1070) zd_8_8_15 zf_NetworkReader_9 zT_1073 rfl (zz_ltn hn rfl) (zz_G.eq G_S0 1073 0 1070 rfl rfl) (by decide) 1070 rfl ?_
      refine zz_ldcs (t := 24) (by decide +kernel) (by decide) zd_8_8_18 ?_
      refine zz_callVI [.ref (100 + 24)] zd_8_8_20 zk_NetworkReader_87 zT_1070 (zz_ltn hn rfl) rfl rfl ⟨Nat.le_of_ble_eq_true rfl, Nat.le_of_ble_eq_true rfl⟩ ⟨rfl, rfl⟩ (Nat.zero_le _) (Nat.zero_le _) (zc_isWord_11_9 24 S0 n hn G_S0 (by omega)) (fun v6 S5 hP => ?_)
      obtain ⟨rfl, o7⟩ := hP
      rcases (by omega : v6 = 0 ∨ v6 = 1) with rfl | rfl
      · refine zz_if_eq (by omega) zd_8_8_23 (fun c8 => ?_) (fun c8 => ?_)
        · refine zz_aload_n (x := 1073) rfl zd_8_8_28 ?_
          refine zz_getr (kd := 0) (z := 1070) zd_8_8_29 zf_NetworkReader_9 zT_1073 rfl (zz_ltn hn rfl) (zz_G.eq G_S0 1073 0 1070 rfl rfl) (by decide) 1070 rfl ?_
          refine zz_ldcs (t := 10) (by decide +kernel) (by decide) zd_8_8_32 ?_
          refine zz_callVI [.ref (100 + 10)] zd_8_8_34 zk_NetworkReader_87 zT_1070 (zz_ltn hn rfl) rfl rfl ⟨Nat.le_of_ble_eq_true rfl, Nat.le_of_ble_eq_true rfl⟩ ⟨rfl, rfl⟩ (Nat.zero_le _) (Nat.zero_le _) (zc_isWord_11_9 10 S0 n hn G_S0 (by omega)) (fun v10 S9 hP => ?_)
          obtain ⟨rfl, o11⟩ := hP
          rcases (by omega : v10 = 0 ∨ v10 = 1) with rfl | rfl
          · refine zz_if_eq (by omega) zd_8_8_37 (fun c12 => ?_) (fun c12 => ?_)
            · refine zz_aload_n (x := 1073) rfl zd_8_8_42 ?_
              refine zz_getr (kd := 0) (z := 1070) zd_8_8_43 zf_NetworkReader_9 zT_1073 rfl (zz_ltn hn rfl) (zz_G.eq G_S0 1073 0 1070 rfl rfl) (by decide) 1070 rfl ?_
              refine zz_ldcs (t := 15) (by decide +kernel) (by decide) zd_8_8_46 ?_
              refine zz_callVI [.ref (100 + 15)] zd_8_8_48 zk_NetworkReader_87 zT_1070 (zz_ltn hn rfl) rfl rfl ⟨Nat.le_of_ble_eq_true rfl, Nat.le_of_ble_eq_true rfl⟩ ⟨rfl, rfl⟩ (Nat.zero_le _) (Nat.zero_le _) (zc_isWord_11_9 15 S0 n hn G_S0 (by omega)) (fun v14 S13 hP => ?_)
              obtain ⟨rfl, o15⟩ := hP
              rcases (by omega : v14 = 0 ∨ v14 = 1) with rfl | rfl
              · refine zz_if_eq (by omega) zd_8_8_51 (fun c16 => ?_) (fun c16 => ?_)
                · refine zz_aload_n (x := 1073) rfl zd_8_8_57 ?_
                  refine zz_getr (kd := 0) (z := 1070) zd_8_8_58 zf_NetworkReader_9 zT_1073 rfl (zz_ltn hn rfl) (zz_G.eq G_S0 1073 0 1070 rfl rfl) (by decide) 1070 rfl ?_
                  refine zz_ldcs (t := 25) (by decide +kernel) (by decide) zd_8_8_61 ?_
                  refine zz_callVI [.ref (100 + 25)] zd_8_8_63 zk_NetworkReader_87 zT_1070 (zz_ltn hn rfl) rfl rfl ⟨Nat.le_of_ble_eq_true rfl, Nat.le_of_ble_eq_true rfl⟩ ⟨rfl, rfl⟩ (Nat.zero_le _) (Nat.zero_le _) (zc_isWord_11_9 25 S0 n hn G_S0 (by omega)) (fun v18 S17 hP => ?_)
                  obtain ⟨rfl, o19⟩ := hP
                  rcases (by omega : v18 = 0 ∨ v18 = 1) with rfl | rfl
                  · refine zz_if_eq (by omega) zd_8_8_66 (fun c20 => ?_) (fun c20 => ?_)
                    · refine zz_aload_n (x := 1073) rfl zd_8_8_72 ?_
                      refine zz_getr (kd := 0) (z := 1070) zd_8_8_73 zf_NetworkReader_9 zT_1073 rfl (zz_ltn hn rfl) (zz_G.eq G_S0 1073 0 1070 rfl rfl) (by decide) 1070 rfl ?_
                      refine zz_ldcs (t := 26) (by decide +kernel) (by decide) zd_8_8_76 ?_
                      refine zz_callVI [.ref (100 + 26)] zd_8_8_78 zk_NetworkReader_87 zT_1070 (zz_ltn hn rfl) rfl rfl ⟨Nat.le_of_ble_eq_true rfl, Nat.le_of_ble_eq_true rfl⟩ ⟨rfl, rfl⟩ (Nat.zero_le _) (Nat.zero_le _) (zc_isWord_11_9 26 S0 n hn G_S0 (by omega)) (fun v22 S21 hP => ?_)
                      obtain ⟨rfl, o23⟩ := hP
                      rcases (by omega : v22 = 0 ∨ v22 = 1) with rfl | rfl
                      · refine zz_if_eq (by omega) zd_8_8_81 (fun c24 => ?_) (fun c24 => ?_)
                        · refine zz_aload_n (x := 1073) rfl zd_8_8_87 ?_
                          refine zz_getr (kd := 0) (z := 1070) zd_8_8_88 zf_NetworkReader_9 zT_1073 rfl (zz_ltn hn rfl) (zz_G.eq G_S0 1073 0 1070 rfl rfl) (by decide) 1070 rfl ?_
                          refine zz_ldcs (t := 27) (by decide +kernel) (by decide) zd_8_8_91 ?_
                          refine zz_callVI [.ref (100 + 27)] zd_8_8_93 zk_NetworkReader_87 zT_1070 (zz_ltn hn rfl) rfl rfl ⟨Nat.le_of_ble_eq_true rfl, Nat.le_of_ble_eq_true rfl⟩ ⟨rfl, rfl⟩ (Nat.zero_le _) (Nat.zero_le _) (zc_isWord_11_9 27 S0 n hn G_S0 (by omega)) (fun v26 S25 hP => ?_)
                          obtain ⟨rfl, o27⟩ := hP
                          rcases (by omega : v26 = 0 ∨ v26 = 1) with rfl | rfl
                          · refine zz_if_eq (by omega) zd_8_8_96 (fun c28 => ?_) (fun c28 => ?_)
                            · refine zz_aload_n (x := 1073) rfl zd_8_8_102 ?_
                              refine zz_getr (kd := 0) (z := 1070) zd_8_8_103 zf_NetworkReader_9 zT_1073 rfl (zz_ltn hn rfl) (zz_G.eq G_S0 1073 0 1070 rfl rfl) (by decide) 1070 rfl ?_
                              refine zz_ldcs (t := 28) (by decide +kernel) (by decide) zd_8_8_106 ?_
                              refine zz_callVI [.ref (100 + 28)] zd_8_8_108 zk_NetworkReader_87 zT_1070 (zz_ltn hn rfl) rfl rfl ⟨Nat.le_of_ble_eq_true rfl, Nat.le_of_ble_eq_true rfl⟩ ⟨rfl, rfl⟩ (Nat.zero_le _) (Nat.zero_le _) (zc_isWord_11_9 28 S0 n hn G_S0 (by omega)) (fun v30 S29 hP => ?_)
                              obtain ⟨rfl, o31⟩ := hP
                              rcases (by omega : v30 = 0 ∨ v30 = 1) with rfl | rfl
                              · refine zz_if_eq (by omega) zd_8_8_111 (fun c32 => ?_) (fun c32 => ?_)
                                · refine zz_iconst zd_8_8_120 ?_
                                  exact zz_iret zd_8_8_121 rfl (Nat.zero_le _) (Nat.zero_le _) ⟨_, _, rfl, rfl, by omega⟩
                                · exfalso; omega
                              · refine zz_if_eq (by omega) zd_8_8_111 (fun c33 => ?_) (fun c33 => ?_)
                                · exfalso; omega
                                · refine zz_sipush (by decide) zd_8_8_114 ?_
                                  refine zz_goto zd_8_8_117 ?_
                                  exact zz_iret zd_8_8_121 rfl (Nat.zero_le _) (Nat.zero_le _) ⟨_, _, rfl, rfl, by omega⟩
                            · exfalso; omega
                          · refine zz_if_eq (by omega) zd_8_8_96 (fun c34 => ?_) (fun c34 => ?_)
                            · exfalso; omega
                            · refine zz_bipush (by decide) zd_8_8_99 ?_
                              exact zz_iret zd_8_8_101 rfl (Nat.zero_le _) (Nat.zero_le _) ⟨_, _, rfl, rfl, by omega⟩
                        · exfalso; omega
                      · refine zz_if_eq (by omega) zd_8_8_81 (fun c35 => ?_) (fun c35 => ?_)
                        · exfalso; omega
                        · refine zz_bipush (by decide) zd_8_8_84 ?_
                          exact zz_iret zd_8_8_86 rfl (Nat.zero_le _) (Nat.zero_le _) ⟨_, _, rfl, rfl, by omega⟩
                    · exfalso; omega
                  · refine zz_if_eq (by omega) zd_8_8_66 (fun c36 => ?_) (fun c36 => ?_)
                    · exfalso; omega
                    · refine zz_bipush (by decide) zd_8_8_69 ?_
                      exact zz_iret zd_8_8_71 rfl (Nat.zero_le _) (Nat.zero_le _) ⟨_, _, rfl, rfl, by omega⟩
                · exfalso; omega
              · refine zz_if_eq (by omega) zd_8_8_51 (fun c37 => ?_) (fun c37 => ?_)
                · exfalso; omega
                · refine zz_bipush (by decide) zd_8_8_54 ?_
                  exact zz_iret zd_8_8_56 rfl (Nat.zero_le _) (Nat.zero_le _) ⟨_, _, rfl, rfl, by omega⟩
            · exfalso; omega
          · refine zz_if_eq (by omega) zd_8_8_37 (fun c38 => ?_) (fun c38 => ?_)
            · exfalso; omega
            · refine zz_iconst zd_8_8_40 ?_
              exact zz_iret zd_8_8_41 rfl (Nat.zero_le _) (Nat.zero_le _) ⟨_, _, rfl, rfl, by omega⟩
        · exfalso; omega
      · refine zz_if_eq (by omega) zd_8_8_23 (fun c39 => ?_) (fun c39 => ?_)
        · exfalso; omega
        · refine zz_iconst zd_8_8_26 ?_
          exact zz_iret zd_8_8_27 rfl (Nat.zero_le _) (Nat.zero_le _) ⟨_, _, rfl, rfl, by omega⟩
    · exfalso; omega
  · refine zz_if_eq (by omega) zd_8_8_9 (fun c40 => ?_) (fun c40 => ?_)
    · exfalso; omega
    · refine zz_iconst zd_8_8_12 ?_
      exact zz_iret zd_8_8_13 rfl (Nat.zero_le _) (Nat.zero_le _) ⟨_, _, rfl, rfl, by omega⟩
theorem zk_NetworkReader_135 : mm_Vl "TensorForge$NetworkReader" 135 8 0 zy_optionTold_8_8 := ⟨zyw_optionTold_8_8, (R_NetworkReader, F_NetworkReader, 9), rfl, mm_tb_1 949 (by decide +kernel) rfl, mm_tb_1 951 (by decide +kernel) rfl, mm_tb_s 45 (by decide +kernel) rfl⟩
theorem zd_8_7_62 : zz_D zy_readOptions_8_7 62 (.istore_n 2) 1 63 := ⟨by decide +kernel, rfl⟩
theorem zd_8_7_63 : zz_D zy_readOptions_8_7 63 (.iload_n 2) 1 64 := ⟨by decide +kernel, rfl⟩
theorem zd_8_7_64 : zz_D zy_readOptions_8_7 64 (.aload_n 0) 1 65 := ⟨by decide +kernel, rfl⟩
theorem zd_8_7_65 : zz_D zy_readOptions_8_7 65 (.getfield 35) 3 68 := ⟨by decide +kernel, rfl⟩
theorem zd_8_7_68 : zz_D zy_readOptions_8_7 68 (.iand) 1 69 := ⟨by decide +kernel, rfl⟩
theorem zd_8_7_69 : zz_B zy_readOptions_8_7 69 (Instr.ifCond .eq) 89 72 := ⟨20, by decide +kernel, rfl, rfl⟩
theorem zd_8_7_89 : zz_D zy_readOptions_8_7 89 (.iconst 0) 1 90 := ⟨by decide +kernel, rfl⟩
theorem zd_8_7_90 : zz_D zy_readOptions_8_7 90 (.ireturn) 1 91 := ⟨by decide +kernel, rfl⟩
theorem zd_8_7_72 : zz_D zy_readOptions_8_7 72 (.iload_n 2) 1 73 := ⟨by decide +kernel, rfl⟩
theorem zd_8_7_73 : zz_D zy_readOptions_8_7 73 (.aload_n 0) 1 74 := ⟨by decide +kernel, rfl⟩
theorem zd_8_7_74 : zz_D zy_readOptions_8_7 74 (.getfield 41) 3 77 := ⟨by decide +kernel, rfl⟩
theorem zd_8_7_77 : zz_D zy_readOptions_8_7 77 (.iand) 1 78 := ⟨by decide +kernel, rfl⟩
theorem zd_8_7_78 : zz_B zy_readOptions_8_7 78 (Instr.ifCond .ne) 89 81 := ⟨11, by decide +kernel, rfl, rfl⟩
theorem zd_8_7_81 : zz_D zy_readOptions_8_7 81 (.aload_n 0) 1 82 := ⟨by decide +kernel, rfl⟩
theorem zd_8_7_82 : zz_D zy_readOptions_8_7 82 (.iload_n 2) 1 83 := ⟨by decide +kernel, rfl⟩
theorem zd_8_7_83 : zz_D zy_readOptions_8_7 83 (.invokevirtual 138) 3 86 := ⟨by decide +kernel, rfl⟩
abbrev zy_readOption_8_9 : mm_Y := (⟨"TensorForge$NetworkReader", "readOption", "(I)Z"⟩, prog_8_method_9_code, 3, (some .boolean))
theorem zyw_readOption_8_9 : mm_Yw zy_readOption_8_9 1 := ⟨mm_tb_1 964 (by decide +kernel) rfl, mm_tb_1 9 (by decide +kernel) rfl, ⟨by decide, by decide⟩, by decide +kernel⟩
theorem zd_8_9_0 : zz_D zy_readOption_8_9 0 (.iload_n 1) 1 1 := ⟨by decide +kernel, rfl⟩
theorem zd_8_9_1 : zz_D zy_readOption_8_9 1 (.sipush 128) 3 4 := ⟨by decide +kernel, rfl⟩
theorem zd_8_9_4 : zz_B zy_readOption_8_9 4 (Instr.if_icmp .ne) 12 7 := ⟨8, by decide +kernel, rfl, rfl⟩
theorem zd_8_9_12 : zz_D zy_readOption_8_9 12 (.aload_n 0) 1 13 := ⟨by decide +kernel, rfl⟩
theorem zd_8_9_13 : zz_D zy_readOption_8_9 13 (.getfield 15) 3 16 := ⟨by decide +kernel, rfl⟩
theorem zd_8_9_16 : zz_D zy_readOption_8_9 16 (.invokevirtual 121) 3 19 := ⟨by decide +kernel, rfl⟩
theorem zk_NetworkReader_121 : mm_Vl "TensorForge$NetworkReader" 121 1 0 zy_draft_7_6 := ⟨zyw_draft_7_6, (R_Network, F_Network, 2), rfl, mm_tb_1 940 (by decide +kernel) rfl, mm_tb_1 941 (by decide +kernel) rfl, mm_tb_1 942 (by decide +kernel) rfl⟩
theorem zd_8_9_19 : zz_D zy_readOption_8_9 19 (.astore_n 2) 1 20 := ⟨by decide +kernel, rfl⟩
theorem zd_8_9_20 : zz_D zy_readOption_8_9 20 (.iload_n 1) 1 21 := ⟨by decide +kernel, rfl⟩
theorem zd_8_9_21 : zz_D zy_readOption_8_9 21 (.bipush 64) 2 23 := ⟨by decide +kernel, rfl⟩
theorem zd_8_9_23 : zz_B zy_readOption_8_9 23 (Instr.if_icmp .ne) 33 26 := ⟨10, by decide +kernel, rfl, rfl⟩
theorem zd_8_9_33 : zz_D zy_readOption_8_9 33 (.aload_n 0) 1 34 := ⟨by decide +kernel, rfl⟩
theorem zd_8_9_34 : zz_D zy_readOption_8_9 34 (.getfield 9) 3 37 := ⟨by decide +kernel, rfl⟩
theorem zd_8_9_37 : zz_D zy_readOption_8_9 37 (.invokevirtual 91) 3 40 := ⟨by decide +kernel, rfl⟩
theorem zd_8_9_40 : zz_B zy_readOption_8_9 40 (Instr.ifCond .ne) 45 43 := ⟨5, by decide +kernel, rfl, rfl⟩
theorem zd_8_9_43 : zz_D zy_readOption_8_9 43 (.iconst 0) 1 44 := ⟨by decide +kernel, rfl⟩
theorem zd_8_9_44 : zz_D zy_readOption_8_9 44 (.ireturn) 1 45 := ⟨by decide +kernel, rfl⟩
theorem zd_8_9_45 : zz_D zy_readOption_8_9 45 (.iload_n 1) 1 46 := ⟨by decide +kernel, rfl⟩
theorem zd_8_9_46 : zz_D zy_readOption_8_9 46 (.lookupswitch) 1 47 := ⟨by decide +kernel, rfl⟩
theorem zd_8_9_96 : zz_D zy_readOption_8_9 96 (.aload_n 2) 1 97 := ⟨by decide +kernel, rfl⟩
theorem zd_8_9_97 : zz_D zy_readOption_8_9 97 (.aload_n 0) 1 98 := ⟨by decide +kernel, rfl⟩
theorem zd_8_9_98 : zz_D zy_readOption_8_9 98 (.getfield 9) 3 101 := ⟨by decide +kernel, rfl⟩
theorem zd_8_9_101 : zz_D zy_readOption_8_9 101 (.getfield 94) 3 104 := ⟨by decide +kernel, rfl⟩
theorem zd_8_9_104 : zz_D zy_readOption_8_9 104 (.putfield 164) 3 107 := ⟨by decide +kernel, rfl⟩
theorem zf_NetworkReader_164 : mm_Fl "TensorForge$NetworkReader" 164 2 12 .int false := ⟨R_Layer, F_Layer, 15, t_Layer, rfl, i_Layer, by decide, mm_tb_1 105 (by decide +kernel) rfl, rfl, t_Layer_ok, n_Layer, rfl, by decide +kernel⟩
theorem zd_8_9_107 : zz_D zy_readOption_8_9 107 (.iconst 1) 1 108 := ⟨by decide +kernel, rfl⟩
theorem zd_8_9_108 : zz_D zy_readOption_8_9 108 (.ireturn) 1 109 := ⟨by decide +kernel, rfl⟩
theorem zd_8_9_109 : zz_D zy_readOption_8_9 109 (.aload_n 2) 1 110 := ⟨by decide +kernel, rfl⟩
theorem zd_8_9_110 : zz_D zy_readOption_8_9 110 (.aload_n 0) 1 111 := ⟨by decide +kernel, rfl⟩
theorem zd_8_9_111 : zz_D zy_readOption_8_9 111 (.getfield 9) 3 114 := ⟨by decide +kernel, rfl⟩
theorem zd_8_9_114 : zz_D zy_readOption_8_9 114 (.getfield 94) 3 117 := ⟨by decide +kernel, rfl⟩
theorem zd_8_9_117 : zz_D zy_readOption_8_9 117 (.putfield 167) 3 120 := ⟨by decide +kernel, rfl⟩
theorem zf_NetworkReader_167 : mm_Fl "TensorForge$NetworkReader" 167 2 9 .int false := ⟨R_Layer, F_Layer, 15, t_Layer, rfl, i_Layer, by decide, mm_tb_1 92 (by decide +kernel) rfl, rfl, t_Layer_ok, n_Layer, rfl, by decide +kernel⟩
theorem zd_8_9_120 : zz_D zy_readOption_8_9 120 (.iconst 1) 1 121 := ⟨by decide +kernel, rfl⟩
theorem zd_8_9_121 : zz_D zy_readOption_8_9 121 (.ireturn) 1 122 := ⟨by decide +kernel, rfl⟩
theorem zd_8_9_122 : zz_D zy_readOption_8_9 122 (.aload_n 2) 1 123 := ⟨by decide +kernel, rfl⟩
theorem zd_8_9_123 : zz_D zy_readOption_8_9 123 (.aload_n 0) 1 124 := ⟨by decide +kernel, rfl⟩
theorem zd_8_9_124 : zz_D zy_readOption_8_9 124 (.getfield 9) 3 127 := ⟨by decide +kernel, rfl⟩
theorem zd_8_9_127 : zz_D zy_readOption_8_9 127 (.getfield 94) 3 130 := ⟨by decide +kernel, rfl⟩
theorem zd_8_9_130 : zz_D zy_readOption_8_9 130 (.putfield 170) 3 133 := ⟨by decide +kernel, rfl⟩
theorem zf_NetworkReader_170 : mm_Fl "TensorForge$NetworkReader" 170 2 5 .int false := ⟨R_Layer, F_Layer, 15, t_Layer, rfl, i_Layer, by decide, mm_tb_1 77 (by decide +kernel) rfl, rfl, t_Layer_ok, n_Layer, rfl, by decide +kernel⟩
theorem zd_8_9_133 : zz_D zy_readOption_8_9 133 (.iconst 1) 1 134 := ⟨by decide +kernel, rfl⟩
theorem zd_8_9_134 : zz_D zy_readOption_8_9 134 (.ireturn) 1 135 := ⟨by decide +kernel, rfl⟩
theorem zd_8_9_135 : zz_D zy_readOption_8_9 135 (.aload_n 2) 1 136 := ⟨by decide +kernel, rfl⟩
theorem zd_8_9_136 : zz_D zy_readOption_8_9 136 (.aload_n 0) 1 137 := ⟨by decide +kernel, rfl⟩
theorem zd_8_9_137 : zz_D zy_readOption_8_9 137 (.getfield 9) 3 140 := ⟨by decide +kernel, rfl⟩
theorem zd_8_9_140 : zz_D zy_readOption_8_9 140 (.getfield 94) 3 143 := ⟨by decide +kernel, rfl⟩
theorem zd_8_9_143 : zz_D zy_readOption_8_9 143 (.putfield 172) 3 146 := ⟨by decide +kernel, rfl⟩
theorem zf_NetworkReader_172 : mm_Fl "TensorForge$NetworkReader" 172 2 6 .int false := ⟨R_Layer, F_Layer, 15, t_Layer, rfl, i_Layer, by decide, mm_tb_1 82 (by decide +kernel) rfl, rfl, t_Layer_ok, n_Layer, rfl, by decide +kernel⟩
theorem zd_8_9_146 : zz_D zy_readOption_8_9 146 (.iconst 1) 1 147 := ⟨by decide +kernel, rfl⟩
theorem zd_8_9_147 : zz_D zy_readOption_8_9 147 (.ireturn) 1 148 := ⟨by decide +kernel, rfl⟩
theorem zd_8_9_148 : zz_D zy_readOption_8_9 148 (.aload_n 2) 1 149 := ⟨by decide +kernel, rfl⟩
theorem zd_8_9_149 : zz_D zy_readOption_8_9 149 (.aload_n 0) 1 150 := ⟨by decide +kernel, rfl⟩
theorem zd_8_9_150 : zz_D zy_readOption_8_9 150 (.getfield 9) 3 153 := ⟨by decide +kernel, rfl⟩
theorem zd_8_9_153 : zz_D zy_readOption_8_9 153 (.getfield 94) 3 156 := ⟨by decide +kernel, rfl⟩
theorem zd_8_9_156 : zz_D zy_readOption_8_9 156 (.putfield 174) 3 159 := ⟨by decide +kernel, rfl⟩
theorem zf_NetworkReader_174 : mm_Fl "TensorForge$NetworkReader" 174 2 7 .int false := ⟨R_Layer, F_Layer, 15, t_Layer, rfl, i_Layer, by decide, mm_tb_1 86 (by decide +kernel) rfl, rfl, t_Layer_ok, n_Layer, rfl, by decide +kernel⟩
theorem zd_8_9_159 : zz_D zy_readOption_8_9 159 (.iconst 1) 1 160 := ⟨by decide +kernel, rfl⟩
theorem zd_8_9_160 : zz_D zy_readOption_8_9 160 (.ireturn) 1 161 := ⟨by decide +kernel, rfl⟩
theorem zd_8_9_161 : zz_D zy_readOption_8_9 161 (.aload_n 0) 1 162 := ⟨by decide +kernel, rfl⟩
theorem zd_8_9_162 : zz_D zy_readOption_8_9 162 (.aload_n 0) 1 163 := ⟨by decide +kernel, rfl⟩
theorem zd_8_9_163 : zz_D zy_readOption_8_9 163 (.getfield 9) 3 166 := ⟨by decide +kernel, rfl⟩
theorem zd_8_9_166 : zz_D zy_readOption_8_9 166 (.getfield 94) 3 169 := ⟨by decide +kernel, rfl⟩
theorem zd_8_9_169 : zz_D zy_readOption_8_9 169 (.aload_n 2) 1 170 := ⟨by decide +kernel, rfl⟩
theorem zd_8_9_170 : zz_D zy_readOption_8_9 170 (.invokevirtual 176) 3 173 := ⟨by decide +kernel, rfl⟩
abbrev zy_readKernelFrom_8_10 : mm_Y := (⟨"TensorForge$NetworkReader", "readKernelFrom", "(ILTensorForge$Layer;)Z"⟩, prog_8_method_10_code, 3, (some .boolean))
theorem zyw_readKernelFrom_8_10 : mm_Yw zy_readKernelFrom_8_10 2 := ⟨mm_tb_1 983 (by decide +kernel) rfl, mm_tb_1 9 (by decide +kernel) rfl, ⟨by decide, by decide⟩, by decide +kernel⟩
theorem zd_8_10_0 : zz_D zy_readKernelFrom_8_10 0 (.aload_n 0) 1 1 := ⟨by decide +kernel, rfl⟩
theorem zd_8_10_1 : zz_D zy_readKernelFrom_8_10 1 (.getfield 9) 3 4 := ⟨by decide +kernel, rfl⟩
theorem zd_8_10_4 : zz_D zy_readKernelFrom_8_10 4 (.ldc 97) 2 6 := ⟨by decide +kernel, rfl⟩
theorem zd_8_10_6 : zz_D zy_readKernelFrom_8_10 6 (.invokevirtual 99) 3 9 := ⟨by decide +kernel, rfl⟩
theorem zd_8_10_9 : zz_B zy_readKernelFrom_8_10 9 (Instr.ifCond .eq) 22 12 := ⟨13, by decide +kernel, rfl, rfl⟩
theorem zd_8_10_22 : zz_D zy_readKernelFrom_8_10 22 (.iconst 0) 1 23 := ⟨by decide +kernel, rfl⟩
theorem zd_8_10_23 : zz_D zy_readKernelFrom_8_10 23 (.ireturn) 1 24 := ⟨by decide +kernel, rfl⟩
theorem zd_8_10_12 : zz_D zy_readKernelFrom_8_10 12 (.aload_n 0) 1 13 := ⟨by decide +kernel, rfl⟩
theorem zd_8_10_13 : zz_D zy_readKernelFrom_8_10 13 (.getfield 9) 3 16 := ⟨by decide +kernel, rfl⟩
theorem zd_8_10_16 : zz_D zy_readKernelFrom_8_10 16 (.invokevirtual 91) 3 19 := ⟨by decide +kernel, rfl⟩
theorem zd_8_10_19 : zz_B zy_readKernelFrom_8_10 19 (Instr.ifCond .ne) 24 22 := ⟨5, by decide +kernel, rfl, rfl⟩
theorem zd_8_10_24 : zz_D zy_readKernelFrom_8_10 24 (.aload_n 2) 1 25 := ⟨by decide +kernel, rfl⟩
theorem zd_8_10_25 : zz_D zy_readKernelFrom_8_10 25 (.iload_n 1) 1 26 := ⟨by decide +kernel, rfl⟩
theorem zd_8_10_26 : zz_D zy_readKernelFrom_8_10 26 (.aload_n 0) 1 27 := ⟨by decide +kernel, rfl⟩
theorem zd_8_10_27 : zz_D zy_readKernelFrom_8_10 27 (.getfield 9) 3 30 := ⟨by decide +kernel, rfl⟩
theorem zd_8_10_30 : zz_D zy_readKernelFrom_8_10 30 (.getfield 94) 3 33 := ⟨by decide +kernel, rfl⟩
theorem zd_8_10_33 : zz_D zy_readKernelFrom_8_10 33 (.invokevirtual 180) 3 36 := ⟨by decide +kernel, rfl⟩
theorem zk_NetworkReader_180 : mm_Vl "TensorForge$NetworkReader" 180 2 2 zy_takeKernel_4_4 := ⟨zyw_takeKernel_4_4, (R_Layer, F_Layer, 15), rfl, mm_tb_1 985 (by decide +kernel) rfl, mm_tb_1 986 (by decide +kernel) rfl, mm_tb_1 987 (by decide +kernel) rfl⟩
theorem zd_8_10_36 : zz_D zy_readKernelFrom_8_10 36 (.iconst 1) 1 37 := ⟨by decide +kernel, rfl⟩
theorem zd_8_10_37 : zz_D zy_readKernelFrom_8_10 37 (.ireturn) 1 38 := ⟨by decide +kernel, rfl⟩
-- TensorForge$NetworkReader readKernelFrom (ILTensorForge$Layer;)Z
abbrev zr_readKernelFrom_8_10 : Room := { frames := 6, cells := 0, slots := 0, locals := 81 }
def zp_readKernelFrom_8_10 (p0 : Int) (p1 : Int) (S0 : zz_S) : Int → zz_S → Prop := fun r S => zz_G S ∧ zz_fr [(1070, 3), (1070, 4), (1070, 5), (1070, 6)] [] (fun a i => (a = zz_rf 6 p1 ∧ i = 3) ∨ (a = zz_rf 6 p1 ∧ i = 4)) S0 S ∧ (0 ≤ r ∧ r ≤ 1)
theorem zc_readKernelFrom_8_10 {g : mm_G} {l : Launch} (p0 : Int) (p1 : Int) (S0 : zz_S) (n : Nat) (hn : zz_end ≤ n) (G_S0 : zz_G S0) (hp0 : (-2147483648) ≤ p0 ∧ p0 ≤ 2147483647) (hp1 : 0 ≤ p1 ∧ p1 ≤ 23) : mm_Met g l zy_readKernelFrom_8_10 zr_readKernelFrom_8_10 [.ref 1073, zi p0, .ref (zz_rf 6 p1)] (zz_M S0 n) n (zz_QI n (zp_readKernelFrom_8_10 p0 p1 S0)) := by
  refine zz_enter (by decide) (Nat.le_of_ble_eq_true rfl) (zz_less (ls1 := [some (.ref 1073), some (zi p0), some (.ref (zz_rf 6 p1))]) ⟨rfl, ⟨rfl, ⟨rfl, trivial⟩⟩⟩ ?_)
  have F_S0 : zz_fr [(1070, 3), (1070, 4), (1070, 5), (1070, 6)] [] (fun a i => (a = zz_rf 6 p1 ∧ i = 3) ∨ (a = zz_rf 6 p1 ∧ i = 4)) S0 S0 := zz_fr.refl
  have b_p1 := zz_rf6 (z := p1) (by omega)
  refine zz_aload_n (x := 1073) rfl zd_8_10_0 ?_
  refine zz_getr (kd := 0) (z := 1070) zd_8_10_1 zf_NetworkReader_9 zT_1073 rfl (zz_ltn hn rfl) (zz_G.eq G_S0 1073 0 1070 rfl rfl) (by decide) 1070 rfl ?_
  refine zz_ldcs (t := 12) (by decide +kernel) (by decide) zd_8_10_4 ?_
  refine zz_callVI [.ref (100 + 12)] zd_8_10_6 zk_NetworkReader_99 zT_1070 (zz_ltn hn rfl) rfl rfl ⟨Nat.le_of_ble_eq_true rfl, Nat.le_of_ble_eq_true rfl⟩ ⟨rfl, rfl⟩ (Nat.zero_le _) (Nat.zero_le _) (zc_nextIsWord_11_10 12 S0 n hn G_S0 (by omega)) (fun v2 S1 hP => ?_)
  obtain ⟨G_S1, fS1, o3⟩ := hP
  have F_S1 := zz_fr.trans F_S0 fS1 rfl zz_nv
  rcases (by omega : v2 = 0 ∨ v2 = 1) with rfl | rfl
  · refine zz_if_eq (by omega) zd_8_10_9 (fun c4 => ?_) (fun c4 => ?_)
    · refine zz_iconst zd_8_10_22 ?_
      exact zz_zret zd_8_10_23 rfl (by omega) (Nat.zero_le _) (Nat.zero_le _) ⟨_, _, rfl, G_S1, F_S1, by omega⟩
    · exfalso; omega
  · refine zz_if_eq (by omega) zd_8_10_9 (fun c5 => ?_) (fun c5 => ?_)
    · exfalso; omega
    · refine zz_aload_n (x := 1073) rfl zd_8_10_12 ?_
      refine zz_getr (kd := 0) (z := 1070) zd_8_10_13 zf_NetworkReader_9 zT_1073 rfl (zz_ltn hn rfl) (zz_G.eq G_S1 1073 0 1070 rfl rfl) (by decide) 1070 rfl ?_
      refine zz_callVI [] zd_8_10_16 zk_NetworkReader_91 zT_1070 (zz_ltn hn rfl) rfl rfl ⟨Nat.le_of_ble_eq_true rfl, Nat.le_of_ble_eq_true rfl⟩ ⟨rfl, rfl⟩ (Nat.zero_le _) (Nat.zero_le _) (zc_nextIsNumber_11_11  S1 n hn G_S1 ) (fun v7 S6 hP => ?_)
      obtain ⟨G_S6, fS6, o8⟩ := hP
      have F_S6 := zz_fr.trans F_S1 fS6 rfl zz_nv
      rcases (by omega : v7 = 0 ∨ v7 = 1) with rfl | rfl
      · refine zz_if_ne (by omega) zd_8_10_19 (fun c9 => ?_) (fun c9 => ?_)
        · exfalso; omega
        · refine zz_iconst zd_8_10_22 ?_
          exact zz_zret zd_8_10_23 rfl (by omega) (Nat.zero_le _) (Nat.zero_le _) ⟨_, _, rfl, G_S6, F_S6, by omega⟩
      · refine zz_if_ne (by omega) zd_8_10_19 (fun c10 => ?_) (fun c10 => ?_)
        · refine zz_aload_n (x := zz_rf 6 p1) rfl zd_8_10_24 ?_
          refine zz_iload_n (x := p0) rfl zd_8_10_25 ?_
          refine zz_aload_n (x := 1073) rfl zd_8_10_26 ?_
          refine zz_getr (kd := 0) (z := 1070) zd_8_10_27 zf_NetworkReader_9 zT_1073 rfl (zz_ltn hn rfl) (zz_G.eq G_S6 1073 0 1070 rfl rfl) (by decide) 1070 rfl ?_
          have g11 := zz_G.r G_S6 1070 6 (-2147483648) 2147483647 rfl rfl
          refine zz_geti (z := S6 1070 6) zd_8_10_30 zf_NetworkReader_94 zT_1070 rfl (zz_ltn hn rfl) rfl ?_
          refine zz_callVV [zi p0, zi (S6 1070 6)] zd_8_10_33 zk_NetworkReader_180 (zT_k6 (by omega)) (zN_k6 hn (by omega)) rfl rfl ⟨Nat.le_of_ble_eq_true rfl, Nat.le_of_ble_eq_true rfl⟩ ⟨rfl, rfl⟩ (Nat.zero_le _) (Nat.zero_le _) (zc_takeKernel_4_4 p1 p0 (S6 1070 6) S6 n hn G_S6 (by omega) (by omega) (by omega)) (fun S12 hP => ?_)
          obtain ⟨G_S12, fS12⟩ := hP
          have F_S12 := zz_fr.trans F_S6 fS12 rfl (fun a i h => by rcases h with h | h; exact Or.inr (Or.inr (Or.inl h)); exact Or.inr (Or.inr (Or.inr (h))))
          have b14 := zz_rf6 (z := p1) (by omega)
          refine zz_iconst zd_8_10_36 ?_
          exact zz_zret zd_8_10_37 rfl (by omega) (Nat.zero_le _) (Nat.zero_le _) ⟨_, _, rfl, G_S12, F_S12, by omega⟩
        · exfalso; omega
theorem zk_NetworkReader_176 : mm_Vl "TensorForge$NetworkReader" 176 8 2 zy_readKernelFrom_8_10 := ⟨zyw_readKernelFrom_8_10, (R_NetworkReader, F_NetworkReader, 9), rfl, mm_tb_1 980 (by decide +kernel) rfl, mm_tb_1 982 (by decide +kernel) rfl, mm_tb_s 49 (by decide +kernel) rfl⟩
theorem zd_8_9_173 : zz_D zy_readOption_8_9 173 (.ireturn) 1 174 := ⟨by decide +kernel, rfl⟩
theorem zd_8_9_26 : zz_D zy_readOption_8_9 26 (.aload_n 2) 1 27 := ⟨by decide +kernel, rfl⟩
theorem zd_8_9_27 : zz_D zy_readOption_8_9 27 (.iconst 1) 1 28 := ⟨by decide +kernel, rfl⟩
theorem zd_8_9_28 : zz_D zy_readOption_8_9 28 (.putfield 161) 3 31 := ⟨by decide +kernel, rfl⟩
theorem zf_NetworkReader_161 : mm_Fl "TensorForge$NetworkReader" 161 2 8 .boolean false := ⟨R_Layer, F_Layer, 15, t_Layer, rfl, i_Layer, by decide, mm_tb_1 89 (by decide +kernel) rfl, rfl, t_Layer_ok, n_Layer, rfl, by decide +kernel⟩
theorem zd_8_9_31 : zz_D zy_readOption_8_9 31 (.iconst 1) 1 32 := ⟨by decide +kernel, rfl⟩
theorem zd_8_9_32 : zz_D zy_readOption_8_9 32 (.ireturn) 1 33 := ⟨by decide +kernel, rfl⟩
theorem zd_8_9_7 : zz_D zy_readOption_8_9 7 (.aload_n 0) 1 8 := ⟨by decide +kernel, rfl⟩
theorem zd_8_9_8 : zz_D zy_readOption_8_9 8 (.invokevirtual 158) 3 11 := ⟨by decide +kernel, rfl⟩
abbrev zy_readName_8_11 : mm_Y := (⟨"TensorForge$NetworkReader", "readName", "()Z"⟩, prog_8_method_11_code, 1, (some .boolean))
theorem zyw_readName_8_11 : mm_Yw zy_readName_8_11 0 := ⟨mm_tb_1 968 (by decide +kernel) rfl, mm_tb_1 9 (by decide +kernel) rfl, ⟨by decide, by decide⟩, by decide +kernel⟩
theorem zd_8_11_0 : zz_D zy_readName_8_11 0 (.aload_n 0) 1 1 := ⟨by decide +kernel, rfl⟩
theorem zd_8_11_1 : zz_D zy_readName_8_11 1 (.getfield 9) 3 4 := ⟨by decide +kernel, rfl⟩
theorem zd_8_11_4 : zz_D zy_readName_8_11 4 (.invokevirtual 59) 3 7 := ⟨by decide +kernel, rfl⟩
theorem zd_8_11_7 : zz_D zy_readName_8_11 7 (.aload_n 0) 1 8 := ⟨by decide +kernel, rfl⟩
theorem zd_8_11_8 : zz_D zy_readName_8_11 8 (.getfield 9) 3 11 := ⟨by decide +kernel, rfl⟩
theorem zd_8_11_11 : zz_D zy_readName_8_11 11 (.getfield 62) 3 14 := ⟨by decide +kernel, rfl⟩
theorem zd_8_11_14 : zz_D zy_readName_8_11 14 (.iconst 1) 1 15 := ⟨by decide +kernel, rfl⟩
theorem zd_8_11_15 : zz_B zy_readName_8_11 15 (Instr.if_icmp .ne) 52 18 := ⟨37, by decide +kernel, rfl, rfl⟩
theorem zd_8_11_52 : zz_D zy_readName_8_11 52 (.iconst 0) 1 53 := ⟨by decide +kernel, rfl⟩
theorem zd_8_11_53 : zz_D zy_readName_8_11 53 (.ireturn) 1 54 := ⟨by decide +kernel, rfl⟩
theorem zd_8_11_18 : zz_D zy_readName_8_11 18 (.aload_n 0) 1 19 := ⟨by decide +kernel, rfl⟩
theorem zd_8_11_19 : zz_D zy_readName_8_11 19 (.getfield 9) 3 22 := ⟨by decide +kernel, rfl⟩
theorem zd_8_11_22 : zz_D zy_readName_8_11 22 (.invokevirtual 184) 3 25 := ⟨by decide +kernel, rfl⟩
abbrev zy_tokenSize_11_8 : mm_Y := (⟨"TensorForge$Text", "tokenSize", "()I"⟩, prog_11_method_8_code, 1, (some .int))
theorem zyw_tokenSize_11_8 : mm_Yw zy_tokenSize_11_8 0 := ⟨mm_tb_1 972 (by decide +kernel) rfl, mm_tb_1 7 (by decide +kernel) rfl, ⟨by decide, by decide⟩, by decide +kernel⟩
theorem zd_11_8_0 : zz_D zy_tokenSize_11_8 0 (.aload_n 0) 1 1 := ⟨by decide +kernel, rfl⟩
theorem zd_11_8_1 : zz_D zy_tokenSize_11_8 1 (.getfield 25) 3 4 := ⟨by decide +kernel, rfl⟩
theorem zd_11_8_4 : zz_D zy_tokenSize_11_8 4 (.aload_n 0) 1 5 := ⟨by decide +kernel, rfl⟩
theorem zd_11_8_5 : zz_D zy_tokenSize_11_8 5 (.getfield 31) 3 8 := ⟨by decide +kernel, rfl⟩
theorem zd_11_8_8 : zz_D zy_tokenSize_11_8 8 (.isub) 1 9 := ⟨by decide +kernel, rfl⟩
theorem zd_11_8_9 : zz_D zy_tokenSize_11_8 9 (.ireturn) 1 10 := ⟨by decide +kernel, rfl⟩
-- TensorForge$Text tokenSize ()I
abbrev zr_tokenSize_11_8 : Room := { frames := 0, cells := 0, slots := 0, locals := 0 }
def zp_tokenSize_11_8  (S0 : zz_S) : Int → zz_S → Prop := fun r S => S0 = S ∧ ((-2147483648) ≤ r ∧ r ≤ 2147483647)
theorem zc_tokenSize_11_8 {g : mm_G} {l : Launch}  (S0 : zz_S) (n : Nat) (hn : zz_end ≤ n) (G_S0 : zz_G S0)  : mm_Met g l zy_tokenSize_11_8 zr_tokenSize_11_8 [.ref 1070] (zz_M S0 n) n (zz_QI n (zp_tokenSize_11_8  S0)) := by
  refine zz_enter (by decide) (Nat.le_of_ble_eq_true rfl) (zz_less (ls1 := [some (.ref 1070)]) ⟨rfl, trivial⟩ ?_)
  refine zz_aload_n (x := 1070) rfl zd_11_8_0 ?_
  have g1 := zz_G.r G_S0 1070 3 0 1500 rfl rfl
  refine zz_geti (z := S0 1070 3) zd_11_8_1 zf_Text_25 zT_1070 rfl (zz_ltn hn rfl) rfl ?_
  refine zz_aload_n (x := 1070) rfl zd_11_8_4 ?_
  have g2 := zz_G.r G_S0 1070 5 0 1500 rfl rfl
  refine zz_geti (z := S0 1070 5) zd_11_8_5 zf_Text_31 zT_1070 rfl (zz_ltn hn rfl) rfl ?_
  refine zz_isub zd_11_8_8 ?_
  exact zz_iret zd_11_8_9 rfl (Nat.zero_le _) (Nat.zero_le _) ⟨_, _, rfl, rfl, by omega⟩
theorem zk_NetworkReader_184 : mm_Vl "TensorForge$NetworkReader" 184 6 0 zy_tokenSize_11_8 := ⟨zyw_tokenSize_11_8, (R_Text, F_Text, 7), rfl, mm_tb_1 969 (by decide +kernel) rfl, mm_tb_1 970 (by decide +kernel) rfl, mm_tb_1 971 (by decide +kernel) rfl⟩
theorem zd_8_11_25 : zz_D zy_readName_8_11 25 (.bipush 8) 2 27 := ⟨by decide +kernel, rfl⟩
theorem zd_8_11_27 : zz_B zy_readName_8_11 27 (Instr.if_icmp .gt) 52 30 := ⟨25, by decide +kernel, rfl, rfl⟩
theorem zd_8_11_30 : zz_D zy_readName_8_11 30 (.aload_n 0) 1 31 := ⟨by decide +kernel, rfl⟩
theorem zd_8_11_31 : zz_D zy_readName_8_11 31 (.invokevirtual 128) 3 34 := ⟨by decide +kernel, rfl⟩
abbrev zy_tensorNamed_8_6 : mm_Y := (⟨"TensorForge$NetworkReader", "tensorNamed", "()I"⟩, prog_8_method_6_code, 2, (some .int))
theorem zyw_tensorNamed_8_6 : mm_Yw zy_tensorNamed_8_6 0 := ⟨mm_tb_1 935 (by decide +kernel) rfl, mm_tb_1 9 (by decide +kernel) rfl, ⟨by decide, by decide⟩, by decide +kernel⟩
theorem zd_8_6_0 : zz_D zy_tensorNamed_8_6 0 (.iconst 0) 1 1 := ⟨by decide +kernel, rfl⟩
theorem zd_8_6_1 : zz_D zy_tensorNamed_8_6 1 (.istore_n 1) 1 2 := ⟨by decide +kernel, rfl⟩
theorem zd_8_6_2 : zz_D zy_tensorNamed_8_6 2 (.iload_n 1) 1 3 := ⟨by decide +kernel, rfl⟩
theorem zd_8_6_3 : zz_D zy_tensorNamed_8_6 3 (.aload_n 0) 1 4 := ⟨by decide +kernel, rfl⟩
theorem zd_8_6_4 : zz_D zy_tensorNamed_8_6 4 (.getfield 25) 3 7 := ⟨by decide +kernel, rfl⟩
theorem zd_8_6_7 : zz_D zy_tensorNamed_8_6 7 (.arraylength) 1 8 := ⟨by decide +kernel, rfl⟩
theorem zd_8_6_8 : zz_B zy_tensorNamed_8_6 8 (Instr.if_icmp .ge) 50 11 := ⟨42, by decide +kernel, rfl, rfl⟩
theorem zd_8_6_11 : zz_D zy_tensorNamed_8_6 11 (.aload_n 0) 1 12 := ⟨by decide +kernel, rfl⟩
theorem zd_8_6_12 : zz_D zy_tensorNamed_8_6 12 (.getfield 25) 3 15 := ⟨by decide +kernel, rfl⟩
theorem zd_8_6_15 : zz_D zy_tensorNamed_8_6 15 (.iload_n 1) 1 16 := ⟨by decide +kernel, rfl⟩
theorem zd_8_6_16 : zz_D zy_tensorNamed_8_6 16 (.iaload) 1 17 := ⟨by decide +kernel, rfl⟩
theorem zd_8_6_17 : zz_B zy_tensorNamed_8_6 17 (Instr.ifCond .le) 44 20 := ⟨27, by decide +kernel, rfl, rfl⟩
theorem zd_8_6_44 : zz_D zy_tensorNamed_8_6 44 (.iinc 1 1) 3 47 := ⟨by decide +kernel, rfl⟩
theorem zd_8_6_47 : zz_B zy_tensorNamed_8_6 47 Instr.goto 2 50 := ⟨(-45), by decide +kernel, rfl, rfl⟩
theorem zd_8_6_20 : zz_D zy_tensorNamed_8_6 20 (.aload_n 0) 1 21 := ⟨by decide +kernel, rfl⟩
theorem zd_8_6_21 : zz_D zy_tensorNamed_8_6 21 (.getfield 9) 3 24 := ⟨by decide +kernel, rfl⟩
theorem zd_8_6_24 : zz_D zy_tensorNamed_8_6 24 (.aload_n 0) 1 25 := ⟨by decide +kernel, rfl⟩
theorem zd_8_6_25 : zz_D zy_tensorNamed_8_6 25 (.getfield 21) 3 28 := ⟨by decide +kernel, rfl⟩
theorem zd_8_6_28 : zz_D zy_tensorNamed_8_6 28 (.iload_n 1) 1 29 := ⟨by decide +kernel, rfl⟩
theorem zd_8_6_29 : zz_D zy_tensorNamed_8_6 29 (.iaload) 1 30 := ⟨by decide +kernel, rfl⟩
theorem zd_8_6_30 : zz_D zy_tensorNamed_8_6 30 (.aload_n 0) 1 31 := ⟨by decide +kernel, rfl⟩
theorem zd_8_6_31 : zz_D zy_tensorNamed_8_6 31 (.getfield 25) 3 34 := ⟨by decide +kernel, rfl⟩
theorem zd_8_6_34 : zz_D zy_tensorNamed_8_6 34 (.iload_n 1) 1 35 := ⟨by decide +kernel, rfl⟩
theorem zd_8_6_35 : zz_D zy_tensorNamed_8_6 35 (.iaload) 1 36 := ⟨by decide +kernel, rfl⟩
theorem zd_8_6_36 : zz_D zy_tensorNamed_8_6 36 (.invokevirtual 131) 3 39 := ⟨by decide +kernel, rfl⟩
abbrev zy_isSameAs_11_12 : mm_Y := (⟨"TensorForge$Text", "isSameAs", "(II)Z"⟩, prog_11_method_12_code, 4, (some .boolean))
theorem zyw_isSameAs_11_12 : mm_Yw zy_isSameAs_11_12 2 := ⟨mm_tb_1 939 (by decide +kernel) rfl, mm_tb_1 7 (by decide +kernel) rfl, ⟨by decide, by decide⟩, by decide +kernel⟩
theorem zd_11_12_0 : zz_D zy_isSameAs_11_12 0 (.aload_n 0) 1 1 := ⟨by decide +kernel, rfl⟩
theorem zd_11_12_1 : zz_D zy_isSameAs_11_12 1 (.getfield 25) 3 4 := ⟨by decide +kernel, rfl⟩
theorem zd_11_12_4 : zz_D zy_isSameAs_11_12 4 (.aload_n 0) 1 5 := ⟨by decide +kernel, rfl⟩
theorem zd_11_12_5 : zz_D zy_isSameAs_11_12 5 (.getfield 31) 3 8 := ⟨by decide +kernel, rfl⟩
theorem zd_11_12_8 : zz_D zy_isSameAs_11_12 8 (.isub) 1 9 := ⟨by decide +kernel, rfl⟩
theorem zd_11_12_9 : zz_D zy_isSameAs_11_12 9 (.iload_n 2) 1 10 := ⟨by decide +kernel, rfl⟩
theorem zd_11_12_10 : zz_B zy_isSameAs_11_12 10 (Instr.if_icmp .ne) 27 13 := ⟨17, by decide +kernel, rfl, rfl⟩
theorem zd_11_12_27 : zz_D zy_isSameAs_11_12 27 (.iconst 0) 1 28 := ⟨by decide +kernel, rfl⟩
theorem zd_11_12_28 : zz_D zy_isSameAs_11_12 28 (.ireturn) 1 29 := ⟨by decide +kernel, rfl⟩
theorem zd_11_12_13 : zz_D zy_isSameAs_11_12 13 (.iload_n 1) 1 14 := ⟨by decide +kernel, rfl⟩
theorem zd_11_12_14 : zz_B zy_isSameAs_11_12 14 (Instr.ifCond .lt) 27 17 := ⟨13, by decide +kernel, rfl, rfl⟩
theorem zd_11_12_17 : zz_D zy_isSameAs_11_12 17 (.iload_n 1) 1 18 := ⟨by decide +kernel, rfl⟩
theorem zd_11_12_18 : zz_D zy_isSameAs_11_12 18 (.iload_n 2) 1 19 := ⟨by decide +kernel, rfl⟩
theorem zd_11_12_19 : zz_D zy_isSameAs_11_12 19 (.iadd) 1 20 := ⟨by decide +kernel, rfl⟩
theorem zd_11_12_20 : zz_D zy_isSameAs_11_12 20 (.aload_n 0) 1 21 := ⟨by decide +kernel, rfl⟩
theorem zd_11_12_21 : zz_D zy_isSameAs_11_12 21 (.getfield 15) 3 24 := ⟨by decide +kernel, rfl⟩
theorem zd_11_12_24 : zz_B zy_isSameAs_11_12 24 (Instr.if_icmp .le) 29 27 := ⟨5, by decide +kernel, rfl, rfl⟩
theorem zd_11_12_29 : zz_D zy_isSameAs_11_12 29 (.iconst 0) 1 30 := ⟨by decide +kernel, rfl⟩
theorem zd_11_12_30 : zz_D zy_isSameAs_11_12 30 (.istore_n 3) 1 31 := ⟨by decide +kernel, rfl⟩
theorem zd_11_12_31 : zz_D zy_isSameAs_11_12 31 (.iload_n 3) 1 32 := ⟨by decide +kernel, rfl⟩
theorem zd_11_12_32 : zz_D zy_isSameAs_11_12 32 (.iload_n 2) 1 33 := ⟨by decide +kernel, rfl⟩
theorem zd_11_12_33 : zz_B zy_isSameAs_11_12 33 (Instr.if_icmp .ge) 66 36 := ⟨33, by decide +kernel, rfl, rfl⟩
theorem zd_11_12_66 : zz_D zy_isSameAs_11_12 66 (.iconst 1) 1 67 := ⟨by decide +kernel, rfl⟩
theorem zd_11_12_67 : zz_D zy_isSameAs_11_12 67 (.ireturn) 1 68 := ⟨by decide +kernel, rfl⟩
theorem zd_11_12_36 : zz_D zy_isSameAs_11_12 36 (.aload_n 0) 1 37 := ⟨by decide +kernel, rfl⟩
theorem zd_11_12_37 : zz_D zy_isSameAs_11_12 37 (.getfield 9) 3 40 := ⟨by decide +kernel, rfl⟩
theorem zd_11_12_40 : zz_D zy_isSameAs_11_12 40 (.aload_n 0) 1 41 := ⟨by decide +kernel, rfl⟩
theorem zd_11_12_41 : zz_D zy_isSameAs_11_12 41 (.getfield 31) 3 44 := ⟨by decide +kernel, rfl⟩
theorem zd_11_12_44 : zz_D zy_isSameAs_11_12 44 (.iload_n 3) 1 45 := ⟨by decide +kernel, rfl⟩
theorem zd_11_12_45 : zz_D zy_isSameAs_11_12 45 (.iadd) 1 46 := ⟨by decide +kernel, rfl⟩
theorem zd_11_12_46 : zz_D zy_isSameAs_11_12 46 (.caload) 1 47 := ⟨by decide +kernel, rfl⟩
theorem zd_11_12_47 : zz_D zy_isSameAs_11_12 47 (.aload_n 0) 1 48 := ⟨by decide +kernel, rfl⟩
theorem zd_11_12_48 : zz_D zy_isSameAs_11_12 48 (.getfield 9) 3 51 := ⟨by decide +kernel, rfl⟩
theorem zd_11_12_51 : zz_D zy_isSameAs_11_12 51 (.iload_n 1) 1 52 := ⟨by decide +kernel, rfl⟩
theorem zd_11_12_52 : zz_D zy_isSameAs_11_12 52 (.iload_n 3) 1 53 := ⟨by decide +kernel, rfl⟩
theorem zd_11_12_53 : zz_D zy_isSameAs_11_12 53 (.iadd) 1 54 := ⟨by decide +kernel, rfl⟩
theorem zd_11_12_54 : zz_D zy_isSameAs_11_12 54 (.caload) 1 55 := ⟨by decide +kernel, rfl⟩
theorem zd_11_12_55 : zz_B zy_isSameAs_11_12 55 (Instr.if_icmp .eq) 60 58 := ⟨5, by decide +kernel, rfl, rfl⟩
theorem zd_11_12_60 : zz_D zy_isSameAs_11_12 60 (.iinc 3 1) 3 63 := ⟨by decide +kernel, rfl⟩
theorem zd_11_12_63 : zz_B zy_isSameAs_11_12 63 Instr.goto 31 66 := ⟨(-32), by decide +kernel, rfl, rfl⟩
theorem zd_11_12_58 : zz_D zy_isSameAs_11_12 58 (.iconst 0) 1 59 := ⟨by decide +kernel, rfl⟩
theorem zd_11_12_59 : zz_D zy_isSameAs_11_12 59 (.ireturn) 1 60 := ⟨by decide +kernel, rfl⟩
-- TensorForge$Text isSameAs (II)Z
abbrev zr_isSameAs_11_12 : Room := { frames := 0, cells := 0, slots := 0, locals := 0 }
def zp_isSameAs_11_12 (p0 : Int) (p1 : Int) (S0 : zz_S) : Int → zz_S → Prop := fun r S => S0 = S ∧ (0 ≤ r ∧ r ≤ 1)
theorem zb_isSameAs_11_12_31 {g : mm_G} {l : Launch} (p0 : Int) (p1 : Int) (S0 : zz_S) (n : Nat) (hn : zz_end ≤ n) (G_S0 : zz_G S0) (hp0 : (-2147483648) ≤ p0 ∧ p0 ≤ 2147483647) (hp1 : (-2147483648) ≤ p1 ∧ p1 ≤ 2147483647) (x3 : Int) (S : zz_S) (G_S : zz_G S) (F_S : zz_fr [] [] (fun _ _ => False) S0 S) (i31_0 : 0 ≤ x3 ∧ x3 ≤ 1500) (i31_1 : (S0 1070 3) - (S0 1070 5) = p1) (i31_2 : p0 ≥ 0) (i31_3 : 0 ≤ p0 ∧ p0 ≤ 2147483647) (i31_4 : (-1500) ≤ p1 ∧ p1 ≤ 1500) (R : Nat) (hR : (p1 - x3).toNat = R) (k31 : ∀ (x3 : Int) (S : zz_S), zz_G S → zz_fr [] [] (fun _ _ => False) S0 S → (0 ≤ x3 ∧ x3 ≤ 1500) → ((S0 1070 3) - (S0 1070 5) = p1) → (p0 ≥ 0) → (0 ≤ p0 ∧ p0 ≤ 2147483647) → ((-1500) ≤ p1 ∧ p1 ≤ 1500) → (p1 - x3).toNat < R → zz_E g l zy_isSameAs_11_12 zr_isSameAs_11_12 (zz_QI n (zp_isSameAs_11_12 p0 p1 S0)) S n 31 [some (.ref 1070), some (zi p0), some (zi p1), some (zi x3)] [] 0 0) : zz_E g l zy_isSameAs_11_12 zr_isSameAs_11_12 (zz_QI n (zp_isSameAs_11_12 p0 p1 S0)) S n 31 [some (.ref 1070), some (zi p0), some (zi p1), some (zi x3)] [] 0 0 := by
  refine zz_iload_n (x := x3) rfl zd_11_12_31 ?_
  refine zz_iload_n (x := p1) rfl zd_11_12_32 ?_
  refine zz_icmp_ge (by omega) (by omega) zd_11_12_33 (fun c8 => ?_) (fun c8 => ?_)
  · refine zz_iconst zd_11_12_66 ?_
    exact zz_zret zd_11_12_67 rfl (by omega) (Nat.zero_le _) (Nat.zero_le _) ⟨_, _, rfl, zz_fr.eq F_S, by omega⟩
  · refine zz_aload_n (x := 1070) rfl zd_11_12_36 ?_
    refine zz_getr (kd := 0) (z := 1071) zd_11_12_37 zf_Text_9 zT_1070 rfl (zz_ltn hn rfl) (zz_G.eq G_S 1070 0 1071 rfl rfl) (by decide) 1071 rfl ?_
    refine zz_aload_n (x := 1070) rfl zd_11_12_40 ?_
    have g9 := zz_G.r G_S0 1070 5 0 1500 rfl rfl
    refine zz_geti (z := S0 1070 5) zd_11_12_41 zf_Text_31 zT_1070 rfl (zz_ltn hn rfl) (zz_rc F_S rfl rfl (fun h => h) rfl) ?_
    refine zz_iload_n (x := x3) rfl zd_11_12_44 ?_
    refine zz_iadd zd_11_12_45 ?_
    have g10 := zz_G.r G_S0 1071 (((S0 1070 5) + x3).toNat) 0 65535 rfl rfl
    refine zz_cald (z := S0 1071 (((S0 1070 5) + x3).toNat)) zd_11_12_46 zT_1071 rfl (zz_ltn hn rfl) (by decide) (by omega) (zz_rc F_S (zz_nc1 rfl) rfl (fun h => h) rfl) ?_
    refine zz_aload_n (x := 1070) rfl zd_11_12_47 ?_
    refine zz_getr (kd := 0) (z := 1071) zd_11_12_48 zf_Text_9 zT_1070 rfl (zz_ltn hn rfl) (zz_G.eq G_S 1070 0 1071 rfl rfl) (by decide) 1071 rfl ?_
    refine zz_iload_n (x := p0) rfl zd_11_12_51 ?_
    refine zz_iload_n (x := x3) rfl zd_11_12_52 ?_
    refine zz_iadd zd_11_12_53 ?_
    refine zz_nrm (fun v11 hv11 ev11 => ?_)
    have g12 := zz_G.r G_S0 1071 v11.toNat 0 65535 rfl rfl
    refine zz_cald (z := S0 1071 v11.toNat) zd_11_12_54 zT_1071 rfl (zz_ltn hn rfl) (by decide) (by omega) (zz_rc F_S (zz_nc1 rfl) rfl (fun h => h) rfl) ?_
    refine zz_icmp_eq (by omega) (by omega) zd_11_12_55 (fun c13 => ?_) (fun c13 => ?_)
    · refine zz_iinc [some (.ref 1070), some (zi p0), some (zi p1), some (zi (x3 + 1))] zd_11_12_60 rfl rfl ?_
      refine zz_goto zd_11_12_63 ?_
      refine zz_less (ls1 := [some (.ref 1070), some (zi p0), some (zi p1), some (zi (x3 + 1))]) ⟨rfl, ⟨rfl, ⟨rfl, ⟨rfl, trivial⟩⟩⟩⟩ ?_
      exact k31 (x3 + 1) S G_S F_S (by omega) (by omega) (by omega) (by omega) (by omega) (by omega)
    · refine zz_iconst zd_11_12_58 ?_
      exact zz_zret zd_11_12_59 rfl (by omega) (Nat.zero_le _) (Nat.zero_le _) ⟨_, _, rfl, zz_fr.eq F_S, by omega⟩
theorem zi_isSameAs_11_12 {g : mm_G} {l : Launch} (p0 : Int) (p1 : Int) (S0 : zz_S) (n : Nat) (hn : zz_end ≤ n) (G_S0 : zz_G S0) (hp0 : (-2147483648) ≤ p0 ∧ p0 ≤ 2147483647) (hp1 : (-2147483648) ≤ p1 ∧ p1 ≤ 2147483647) : ∀ N : Nat, (∀ (x3 : Int) (S : zz_S), zz_G S → zz_fr [] [] (fun _ _ => False) S0 S → (0 ≤ x3 ∧ x3 ≤ 1500) → ((S0 1070 3) - (S0 1070 5) = p1) → (p0 ≥ 0) → (0 ≤ p0 ∧ p0 ≤ 2147483647) → ((-1500) ≤ p1 ∧ p1 ≤ 1500) → (p1 - x3).toNat < N → zz_E g l zy_isSameAs_11_12 zr_isSameAs_11_12 (zz_QI n (zp_isSameAs_11_12 p0 p1 S0)) S n 31 [some (.ref 1070), some (zi p0), some (zi p1), some (zi x3)] [] 0 0) := by
  intro N
  induction N with
  | zero => exact fun x3 S _ _ _ _ _ _ _ h => absurd h (Nat.not_lt_zero _)
  | succ N ih =>
    exact fun x3 S a b j0 j1 j2 j3 j4 hR => zb_isSameAs_11_12_31 p0 p1 S0 n hn G_S0 hp0 hp1 x3 S a b j0 j1 j2 j3 j4 _ rfl (fun x3 S a b j0 j1 j2 j3 j4 h => ih x3 S a b j0 j1 j2 j3 j4 (Nat.lt_of_lt_of_le h (Nat.le_of_lt_succ hR)))
theorem zc_isSameAs_11_12 {g : mm_G} {l : Launch} (p0 : Int) (p1 : Int) (S0 : zz_S) (n : Nat) (hn : zz_end ≤ n) (G_S0 : zz_G S0) (hp0 : (-2147483648) ≤ p0 ∧ p0 ≤ 2147483647) (hp1 : (-2147483648) ≤ p1 ∧ p1 ≤ 2147483647) : mm_Met g l zy_isSameAs_11_12 zr_isSameAs_11_12 [.ref 1070, zi p0, zi p1] (zz_M S0 n) n (zz_QI n (zp_isSameAs_11_12 p0 p1 S0)) := by
  refine zz_enter (by decide) (Nat.le_of_ble_eq_true rfl) (zz_less (ls1 := [some (.ref 1070), some (zi p0), some (zi p1)]) ⟨rfl, ⟨rfl, ⟨rfl, trivial⟩⟩⟩ ?_)
  have F_S0 : zz_fr [] [] (fun _ _ => False) S0 S0 := zz_fr.refl
  have k31 : ∀ (x3 : Int) (S : zz_S), zz_G S → zz_fr [] [] (fun _ _ => False) S0 S → (0 ≤ x3 ∧ x3 ≤ 1500) → ((S0 1070 3) - (S0 1070 5) = p1) → (p0 ≥ 0) → (0 ≤ p0 ∧ p0 ≤ 2147483647) → ((-1500) ≤ p1 ∧ p1 ≤ 1500) → zz_E g l zy_isSameAs_11_12 zr_isSameAs_11_12 (zz_QI n (zp_isSameAs_11_12 p0 p1 S0)) S n 31 [some (.ref 1070), some (zi p0), some (zi p1), some (zi x3)] [] 0 0 := fun x3 S a b j0 j1 j2 j3 j4 => (zi_isSameAs_11_12 (g := g) (l := l) p0 p1 S0 n hn G_S0 hp0 hp1 _) x3 S a b j0 j1 j2 j3 j4 (Nat.lt_succ_self _)
  refine zz_aload_n (x := 1070) rfl zd_11_12_0 ?_
  have g1 := zz_G.r G_S0 1070 3 0 1500 rfl rfl
  refine zz_geti (z := S0 1070 3) zd_11_12_1 zf_Text_25 zT_1070 rfl (zz_ltn hn rfl) rfl ?_
  refine zz_aload_n (x := 1070) rfl zd_11_12_4 ?_
  have g2 := zz_G.r G_S0 1070 5 0 1500 rfl rfl
  refine zz_geti (z := S0 1070 5) zd_11_12_5 zf_Text_31 zT_1070 rfl (zz_ltn hn rfl) rfl ?_
  refine zz_isub zd_11_12_8 ?_
  refine zz_iload_n (x := p1) rfl zd_11_12_9 ?_
  refine zz_icmp_ne (by omega) (by omega) zd_11_12_10 (fun c3 => ?_) (fun c3 => ?_)
  · refine zz_iconst zd_11_12_27 ?_
    exact zz_zret zd_11_12_28 rfl (by omega) (Nat.zero_le _) (Nat.zero_le _) ⟨_, _, rfl, rfl, by omega⟩
  · refine zz_iload_n (x := p0) rfl zd_11_12_13 ?_
    refine zz_if_lt (by omega) zd_11_12_14 (fun c4 => ?_) (fun c4 => ?_)
    · refine zz_iconst zd_11_12_27 ?_
      exact zz_zret zd_11_12_28 rfl (by omega) (Nat.zero_le _) (Nat.zero_le _) ⟨_, _, rfl, rfl, by omega⟩
    · refine zz_iload_n (x := p0) rfl zd_11_12_17 ?_
      refine zz_iload_n (x := p1) rfl zd_11_12_18 ?_
      refine zz_iadd zd_11_12_19 ?_
      refine zz_nrm (fun v5 hv5 ev5 => ?_)
      refine zz_aload_n (x := 1070) rfl zd_11_12_20 ?_
      have g6 := zz_G.r G_S0 1070 1 0 1500 rfl rfl
      refine zz_geti (z := S0 1070 1) zd_11_12_21 zf_Text_15 zT_1070 rfl (zz_ltn hn rfl) rfl ?_
      refine zz_icmp_le (by omega) (by omega) zd_11_12_24 (fun c7 => ?_) (fun c7 => ?_)
      · refine zz_iconst zd_11_12_29 ?_
        refine zz_istore_n [some (.ref 1070), some (zi p0), some (zi p1), some (zi 0)] zd_11_12_30 (by decide) rfl ?_
        refine zz_less (ls1 := [some (.ref 1070), some (zi p0), some (zi p1), some (zi 0)]) ⟨rfl, ⟨rfl, ⟨rfl, ⟨rfl, trivial⟩⟩⟩⟩ ?_
        exact k31 0 S0 G_S0 F_S0 (by omega) (by omega) (by omega) (by omega) (by omega)
      · refine zz_iconst zd_11_12_27 ?_
        exact zz_zret zd_11_12_28 rfl (by omega) (Nat.zero_le _) (Nat.zero_le _) ⟨_, _, rfl, rfl, by omega⟩
theorem zk_NetworkReader_131 : mm_Vl "TensorForge$NetworkReader" 131 6 2 zy_isSameAs_11_12 := ⟨zyw_isSameAs_11_12, (R_Text, F_Text, 7), rfl, mm_tb_1 936 (by decide +kernel) rfl, mm_tb_1 937 (by decide +kernel) rfl, mm_tb_1 938 (by decide +kernel) rfl⟩
theorem zd_8_6_39 : zz_B zy_tensorNamed_8_6 39 (Instr.ifCond .eq) 44 42 := ⟨5, by decide +kernel, rfl, rfl⟩
theorem zd_8_6_42 : zz_D zy_tensorNamed_8_6 42 (.iload_n 1) 1 43 := ⟨by decide +kernel, rfl⟩
theorem zd_8_6_43 : zz_D zy_tensorNamed_8_6 43 (.ireturn) 1 44 := ⟨by decide +kernel, rfl⟩
theorem zd_8_6_50 : zz_D zy_tensorNamed_8_6 50 (.iconst (-1)) 1 51 := ⟨by decide +kernel, rfl⟩
theorem zd_8_6_51 : zz_D zy_tensorNamed_8_6 51 (.ireturn) 1 52 := ⟨by decide +kernel, rfl⟩
-- TensorForge$NetworkReader tensorNamed ()I
abbrev zr_tensorNamed_8_6 : Room := { frames := 1, cells := 0, slots := 0, locals := 15 }
def zp_tensorNamed_8_6  (S0 : zz_S) : Int → zz_S → Prop := fun r S => S0 = S ∧ ((-2147483648) ≤ r ∧ r ≤ 2147483647)
theorem zb_tensorNamed_8_6_2 {g : mm_G} {l : Launch}  (S0 : zz_S) (n : Nat) (hn : zz_end ≤ n) (G_S0 : zz_G S0)  (x1 : Int) (S : zz_S) (G_S : zz_G S) (F_S : zz_fr [] [] (fun _ _ => False) S0 S) (i2_0 : 0 ≤ x1 ∧ x1 ≤ 11) (R : Nat) (hR : (2147483647 - x1).toNat = R) (k2 : ∀ (x1 : Int) (S : zz_S), zz_G S → zz_fr [] [] (fun _ _ => False) S0 S → (0 ≤ x1 ∧ x1 ≤ 11) → (2147483647 - x1).toNat < R → zz_E g l zy_tensorNamed_8_6 zr_tensorNamed_8_6 (zz_QI n (zp_tensorNamed_8_6  S0)) S n 2 [some (.ref 1073), some (zi x1)] [] 0 0) : zz_E g l zy_tensorNamed_8_6 zr_tensorNamed_8_6 (zz_QI n (zp_tensorNamed_8_6  S0)) S n 2 [some (.ref 1073), some (zi x1)] [] 0 0 := by
  refine zz_iload_n (x := x1) rfl zd_8_6_2 ?_
  refine zz_aload_n (x := 1073) rfl zd_8_6_3 ?_
  refine zz_getr (kd := 0) (z := 1075) zd_8_6_4 zf_NetworkReader_25 zT_1073 rfl (zz_ltn hn rfl) (zz_G.eq G_S 1073 3 1075 rfl rfl) (by decide) 1075 rfl ?_
  refine zz_alen zd_8_6_7 zT_1075 rfl (zz_ltn hn rfl) ?_
  refine zz_icmp_ge (by omega) (by omega) zd_8_6_8 (fun c1 => ?_) (fun c1 => ?_)
  · refine zz_iconst zd_8_6_50 ?_
    exact zz_iret zd_8_6_51 rfl (Nat.zero_le _) (Nat.zero_le _) ⟨_, _, rfl, zz_fr.eq F_S, by omega⟩
  · refine zz_aload_n (x := 1073) rfl zd_8_6_11 ?_
    refine zz_getr (kd := 0) (z := 1075) zd_8_6_12 zf_NetworkReader_25 zT_1073 rfl (zz_ltn hn rfl) (zz_G.eq G_S 1073 3 1075 rfl rfl) (by decide) 1075 rfl ?_
    refine zz_iload_n (x := x1) rfl zd_8_6_15 ?_
    have g2 := zz_G.r G_S0 1075 x1.toNat (-1500) 1500 rfl rfl
    refine zz_iald (z := S0 1075 x1.toNat) zd_8_6_16 zT_1075 rfl (zz_ltn hn rfl) (by decide) (by omega) (zz_rc F_S (zz_nc1 rfl) rfl (fun h => h) rfl) ?_
    refine zz_if_le (by omega) zd_8_6_17 (fun c3 => ?_) (fun c3 => ?_)
    · refine zz_iinc [some (.ref 1073), some (zi (x1 + 1))] zd_8_6_44 rfl rfl ?_
      refine zz_goto zd_8_6_47 ?_
      refine zz_less (ls1 := [some (.ref 1073), some (zi (x1 + 1))]) ⟨rfl, ⟨rfl, trivial⟩⟩ ?_
      exact k2 (x1 + 1) S G_S F_S (by omega) (by omega)
    · refine zz_aload_n (x := 1073) rfl zd_8_6_20 ?_
      refine zz_getr (kd := 0) (z := 1070) zd_8_6_21 zf_NetworkReader_9 zT_1073 rfl (zz_ltn hn rfl) (zz_G.eq G_S 1073 0 1070 rfl rfl) (by decide) 1070 rfl ?_
      refine zz_aload_n (x := 1073) rfl zd_8_6_24 ?_
      refine zz_getr (kd := 0) (z := 1074) zd_8_6_25 zf_NetworkReader_21 zT_1073 rfl (zz_ltn hn rfl) (zz_G.eq G_S 1073 2 1074 rfl rfl) (by decide) 1074 rfl ?_
      refine zz_iload_n (x := x1) rfl zd_8_6_28 ?_
      have g4 := zz_G.r G_S0 1074 x1.toNat 0 1500 rfl rfl
      refine zz_iald (z := S0 1074 x1.toNat) zd_8_6_29 zT_1074 rfl (zz_ltn hn rfl) (by decide) (by omega) (zz_rc F_S (zz_nc1 rfl) rfl (fun h => h) rfl) ?_
      refine zz_aload_n (x := 1073) rfl zd_8_6_30 ?_
      refine zz_getr (kd := 0) (z := 1075) zd_8_6_31 zf_NetworkReader_25 zT_1073 rfl (zz_ltn hn rfl) (zz_G.eq G_S 1073 3 1075 rfl rfl) (by decide) 1075 rfl ?_
      refine zz_iload_n (x := x1) rfl zd_8_6_34 ?_
      refine zz_iald (z := S0 1075 x1.toNat) zd_8_6_35 zT_1075 rfl (zz_ltn hn rfl) (by decide) (by omega) (zz_rc F_S (zz_nc1 rfl) rfl (fun h => h) rfl) ?_
      refine zz_callVI [zi (S0 1074 x1.toNat), zi (S0 1075 x1.toNat)] zd_8_6_36 zk_NetworkReader_131 zT_1070 (zz_ltn hn rfl) rfl rfl ⟨Nat.le_of_ble_eq_true rfl, Nat.le_of_ble_eq_true rfl⟩ ⟨rfl, rfl⟩ (Nat.zero_le _) (Nat.zero_le _) (zc_isSameAs_11_12 (S0 1074 x1.toNat) (S0 1075 x1.toNat) S n hn G_S (by omega) (by omega)) (fun v6 S5 hP => ?_)
      obtain ⟨rfl, o7⟩ := hP
      rcases (by omega : v6 = 0 ∨ v6 = 1) with rfl | rfl
      · refine zz_if_eq (by omega) zd_8_6_39 (fun c8 => ?_) (fun c8 => ?_)
        · refine zz_iinc [some (.ref 1073), some (zi (x1 + 1))] zd_8_6_44 rfl rfl ?_
          refine zz_goto zd_8_6_47 ?_
          refine zz_less (ls1 := [some (.ref 1073), some (zi (x1 + 1))]) ⟨rfl, ⟨rfl, trivial⟩⟩ ?_
          exact k2 (x1 + 1) S G_S F_S (by omega) (by omega)
        · exfalso; omega
      · refine zz_if_eq (by omega) zd_8_6_39 (fun c9 => ?_) (fun c9 => ?_)
        · exfalso; omega
        · refine zz_iload_n (x := x1) rfl zd_8_6_42 ?_
          exact zz_iret zd_8_6_43 rfl (Nat.zero_le _) (Nat.zero_le _) ⟨_, _, rfl, zz_fr.eq F_S, by omega⟩
theorem zi_tensorNamed_8_6 {g : mm_G} {l : Launch}  (S0 : zz_S) (n : Nat) (hn : zz_end ≤ n) (G_S0 : zz_G S0)  : ∀ N : Nat, (∀ (x1 : Int) (S : zz_S), zz_G S → zz_fr [] [] (fun _ _ => False) S0 S → (0 ≤ x1 ∧ x1 ≤ 11) → (2147483647 - x1).toNat < N → zz_E g l zy_tensorNamed_8_6 zr_tensorNamed_8_6 (zz_QI n (zp_tensorNamed_8_6  S0)) S n 2 [some (.ref 1073), some (zi x1)] [] 0 0) := by
  intro N
  induction N with
  | zero => exact fun x1 S _ _ _ h => absurd h (Nat.not_lt_zero _)
  | succ N ih =>
    exact fun x1 S a b j0 hR => zb_tensorNamed_8_6_2  S0 n hn G_S0  x1 S a b j0 _ rfl (fun x1 S a b j0 h => ih x1 S a b j0 (Nat.lt_of_lt_of_le h (Nat.le_of_lt_succ hR)))
theorem zc_tensorNamed_8_6 {g : mm_G} {l : Launch}  (S0 : zz_S) (n : Nat) (hn : zz_end ≤ n) (G_S0 : zz_G S0)  : mm_Met g l zy_tensorNamed_8_6 zr_tensorNamed_8_6 [.ref 1073] (zz_M S0 n) n (zz_QI n (zp_tensorNamed_8_6  S0)) := by
  refine zz_enter (by decide) (Nat.le_of_ble_eq_true rfl) (zz_less (ls1 := [some (.ref 1073)]) ⟨rfl, trivial⟩ ?_)
  have F_S0 : zz_fr [] [] (fun _ _ => False) S0 S0 := zz_fr.refl
  have k2 : ∀ (x1 : Int) (S : zz_S), zz_G S → zz_fr [] [] (fun _ _ => False) S0 S → (0 ≤ x1 ∧ x1 ≤ 11) → zz_E g l zy_tensorNamed_8_6 zr_tensorNamed_8_6 (zz_QI n (zp_tensorNamed_8_6  S0)) S n 2 [some (.ref 1073), some (zi x1)] [] 0 0 := fun x1 S a b j0 => (zi_tensorNamed_8_6 (g := g) (l := l)  S0 n hn G_S0  _) x1 S a b j0 (Nat.lt_succ_self _)
  refine zz_iconst zd_8_6_0 ?_
  refine zz_istore_n [some (.ref 1073), some (zi 0)] zd_8_6_1 (by decide) rfl ?_
  refine zz_less (ls1 := [some (.ref 1073), some (zi 0)]) ⟨rfl, ⟨rfl, trivial⟩⟩ ?_
  exact k2 0 S0 G_S0 F_S0 (by omega)
theorem zk_NetworkReader_128 : mm_Vl "TensorForge$NetworkReader" 128 8 0 zy_tensorNamed_8_6 := ⟨zyw_tensorNamed_8_6, (R_NetworkReader, F_NetworkReader, 9), rfl, mm_tb_1 932 (by decide +kernel) rfl, mm_tb_1 934 (by decide +kernel) rfl, mm_tb_s 43 (by decide +kernel) rfl⟩
theorem zd_8_11_34 : zz_D zy_readName_8_11 34 (.iconst (-1)) 1 35 := ⟨by decide +kernel, rfl⟩
theorem zd_8_11_35 : zz_B zy_readName_8_11 35 (Instr.if_icmp .ne) 52 38 := ⟨17, by decide +kernel, rfl, rfl⟩
theorem zd_8_11_38 : zz_D zy_readName_8_11 38 (.aload_n 0) 1 39 := ⟨by decide +kernel, rfl⟩
theorem zd_8_11_39 : zz_D zy_readName_8_11 39 (.invokevirtual 135) 3 42 := ⟨by decide +kernel, rfl⟩
theorem zd_8_11_42 : zz_B zy_readName_8_11 42 (Instr.ifCond .ne) 52 45 := ⟨10, by decide +kernel, rfl, rfl⟩
theorem zd_8_11_45 : zz_D zy_readName_8_11 45 (.aload_n 0) 1 46 := ⟨by decide +kernel, rfl⟩
theorem zd_8_11_46 : zz_D zy_readName_8_11 46 (.invokevirtual 187) 3 49 := ⟨by decide +kernel, rfl⟩
abbrev zy_beginsLineOrIsX_8_12 : mm_Y := (⟨"TensorForge$NetworkReader", "beginsLineOrIsX", "()Z"⟩, prog_8_method_12_code, 1, (some .boolean))
theorem zyw_beginsLineOrIsX_8_12 : mm_Yw zy_beginsLineOrIsX_8_12 0 := ⟨mm_tb_1 976 (by decide +kernel) rfl, mm_tb_1 9 (by decide +kernel) rfl, ⟨by decide, by decide⟩, by decide +kernel⟩
theorem zd_8_12_0 : zz_D zy_beginsLineOrIsX_8_12 0 (.aload_n 0) 1 1 := ⟨by decide +kernel, rfl⟩
theorem zd_8_12_1 : zz_D zy_beginsLineOrIsX_8_12 1 (.getfield 9) 3 4 := ⟨by decide +kernel, rfl⟩
theorem zd_8_12_4 : zz_D zy_beginsLineOrIsX_8_12 4 (.ldc 85) 2 6 := ⟨by decide +kernel, rfl⟩
theorem zd_8_12_6 : zz_D zy_beginsLineOrIsX_8_12 6 (.invokevirtual 87) 3 9 := ⟨by decide +kernel, rfl⟩
theorem zd_8_12_9 : zz_B zy_beginsLineOrIsX_8_12 9 (Instr.ifCond .ne) 60 12 := ⟨51, by decide +kernel, rfl, rfl⟩
theorem zd_8_12_12 : zz_D zy_beginsLineOrIsX_8_12 12 (.aload_n 0) 1 13 := ⟨by decide +kernel, rfl⟩
theorem zd_8_12_13 : zz_D zy_beginsLineOrIsX_8_12 13 (.getfield 9) 3 16 := ⟨by decide +kernel, rfl⟩
theorem zd_8_12_16 : zz_D zy_beginsLineOrIsX_8_12 16 (.ldc 110) 2 18 := ⟨by decide +kernel, rfl⟩
theorem zd_8_12_18 : zz_D zy_beginsLineOrIsX_8_12 18 (.invokevirtual 87) 3 21 := ⟨by decide +kernel, rfl⟩
theorem zd_8_12_21 : zz_B zy_beginsLineOrIsX_8_12 21 (Instr.ifCond .ne) 60 24 := ⟨39, by decide +kernel, rfl, rfl⟩
theorem zd_8_12_24 : zz_D zy_beginsLineOrIsX_8_12 24 (.aload_n 0) 1 25 := ⟨by decide +kernel, rfl⟩
theorem zd_8_12_25 : zz_D zy_beginsLineOrIsX_8_12 25 (.getfield 9) 3 28 := ⟨by decide +kernel, rfl⟩
theorem zd_8_12_28 : zz_D zy_beginsLineOrIsX_8_12 28 (.ldc 114) 2 30 := ⟨by decide +kernel, rfl⟩
theorem zd_8_12_30 : zz_D zy_beginsLineOrIsX_8_12 30 (.invokevirtual 87) 3 33 := ⟨by decide +kernel, rfl⟩
theorem zd_8_12_33 : zz_B zy_beginsLineOrIsX_8_12 33 (Instr.ifCond .ne) 60 36 := ⟨27, by decide +kernel, rfl, rfl⟩
theorem zd_8_12_36 : zz_D zy_beginsLineOrIsX_8_12 36 (.aload_n 0) 1 37 := ⟨by decide +kernel, rfl⟩
theorem zd_8_12_37 : zz_D zy_beginsLineOrIsX_8_12 37 (.getfield 9) 3 40 := ⟨by decide +kernel, rfl⟩
theorem zd_8_12_40 : zz_D zy_beginsLineOrIsX_8_12 40 (.ldc 116) 2 42 := ⟨by decide +kernel, rfl⟩
theorem zd_8_12_42 : zz_D zy_beginsLineOrIsX_8_12 42 (.invokevirtual 87) 3 45 := ⟨by decide +kernel, rfl⟩
theorem zd_8_12_45 : zz_B zy_beginsLineOrIsX_8_12 45 (Instr.ifCond .ne) 60 48 := ⟨15, by decide +kernel, rfl, rfl⟩
theorem zd_8_12_48 : zz_D zy_beginsLineOrIsX_8_12 48 (.aload_n 0) 1 49 := ⟨by decide +kernel, rfl⟩
theorem zd_8_12_49 : zz_D zy_beginsLineOrIsX_8_12 49 (.getfield 9) 3 52 := ⟨by decide +kernel, rfl⟩
theorem zd_8_12_52 : zz_D zy_beginsLineOrIsX_8_12 52 (.ldc 97) 2 54 := ⟨by decide +kernel, rfl⟩
theorem zd_8_12_54 : zz_D zy_beginsLineOrIsX_8_12 54 (.invokevirtual 87) 3 57 := ⟨by decide +kernel, rfl⟩
theorem zd_8_12_57 : zz_B zy_beginsLineOrIsX_8_12 57 (Instr.ifCond .eq) 64 60 := ⟨7, by decide +kernel, rfl, rfl⟩
theorem zd_8_12_64 : zz_D zy_beginsLineOrIsX_8_12 64 (.iconst 0) 1 65 := ⟨by decide +kernel, rfl⟩
theorem zd_8_12_65 : zz_D zy_beginsLineOrIsX_8_12 65 (.ireturn) 1 66 := ⟨by decide +kernel, rfl⟩
theorem zd_8_12_60 : zz_D zy_beginsLineOrIsX_8_12 60 (.iconst 1) 1 61 := ⟨by decide +kernel, rfl⟩
theorem zd_8_12_61 : zz_B zy_beginsLineOrIsX_8_12 61 Instr.goto 65 64 := ⟨4, by decide +kernel, rfl, rfl⟩
-- TensorForge$NetworkReader beginsLineOrIsX ()Z
abbrev zr_beginsLineOrIsX_8_12 : Room := { frames := 5, cells := 0, slots := 0, locals := 68 }
def zp_beginsLineOrIsX_8_12  (S0 : zz_S) : Int → zz_S → Prop := fun r S => S0 = S ∧ (0 ≤ r ∧ r ≤ 1)
theorem zc_beginsLineOrIsX_8_12 {g : mm_G} {l : Launch}  (S0 : zz_S) (n : Nat) (hn : zz_end ≤ n) (G_S0 : zz_G S0)  : mm_Met g l zy_beginsLineOrIsX_8_12 zr_beginsLineOrIsX_8_12 [.ref 1073] (zz_M S0 n) n (zz_QI n (zp_beginsLineOrIsX_8_12  S0)) := by
  refine zz_enter (by decide) (Nat.le_of_ble_eq_true rfl) (zz_less (ls1 := [some (.ref 1073)]) ⟨rfl, trivial⟩ ?_)
  refine zz_aload_n (x := 1073) rfl zd_8_12_0 ?_
  refine zz_getr (kd := 0) (z := 1070) zd_8_12_1 zf_NetworkReader_9 zT_1073 rfl (zz_ltn hn rfl) (zz_G.eq G_S0 1073 0 1070 rfl rfl) (by decide) 1070 rfl ?_
  refine zz_ldcs (t := 29) (by decide +kernel) (by decide) zd_8_12_4 ?_
  refine zz_callVI [.ref (100 + 29)] zd_8_12_6 zk_NetworkReader_87 zT_1070 (zz_ltn hn rfl) rfl rfl ⟨Nat.le_of_ble_eq_true rfl, Nat.le_of_ble_eq_true rfl⟩ ⟨rfl, rfl⟩ (Nat.zero_le _) (Nat.zero_le _) (zc_isWord_11_9 29 S0 n hn G_S0 (by omega)) (fun v2 S1 hP => ?_)
  obtain ⟨rfl, o3⟩ := hP
  rcases (by omega : v2 = 0 ∨ v2 = 1) with rfl | rfl
  · refine zz_if_ne (by omega) zd_8_12_9 (fun c4 => ?_) (fun c4 => ?_)
    · exfalso; omega
    · refine zz_aload_n (x := 1073) rfl zd_8_12_12 ?_
      refine zz_getr (kd := 0) (z := 1070) zd_8_12_13 zf_NetworkReader_9 zT_1073 rfl (zz_ltn hn rfl) (zz_G.eq G_S0 1073 0 1070 rfl rfl) (by decide) 1070 rfl ?_
      refine zz_ldcs (t := 21) (by decide +kernel) (by decide) zd_8_12_16 ?_
      refine zz_callVI [.ref (100 + 21)] zd_8_12_18 zk_NetworkReader_87 zT_1070 (zz_ltn hn rfl) rfl rfl ⟨Nat.le_of_ble_eq_true rfl, Nat.le_of_ble_eq_true rfl⟩ ⟨rfl, rfl⟩ (Nat.zero_le _) (Nat.zero_le _) (zc_isWord_11_9 21 S0 n hn G_S0 (by omega)) (fun v6 S5 hP => ?_)
      obtain ⟨rfl, o7⟩ := hP
      rcases (by omega : v6 = 0 ∨ v6 = 1) with rfl | rfl
      · refine zz_if_ne (by omega) zd_8_12_21 (fun c8 => ?_) (fun c8 => ?_)
        · exfalso; omega
        · refine zz_aload_n (x := 1073) rfl zd_8_12_24 ?_
          refine zz_getr (kd := 0) (z := 1070) zd_8_12_25 zf_NetworkReader_9 zT_1073 rfl (zz_ltn hn rfl) (zz_G.eq G_S0 1073 0 1070 rfl rfl) (by decide) 1070 rfl ?_
          refine zz_ldcs (t := 22) (by decide +kernel) (by decide) zd_8_12_28 ?_
          refine zz_callVI [.ref (100 + 22)] zd_8_12_30 zk_NetworkReader_87 zT_1070 (zz_ltn hn rfl) rfl rfl ⟨Nat.le_of_ble_eq_true rfl, Nat.le_of_ble_eq_true rfl⟩ ⟨rfl, rfl⟩ (Nat.zero_le _) (Nat.zero_le _) (zc_isWord_11_9 22 S0 n hn G_S0 (by omega)) (fun v10 S9 hP => ?_)
          obtain ⟨rfl, o11⟩ := hP
          rcases (by omega : v10 = 0 ∨ v10 = 1) with rfl | rfl
          · refine zz_if_ne (by omega) zd_8_12_33 (fun c12 => ?_) (fun c12 => ?_)
            · exfalso; omega
            · refine zz_aload_n (x := 1073) rfl zd_8_12_36 ?_
              refine zz_getr (kd := 0) (z := 1070) zd_8_12_37 zf_NetworkReader_9 zT_1073 rfl (zz_ltn hn rfl) (zz_G.eq G_S0 1073 0 1070 rfl rfl) (by decide) 1070 rfl ?_
              refine zz_ldcs (t := 23) (by decide +kernel) (by decide) zd_8_12_40 ?_
              refine zz_callVI [.ref (100 + 23)] zd_8_12_42 zk_NetworkReader_87 zT_1070 (zz_ltn hn rfl) rfl rfl ⟨Nat.le_of_ble_eq_true rfl, Nat.le_of_ble_eq_true rfl⟩ ⟨rfl, rfl⟩ (Nat.zero_le _) (Nat.zero_le _) (zc_isWord_11_9 23 S0 n hn G_S0 (by omega)) (fun v14 S13 hP => ?_)
              obtain ⟨rfl, o15⟩ := hP
              rcases (by omega : v14 = 0 ∨ v14 = 1) with rfl | rfl
              · refine zz_if_ne (by omega) zd_8_12_45 (fun c16 => ?_) (fun c16 => ?_)
                · exfalso; omega
                · refine zz_aload_n (x := 1073) rfl zd_8_12_48 ?_
                  refine zz_getr (kd := 0) (z := 1070) zd_8_12_49 zf_NetworkReader_9 zT_1073 rfl (zz_ltn hn rfl) (zz_G.eq G_S0 1073 0 1070 rfl rfl) (by decide) 1070 rfl ?_
                  refine zz_ldcs (t := 12) (by decide +kernel) (by decide) zd_8_12_52 ?_
                  refine zz_callVI [.ref (100 + 12)] zd_8_12_54 zk_NetworkReader_87 zT_1070 (zz_ltn hn rfl) rfl rfl ⟨Nat.le_of_ble_eq_true rfl, Nat.le_of_ble_eq_true rfl⟩ ⟨rfl, rfl⟩ (Nat.zero_le _) (Nat.zero_le _) (zc_isWord_11_9 12 S0 n hn G_S0 (by omega)) (fun v18 S17 hP => ?_)
                  obtain ⟨rfl, o19⟩ := hP
                  rcases (by omega : v18 = 0 ∨ v18 = 1) with rfl | rfl
                  · refine zz_if_eq (by omega) zd_8_12_57 (fun c20 => ?_) (fun c20 => ?_)
                    · refine zz_iconst zd_8_12_64 ?_
                      exact zz_zret zd_8_12_65 rfl (by omega) (Nat.zero_le _) (Nat.zero_le _) ⟨_, _, rfl, rfl, by omega⟩
                    · exfalso; omega
                  · refine zz_if_eq (by omega) zd_8_12_57 (fun c21 => ?_) (fun c21 => ?_)
                    · exfalso; omega
                    · refine zz_iconst zd_8_12_60 ?_
                      refine zz_goto zd_8_12_61 ?_
                      exact zz_zret zd_8_12_65 rfl (by omega) (Nat.zero_le _) (Nat.zero_le _) ⟨_, _, rfl, rfl, by omega⟩
              · refine zz_if_ne (by omega) zd_8_12_45 (fun c22 => ?_) (fun c22 => ?_)
                · refine zz_iconst zd_8_12_60 ?_
                  refine zz_goto zd_8_12_61 ?_
                  exact zz_zret zd_8_12_65 rfl (by omega) (Nat.zero_le _) (Nat.zero_le _) ⟨_, _, rfl, rfl, by omega⟩
                · exfalso; omega
          · refine zz_if_ne (by omega) zd_8_12_33 (fun c23 => ?_) (fun c23 => ?_)
            · refine zz_iconst zd_8_12_60 ?_
              refine zz_goto zd_8_12_61 ?_
              exact zz_zret zd_8_12_65 rfl (by omega) (Nat.zero_le _) (Nat.zero_le _) ⟨_, _, rfl, rfl, by omega⟩
            · exfalso; omega
      · refine zz_if_ne (by omega) zd_8_12_21 (fun c24 => ?_) (fun c24 => ?_)
        · refine zz_iconst zd_8_12_60 ?_
          refine zz_goto zd_8_12_61 ?_
          exact zz_zret zd_8_12_65 rfl (by omega) (Nat.zero_le _) (Nat.zero_le _) ⟨_, _, rfl, rfl, by omega⟩
        · exfalso; omega
  · refine zz_if_ne (by omega) zd_8_12_9 (fun c25 => ?_) (fun c25 => ?_)
    · refine zz_iconst zd_8_12_60 ?_
      refine zz_goto zd_8_12_61 ?_
      exact zz_zret zd_8_12_65 rfl (by omega) (Nat.zero_le _) (Nat.zero_le _) ⟨_, _, rfl, rfl, by omega⟩
    · exfalso; omega
theorem zk_NetworkReader_187 : mm_Vl "TensorForge$NetworkReader" 187 8 0 zy_beginsLineOrIsX_8_12 := ⟨zyw_beginsLineOrIsX_8_12, (R_NetworkReader, F_NetworkReader, 9), rfl, mm_tb_1 973 (by decide +kernel) rfl, mm_tb_1 975 (by decide +kernel) rfl, mm_tb_s 48 (by decide +kernel) rfl⟩
theorem zd_8_11_49 : zz_B zy_readName_8_11 49 (Instr.ifCond .eq) 54 52 := ⟨5, by decide +kernel, rfl, rfl⟩
theorem zd_8_11_54 : zz_D zy_readName_8_11 54 (.aload_n 0) 1 55 := ⟨by decide +kernel, rfl⟩
theorem zd_8_11_55 : zz_D zy_readName_8_11 55 (.aload_n 0) 1 56 := ⟨by decide +kernel, rfl⟩
theorem zd_8_11_56 : zz_D zy_readName_8_11 56 (.getfield 9) 3 59 := ⟨by decide +kernel, rfl⟩
theorem zd_8_11_59 : zz_D zy_readName_8_11 59 (.getfield 190) 3 62 := ⟨by decide +kernel, rfl⟩
theorem zf_NetworkReader_190 : mm_Fl "TensorForge$NetworkReader" 190 6 5 .int false := ⟨R_Text, F_Text, 7, t_Text, rfl, i_Text, by decide, mm_tb_1 294 (by decide +kernel) rfl, rfl, t_Text_ok, n_Text, rfl, by decide +kernel⟩
theorem zd_8_11_62 : zz_D zy_readName_8_11 62 (.putfield 28) 3 65 := ⟨by decide +kernel, rfl⟩
theorem zd_8_11_65 : zz_D zy_readName_8_11 65 (.aload_n 0) 1 66 := ⟨by decide +kernel, rfl⟩
theorem zd_8_11_66 : zz_D zy_readName_8_11 66 (.aload_n 0) 1 67 := ⟨by decide +kernel, rfl⟩
theorem zd_8_11_67 : zz_D zy_readName_8_11 67 (.getfield 9) 3 70 := ⟨by decide +kernel, rfl⟩
theorem zd_8_11_70 : zz_D zy_readName_8_11 70 (.invokevirtual 184) 3 73 := ⟨by decide +kernel, rfl⟩
theorem zd_8_11_73 : zz_D zy_readName_8_11 73 (.putfield 32) 3 76 := ⟨by decide +kernel, rfl⟩
theorem zd_8_11_76 : zz_D zy_readName_8_11 76 (.iconst 1) 1 77 := ⟨by decide +kernel, rfl⟩
theorem zd_8_11_77 : zz_D zy_readName_8_11 77 (.ireturn) 1 78 := ⟨by decide +kernel, rfl⟩
-- TensorForge$NetworkReader readName ()Z
abbrev zr_readName_8_11 : Room := { frames := 6, cells := 0, slots := 0, locals := 80 }
def zp_readName_8_11  (S0 : zz_S) : Int → zz_S → Prop := fun r S => zz_G S ∧ zz_fr [(1070, 3), (1070, 4), (1070, 5), (1070, 6), (1073, 4), (1073, 5)] [] (fun _ _ => False) S0 S ∧ (0 ≤ r ∧ r ≤ 1)
theorem zc_readName_8_11 {g : mm_G} {l : Launch}  (S0 : zz_S) (n : Nat) (hn : zz_end ≤ n) (G_S0 : zz_G S0)  : mm_Met g l zy_readName_8_11 zr_readName_8_11 [.ref 1073] (zz_M S0 n) n (zz_QI n (zp_readName_8_11  S0)) := by
  refine zz_enter (by decide) (Nat.le_of_ble_eq_true rfl) (zz_less (ls1 := [some (.ref 1073)]) ⟨rfl, trivial⟩ ?_)
  have F_S0 : zz_fr [(1070, 3), (1070, 4), (1070, 5), (1070, 6), (1073, 4), (1073, 5)] [] (fun _ _ => False) S0 S0 := zz_fr.refl
  refine zz_aload_n (x := 1073) rfl zd_8_11_0 ?_
  refine zz_getr (kd := 0) (z := 1070) zd_8_11_1 zf_NetworkReader_9 zT_1073 rfl (zz_ltn hn rfl) (zz_G.eq G_S0 1073 0 1070 rfl rfl) (by decide) 1070 rfl ?_
  refine zz_callVV [] zd_8_11_4 zk_NetworkReader_59 zT_1070 (zz_ltn hn rfl) rfl rfl ⟨Nat.le_of_ble_eq_true rfl, Nat.le_of_ble_eq_true rfl⟩ ⟨rfl, rfl⟩ (Nat.zero_le _) (Nat.zero_le _) (zc_nextToken_11_7  S0 n hn G_S0 ) (fun S1 hP => ?_)
  obtain ⟨G_S1, fS1⟩ := hP
  have F_S1 := zz_fr.trans F_S0 fS1 rfl zz_nv
  refine zz_aload_n (x := 1073) rfl zd_8_11_7 ?_
  refine zz_getr (kd := 0) (z := 1070) zd_8_11_8 zf_NetworkReader_9 zT_1073 rfl (zz_ltn hn rfl) (zz_G.eq G_S1 1073 0 1070 rfl rfl) (by decide) 1070 rfl ?_
  have g3 := zz_G.r G_S1 1070 4 (-2147483648) 2147483647 rfl rfl
  refine zz_geti (z := S1 1070 4) zd_8_11_11 zf_NetworkReader_62 zT_1070 rfl (zz_ltn hn rfl) rfl ?_
  refine zz_iconst zd_8_11_14 ?_
  refine zz_icmp_ne (by omega) (by omega) zd_8_11_15 (fun c4 => ?_) (fun c4 => ?_)
  · refine zz_iconst zd_8_11_52 ?_
    exact zz_zret zd_8_11_53 rfl (by omega) (Nat.zero_le _) (Nat.zero_le _) ⟨_, _, rfl, G_S1, F_S1, by omega⟩
  · refine zz_aload_n (x := 1073) rfl zd_8_11_18 ?_
    refine zz_getr (kd := 0) (z := 1070) zd_8_11_19 zf_NetworkReader_9 zT_1073 rfl (zz_ltn hn rfl) (zz_G.eq G_S1 1073 0 1070 rfl rfl) (by decide) 1070 rfl ?_
    refine zz_callVI [] zd_8_11_22 zk_NetworkReader_184 zT_1070 (zz_ltn hn rfl) rfl rfl ⟨Nat.le_of_ble_eq_true rfl, Nat.le_of_ble_eq_true rfl⟩ ⟨rfl, rfl⟩ (Nat.zero_le _) (Nat.zero_le _) (zc_tokenSize_11_8  S1 n hn G_S1 ) (fun v6 S5 hP => ?_)
    obtain ⟨rfl, o7⟩ := hP
    refine zz_bipush (by decide) zd_8_11_25 ?_
    refine zz_icmp_gt (by omega) (by omega) zd_8_11_27 (fun c8 => ?_) (fun c8 => ?_)
    · refine zz_iconst zd_8_11_52 ?_
      exact zz_zret zd_8_11_53 rfl (by omega) (Nat.zero_le _) (Nat.zero_le _) ⟨_, _, rfl, G_S1, F_S1, by omega⟩
    · refine zz_aload_n (x := 1073) rfl zd_8_11_30 ?_
      refine zz_callVI [] zd_8_11_31 zk_NetworkReader_128 zT_1073 (zz_ltn hn rfl) rfl rfl ⟨Nat.le_of_ble_eq_true rfl, Nat.le_of_ble_eq_true rfl⟩ ⟨rfl, rfl⟩ (Nat.zero_le _) (Nat.zero_le _) (zc_tensorNamed_8_6  S1 n hn G_S1 ) (fun v10 S9 hP => ?_)
      obtain ⟨rfl, o11⟩ := hP
      refine zz_iconst zd_8_11_34 ?_
      refine zz_icmp_ne (by omega) (by omega) zd_8_11_35 (fun c12 => ?_) (fun c12 => ?_)
      · refine zz_iconst zd_8_11_52 ?_
        exact zz_zret zd_8_11_53 rfl (by omega) (Nat.zero_le _) (Nat.zero_le _) ⟨_, _, rfl, G_S1, F_S1, by omega⟩
      · refine zz_aload_n (x := 1073) rfl zd_8_11_38 ?_
        refine zz_callVI [] zd_8_11_39 zk_NetworkReader_135 zT_1073 (zz_ltn hn rfl) rfl rfl ⟨Nat.le_of_ble_eq_true rfl, Nat.le_of_ble_eq_true rfl⟩ ⟨rfl, rfl⟩ (Nat.zero_le _) (Nat.zero_le _) (zc_optionTold_8_8  S1 n hn G_S1 ) (fun v14 S13 hP => ?_)
        obtain ⟨rfl, o15⟩ := hP
        refine zz_if_ne (by omega) zd_8_11_42 (fun c16 => ?_) (fun c16 => ?_)
        · refine zz_iconst zd_8_11_52 ?_
          exact zz_zret zd_8_11_53 rfl (by omega) (Nat.zero_le _) (Nat.zero_le _) ⟨_, _, rfl, G_S1, F_S1, by omega⟩
        · refine zz_aload_n (x := 1073) rfl zd_8_11_45 ?_
          refine zz_callVI [] zd_8_11_46 zk_NetworkReader_187 zT_1073 (zz_ltn hn rfl) rfl rfl ⟨Nat.le_of_ble_eq_true rfl, Nat.le_of_ble_eq_true rfl⟩ ⟨rfl, rfl⟩ (Nat.zero_le _) (Nat.zero_le _) (zc_beginsLineOrIsX_8_12  S1 n hn G_S1 ) (fun v18 S17 hP => ?_)
          obtain ⟨rfl, o19⟩ := hP
          rcases (by omega : v18 = 0 ∨ v18 = 1) with rfl | rfl
          · refine zz_if_eq (by omega) zd_8_11_49 (fun c20 => ?_) (fun c20 => ?_)
            · refine zz_aload_n (x := 1073) rfl zd_8_11_54 ?_
              refine zz_aload_n (x := 1073) rfl zd_8_11_55 ?_
              refine zz_getr (kd := 0) (z := 1070) zd_8_11_56 zf_NetworkReader_9 zT_1073 rfl (zz_ltn hn rfl) (zz_G.eq G_S1 1073 0 1070 rfl rfl) (by decide) 1070 rfl ?_
              have g21 := zz_G.r G_S1 1070 5 0 1500 rfl rfl
              refine zz_geti (z := S1 1070 5) zd_8_11_59 zf_NetworkReader_190 zT_1070 rfl (zz_ltn hn rfl) rfl ?_
              refine zz_puti zd_8_11_62 zf_NetworkReader_28 zT_1073 rfl (zz_ltn hn rfl) (fun S22 qS22 => ?_)
              have G_S22 := zz_G.put G_S1 qS22 0 1500 rfl (by omega)
              have F_S22 := zz_fr.puts F_S1 qS22 rfl
              refine zz_aload_n (x := 1073) rfl zd_8_11_65 ?_
              refine zz_aload_n (x := 1073) rfl zd_8_11_66 ?_
              refine zz_getr (kd := 0) (z := 1070) zd_8_11_67 zf_NetworkReader_9 zT_1073 rfl (zz_ltn hn rfl) (zz_G.eq G_S22 1073 0 1070 rfl rfl) (by decide) 1070 rfl ?_
              refine zz_callVI [] zd_8_11_70 zk_NetworkReader_184 zT_1070 (zz_ltn hn rfl) rfl rfl ⟨Nat.le_of_ble_eq_true rfl, Nat.le_of_ble_eq_true rfl⟩ ⟨rfl, rfl⟩ (Nat.zero_le _) (Nat.zero_le _) (zc_tokenSize_11_8  S22 n hn G_S22 ) (fun v24 S23 hP => ?_)
              obtain ⟨rfl, o25⟩ := hP
              refine zz_puti zd_8_11_73 zf_NetworkReader_32 zT_1073 rfl (zz_ltn hn rfl) (fun S26 qS26 => ?_)
              have G_S26 := zz_G.put G_S22 qS26 (-1500) 1500 rfl (by omega)
              have F_S26 := zz_fr.puts F_S22 qS26 rfl
              refine zz_iconst zd_8_11_76 ?_
              exact zz_zret zd_8_11_77 rfl (by omega) (Nat.zero_le _) (Nat.zero_le _) ⟨_, _, rfl, G_S26, F_S26, by omega⟩
            · exfalso; omega
          · refine zz_if_eq (by omega) zd_8_11_49 (fun c27 => ?_) (fun c27 => ?_)
            · exfalso; omega
            · refine zz_iconst zd_8_11_52 ?_
              exact zz_zret zd_8_11_53 rfl (by omega) (Nat.zero_le _) (Nat.zero_le _) ⟨_, _, rfl, G_S1, F_S1, by omega⟩
theorem zk_NetworkReader_158 : mm_Vl "TensorForge$NetworkReader" 158 8 0 zy_readName_8_11 := ⟨zyw_readName_8_11, (R_NetworkReader, F_NetworkReader, 9), rfl, mm_tb_1 965 (by decide +kernel) rfl, mm_tb_1 967 (by decide +kernel) rfl, mm_tb_s 47 (by decide +kernel) rfl⟩
theorem zd_8_9_11 : zz_D zy_readOption_8_9 11 (.ireturn) 1 12 := ⟨by decide +kernel, rfl⟩
-- TensorForge$NetworkReader readOption (I)Z
abbrev zr_readOption_8_9 : Room := { frames := 7, cells := 0, slots := 0, locals := 95 }
def zp_readOption_8_9 (p0 : Int) (S0 : zz_S) : Int → zz_S → Prop := fun r S => zz_G S ∧ zz_fr [(1070, 3), (1070, 4), (1070, 5), (1070, 6), (1073, 4), (1073, 5)] [] (fun a i => (a = zz_rf 6 (12 * (S0 1073 1) + S0 (zz_rf 3 (S0 1073 1)) 1) ∧ i = 12) ∨ (a = zz_rf 6 (12 * (S0 1073 1) + S0 (zz_rf 3 (S0 1073 1)) 1) ∧ i = 3) ∨ (a = zz_rf 6 (12 * (S0 1073 1) + S0 (zz_rf 3 (S0 1073 1)) 1) ∧ i = 4) ∨ (a = zz_rf 6 (12 * (S0 1073 1) + S0 (zz_rf 3 (S0 1073 1)) 1) ∧ i = 5) ∨ (a = zz_rf 6 (12 * (S0 1073 1) + S0 (zz_rf 3 (S0 1073 1)) 1) ∧ i = 6) ∨ (a = zz_rf 6 (12 * (S0 1073 1) + S0 (zz_rf 3 (S0 1073 1)) 1) ∧ i = 7) ∨ (a = zz_rf 6 (12 * (S0 1073 1) + S0 (zz_rf 3 (S0 1073 1)) 1) ∧ i = 8) ∨ (a = zz_rf 6 (12 * (S0 1073 1) + S0 (zz_rf 3 (S0 1073 1)) 1) ∧ i = 9)) S0 S ∧ (0 ≤ r ∧ r ≤ 1)
theorem zc_readOption_8_9 {g : mm_G} {l : Launch} (p0 : Int) (S0 : zz_S) (n : Nat) (hn : zz_end ≤ n) (G_S0 : zz_G S0) (hp0 : (-2147483648) ≤ p0 ∧ p0 ≤ 2147483647) : mm_Met g l zy_readOption_8_9 zr_readOption_8_9 [.ref 1073, zi p0] (zz_M S0 n) n (zz_QI n (zp_readOption_8_9 p0 S0)) := by
  refine zz_enter (by decide) (Nat.le_of_ble_eq_true rfl) (zz_less (ls1 := [some (.ref 1073), some (zi p0)]) ⟨rfl, ⟨rfl, trivial⟩⟩ ?_)
  have F_S0 : zz_fr [(1070, 3), (1070, 4), (1070, 5), (1070, 6), (1073, 4), (1073, 5)] [] (fun a i => (a = zz_rf 6 (12 * (S0 1073 1) + S0 (zz_rf 3 (S0 1073 1)) 1) ∧ i = 12) ∨ (a = zz_rf 6 (12 * (S0 1073 1) + S0 (zz_rf 3 (S0 1073 1)) 1) ∧ i = 3) ∨ (a = zz_rf 6 (12 * (S0 1073 1) + S0 (zz_rf 3 (S0 1073 1)) 1) ∧ i = 4) ∨ (a = zz_rf 6 (12 * (S0 1073 1) + S0 (zz_rf 3 (S0 1073 1)) 1) ∧ i = 5) ∨ (a = zz_rf 6 (12 * (S0 1073 1) + S0 (zz_rf 3 (S0 1073 1)) 1) ∧ i = 6) ∨ (a = zz_rf 6 (12 * (S0 1073 1) + S0 (zz_rf 3 (S0 1073 1)) 1) ∧ i = 7) ∨ (a = zz_rf 6 (12 * (S0 1073 1) + S0 (zz_rf 3 (S0 1073 1)) 1) ∧ i = 8) ∨ (a = zz_rf 6 (12 * (S0 1073 1) + S0 (zz_rf 3 (S0 1073 1)) 1) ∧ i = 9)) S0 S0 := zz_fr.refl
  refine zz_iload_n (x := p0) rfl zd_8_9_0 ?_
  refine zz_sipush (by decide) zd_8_9_1 ?_
  refine zz_icmp_ne (by omega) (by omega) zd_8_9_4 (fun c1 => ?_) (fun c1 => ?_)
  · refine zz_aload_n (x := 1073) rfl zd_8_9_12 ?_
    have g2 := zz_G.r G_S0 1073 1 0 1 rfl rfl
    refine zz_getr (kd := 1) (z := S0 1073 1) zd_8_9_13 zf_NetworkReader_15 zT_1073 rfl (zz_ltn hn rfl) rfl (by omega) (zz_rf 3 (S0 1073 1)) rfl ?_
    refine zz_callVA [] zd_8_9_16 zk_NetworkReader_121 (zT_k3 (by omega)) (zN_k3 hn (by omega)) rfl rfl ⟨Nat.le_of_ble_eq_true rfl, Nat.le_of_ble_eq_true rfl⟩ ⟨rfl, rfl⟩ (Nat.zero_le _) (Nat.zero_le _) (zc_draft_7_6 (S0 1073 1) S0 n hn G_S0 (by omega)) (fun v4 S3 hP => ?_)
    obtain ⟨rfl, o5, o6⟩ := hP
    subst o5
    refine zz_astore_n [some (.ref 1073), some (zi p0), some (.ref (zz_rf 6 (12 * (S0 1073 1) + S0 (zz_rf 3 (S0 1073 1)) 1)))] zd_8_9_19 (by decide) rfl ?_
    refine zz_iload_n (x := p0) rfl zd_8_9_20 ?_
    refine zz_bipush (by decide) zd_8_9_21 ?_
    refine zz_icmp_ne (by omega) (by omega) zd_8_9_23 (fun c7 => ?_) (fun c7 => ?_)
    · refine zz_aload_n (x := 1073) rfl zd_8_9_33 ?_
      refine zz_getr (kd := 0) (z := 1070) zd_8_9_34 zf_NetworkReader_9 zT_1073 rfl (zz_ltn hn rfl) (zz_G.eq G_S0 1073 0 1070 rfl rfl) (by decide) 1070 rfl ?_
      refine zz_callVI [] zd_8_9_37 zk_NetworkReader_91 zT_1070 (zz_ltn hn rfl) rfl rfl ⟨Nat.le_of_ble_eq_true rfl, Nat.le_of_ble_eq_true rfl⟩ ⟨rfl, rfl⟩ (Nat.zero_le _) (Nat.zero_le _) (zc_nextIsNumber_11_11  S0 n hn G_S0 ) (fun v9 S8 hP => ?_)
      obtain ⟨G_S8, fS8, o10⟩ := hP
      have F_S8 := zz_fr.trans F_S0 fS8 rfl zz_nv
      rcases (by omega : v9 = 0 ∨ v9 = 1) with rfl | rfl
      · refine zz_if_ne (by omega) zd_8_9_40 (fun c11 => ?_) (fun c11 => ?_)
        · exfalso; omega
        · refine zz_iconst zd_8_9_43 ?_
          exact zz_zret zd_8_9_44 rfl (by omega) (Nat.zero_le _) (Nat.zero_le _) ⟨_, _, rfl, G_S8, F_S8, by omega⟩
      · refine zz_if_ne (by omega) zd_8_9_40 (fun c12 => ?_) (fun c12 => ?_)
        · refine zz_iload_n (x := p0) rfl zd_8_9_45 ?_
          by_cases c13 : p0 = 2
          · refine zz_lsw (off := 50) (by omega) zd_8_9_46 (by decide) (by rw [c13]; rfl) rfl ?_
            refine zz_aload_n (x := zz_rf 6 (12 * (S0 1073 1) + S0 (zz_rf 3 (S0 1073 1)) 1)) rfl zd_8_9_96 ?_
            refine zz_aload_n (x := 1073) rfl zd_8_9_97 ?_
            refine zz_getr (kd := 0) (z := 1070) zd_8_9_98 zf_NetworkReader_9 zT_1073 rfl (zz_ltn hn rfl) (zz_G.eq G_S8 1073 0 1070 rfl rfl) (by decide) 1070 rfl ?_
            have g14 := zz_G.r G_S8 1070 6 (-2147483648) 2147483647 rfl rfl
            refine zz_geti (z := S8 1070 6) zd_8_9_101 zf_NetworkReader_94 zT_1070 rfl (zz_ltn hn rfl) rfl ?_
            refine zz_puti zd_8_9_104 zf_NetworkReader_164 (zT_k6 (by omega)) rfl (zN_k6 hn (by omega)) (fun S15 qS15 => ?_)
            have G_S15 := zz_G.put G_S8 qS15 (-2147483648) 2147483647 (zR_k6_12 (by omega)) (by omega)
            have F_S15 := zz_fr.putv F_S8 qS15 (Or.inl ⟨rfl, rfl⟩)
            refine zz_iconst zd_8_9_107 ?_
            exact zz_zret zd_8_9_108 rfl (by omega) (Nat.zero_le _) (Nat.zero_le _) ⟨_, _, rfl, G_S15, F_S15, by omega⟩
          by_cases c16 : p0 = 4
          · refine zz_lsw (off := 63) (by omega) zd_8_9_46 (by decide) (by rw [c16]; rfl) rfl ?_
            refine zz_aload_n (x := zz_rf 6 (12 * (S0 1073 1) + S0 (zz_rf 3 (S0 1073 1)) 1)) rfl zd_8_9_109 ?_
            refine zz_aload_n (x := 1073) rfl zd_8_9_110 ?_
            refine zz_getr (kd := 0) (z := 1070) zd_8_9_111 zf_NetworkReader_9 zT_1073 rfl (zz_ltn hn rfl) (zz_G.eq G_S8 1073 0 1070 rfl rfl) (by decide) 1070 rfl ?_
            have g17 := zz_G.r G_S8 1070 6 (-2147483648) 2147483647 rfl rfl
            refine zz_geti (z := S8 1070 6) zd_8_9_114 zf_NetworkReader_94 zT_1070 rfl (zz_ltn hn rfl) rfl ?_
            refine zz_puti zd_8_9_117 zf_NetworkReader_167 (zT_k6 (by omega)) rfl (zN_k6 hn (by omega)) (fun S18 qS18 => ?_)
            have G_S18 := zz_G.put G_S8 qS18 (-2147483648) 2147483647 (zR_k6_9 (by omega)) (by omega)
            have F_S18 := zz_fr.putv F_S8 qS18 (Or.inr (Or.inr (Or.inr (Or.inr (Or.inr (Or.inr (Or.inr (⟨rfl, rfl⟩))))))))
            refine zz_iconst zd_8_9_120 ?_
            exact zz_zret zd_8_9_121 rfl (by omega) (Nat.zero_le _) (Nat.zero_le _) ⟨_, _, rfl, G_S18, F_S18, by omega⟩
          by_cases c19 : p0 = 8
          · refine zz_lsw (off := 76) (by omega) zd_8_9_46 (by decide) (by rw [c19]; rfl) rfl ?_
            refine zz_aload_n (x := zz_rf 6 (12 * (S0 1073 1) + S0 (zz_rf 3 (S0 1073 1)) 1)) rfl zd_8_9_122 ?_
            refine zz_aload_n (x := 1073) rfl zd_8_9_123 ?_
            refine zz_getr (kd := 0) (z := 1070) zd_8_9_124 zf_NetworkReader_9 zT_1073 rfl (zz_ltn hn rfl) (zz_G.eq G_S8 1073 0 1070 rfl rfl) (by decide) 1070 rfl ?_
            have g20 := zz_G.r G_S8 1070 6 (-2147483648) 2147483647 rfl rfl
            refine zz_geti (z := S8 1070 6) zd_8_9_127 zf_NetworkReader_94 zT_1070 rfl (zz_ltn hn rfl) rfl ?_
            refine zz_puti zd_8_9_130 zf_NetworkReader_170 (zT_k6 (by omega)) rfl (zN_k6 hn (by omega)) (fun S21 qS21 => ?_)
            have G_S21 := zz_G.put G_S8 qS21 (-2147483648) 2147483647 (zR_k6_5 (by omega)) (by omega)
            have F_S21 := zz_fr.putv F_S8 qS21 (Or.inr (Or.inr (Or.inr (Or.inl ⟨rfl, rfl⟩))))
            refine zz_iconst zd_8_9_133 ?_
            exact zz_zret zd_8_9_134 rfl (by omega) (Nat.zero_le _) (Nat.zero_le _) ⟨_, _, rfl, G_S21, F_S21, by omega⟩
          by_cases c22 : p0 = 16
          · refine zz_lsw (off := 89) (by omega) zd_8_9_46 (by decide) (by rw [c22]; rfl) rfl ?_
            refine zz_aload_n (x := zz_rf 6 (12 * (S0 1073 1) + S0 (zz_rf 3 (S0 1073 1)) 1)) rfl zd_8_9_135 ?_
            refine zz_aload_n (x := 1073) rfl zd_8_9_136 ?_
            refine zz_getr (kd := 0) (z := 1070) zd_8_9_137 zf_NetworkReader_9 zT_1073 rfl (zz_ltn hn rfl) (zz_G.eq G_S8 1073 0 1070 rfl rfl) (by decide) 1070 rfl ?_
            have g23 := zz_G.r G_S8 1070 6 (-2147483648) 2147483647 rfl rfl
            refine zz_geti (z := S8 1070 6) zd_8_9_140 zf_NetworkReader_94 zT_1070 rfl (zz_ltn hn rfl) rfl ?_
            refine zz_puti zd_8_9_143 zf_NetworkReader_172 (zT_k6 (by omega)) rfl (zN_k6 hn (by omega)) (fun S24 qS24 => ?_)
            have G_S24 := zz_G.put G_S8 qS24 (-2147483648) 2147483647 (zR_k6_6 (by omega)) (by omega)
            have F_S24 := zz_fr.putv F_S8 qS24 (Or.inr (Or.inr (Or.inr (Or.inr (Or.inl ⟨rfl, rfl⟩)))))
            refine zz_iconst zd_8_9_146 ?_
            exact zz_zret zd_8_9_147 rfl (by omega) (Nat.zero_le _) (Nat.zero_le _) ⟨_, _, rfl, G_S24, F_S24, by omega⟩
          by_cases c25 : p0 = 32
          · refine zz_lsw (off := 102) (by omega) zd_8_9_46 (by decide) (by rw [c25]; rfl) rfl ?_
            refine zz_aload_n (x := zz_rf 6 (12 * (S0 1073 1) + S0 (zz_rf 3 (S0 1073 1)) 1)) rfl zd_8_9_148 ?_
            refine zz_aload_n (x := 1073) rfl zd_8_9_149 ?_
            refine zz_getr (kd := 0) (z := 1070) zd_8_9_150 zf_NetworkReader_9 zT_1073 rfl (zz_ltn hn rfl) (zz_G.eq G_S8 1073 0 1070 rfl rfl) (by decide) 1070 rfl ?_
            have g26 := zz_G.r G_S8 1070 6 (-2147483648) 2147483647 rfl rfl
            refine zz_geti (z := S8 1070 6) zd_8_9_153 zf_NetworkReader_94 zT_1070 rfl (zz_ltn hn rfl) rfl ?_
            refine zz_puti zd_8_9_156 zf_NetworkReader_174 (zT_k6 (by omega)) rfl (zN_k6 hn (by omega)) (fun S27 qS27 => ?_)
            have G_S27 := zz_G.put G_S8 qS27 (-2147483648) 2147483647 (zR_k6_7 (by omega)) (by omega)
            have F_S27 := zz_fr.putv F_S8 qS27 (Or.inr (Or.inr (Or.inr (Or.inr (Or.inr (Or.inl ⟨rfl, rfl⟩))))))
            refine zz_iconst zd_8_9_159 ?_
            exact zz_zret zd_8_9_160 rfl (by omega) (Nat.zero_le _) (Nat.zero_le _) ⟨_, _, rfl, G_S27, F_S27, by omega⟩
          refine zz_lsw (off := 115) (by omega) zd_8_9_46 (by decide) (by simp [Op.lookupswitch.offset]; omega) rfl ?_
          refine zz_aload_n (x := 1073) rfl zd_8_9_161 ?_
          refine zz_aload_n (x := 1073) rfl zd_8_9_162 ?_
          refine zz_getr (kd := 0) (z := 1070) zd_8_9_163 zf_NetworkReader_9 zT_1073 rfl (zz_ltn hn rfl) (zz_G.eq G_S8 1073 0 1070 rfl rfl) (by decide) 1070 rfl ?_
          have g28 := zz_G.r G_S8 1070 6 (-2147483648) 2147483647 rfl rfl
          refine zz_geti (z := S8 1070 6) zd_8_9_166 zf_NetworkReader_94 zT_1070 rfl (zz_ltn hn rfl) rfl ?_
          refine zz_aload_n (x := zz_rf 6 (12 * (S0 1073 1) + S0 (zz_rf 3 (S0 1073 1)) 1)) rfl zd_8_9_169 ?_
          refine zz_callVI [zi (S8 1070 6), .ref (zz_rf 6 (12 * (S0 1073 1) + S0 (zz_rf 3 (S0 1073 1)) 1))] zd_8_9_170 zk_NetworkReader_176 zT_1073 (zz_ltn hn rfl) rfl rfl ⟨Nat.le_of_ble_eq_true rfl, Nat.le_of_ble_eq_true rfl⟩ ⟨rfl, rfl⟩ (Nat.zero_le _) (Nat.zero_le _) (zc_readKernelFrom_8_10 (S8 1070 6) (12 * (S0 1073 1) + S0 (zz_rf 3 (S0 1073 1)) 1) S8 n hn G_S8 (by omega) (by omega)) (fun v30 S29 hP => ?_)
          obtain ⟨G_S29, fS29, o31⟩ := hP
          have g32 := zz_G.r G_S0 1073 1 0 1 rfl rfl
          have b33 := zz_G.r G_S0 (zz_rf 3 (S0 1073 1)) 1 1 11 (zR_k3_1 (by omega)) (zB_k3 (by omega))
          have F_S29 := zz_fr.trans F_S8 fS29 rfl (fun a i h => by rcases h with h | h; exact Or.inr (Or.inr (Or.inr (Or.inl h))); exact Or.inr (Or.inr (Or.inr (Or.inr (Or.inl h)))))
          have b34 := zz_G.r G_S0 (zz_rf 3 (S0 1073 1)) 1 1 11 (zR_k3_1 (by omega)) (zB_k3 (by omega))
          have b35 := zz_rf6 (z := (12 * (S0 1073 1) + S0 (zz_rf 3 (S0 1073 1)) 1)) (by omega)
          rcases (by omega : v30 = 0 ∨ v30 = 1) with rfl | rfl
          · exact zz_zret zd_8_9_173 rfl (by omega) (Nat.zero_le _) (Nat.zero_le _) ⟨_, _, rfl, G_S29, F_S29, by omega⟩
          · exact zz_zret zd_8_9_173 rfl (by omega) (Nat.zero_le _) (Nat.zero_le _) ⟨_, _, rfl, G_S29, F_S29, by omega⟩
        · exfalso; omega
    · refine zz_aload_n (x := zz_rf 6 (12 * (S0 1073 1) + S0 (zz_rf 3 (S0 1073 1)) 1)) rfl zd_8_9_26 ?_
      refine zz_iconst zd_8_9_27 ?_
      refine zz_putz zd_8_9_28 zf_NetworkReader_161 (zT_k6 (by omega)) rfl (zN_k6 hn (by omega)) (by omega) (fun S36 qS36 => ?_)
      have G_S36 := zz_G.put G_S0 qS36 0 1 (zR_k6_8 (by omega)) (by omega)
      have F_S36 := zz_fr.putv F_S0 qS36 (Or.inr (Or.inr (Or.inr (Or.inr (Or.inr (Or.inr (Or.inl ⟨rfl, rfl⟩)))))))
      refine zz_iconst zd_8_9_31 ?_
      exact zz_zret zd_8_9_32 rfl (by omega) (Nat.zero_le _) (Nat.zero_le _) ⟨_, _, rfl, G_S36, F_S36, by omega⟩
  · refine zz_aload_n (x := 1073) rfl zd_8_9_7 ?_
    refine zz_callVI [] zd_8_9_8 zk_NetworkReader_158 zT_1073 (zz_ltn hn rfl) rfl rfl ⟨Nat.le_of_ble_eq_true rfl, Nat.le_of_ble_eq_true rfl⟩ ⟨rfl, rfl⟩ (Nat.zero_le _) (Nat.zero_le _) (zc_readName_8_11  S0 n hn G_S0 ) (fun v38 S37 hP => ?_)
    obtain ⟨G_S37, fS37, o39⟩ := hP
    have F_S37 := zz_fr.trans F_S0 fS37 rfl zz_nv
    rcases (by omega : v38 = 0 ∨ v38 = 1) with rfl | rfl
    · exact zz_zret zd_8_9_11 rfl (by omega) (Nat.zero_le _) (Nat.zero_le _) ⟨_, _, rfl, G_S37, F_S37, by omega⟩
    · exact zz_zret zd_8_9_11 rfl (by omega) (Nat.zero_le _) (Nat.zero_le _) ⟨_, _, rfl, G_S37, F_S37, by omega⟩
theorem zk_NetworkReader_138 : mm_Vl "TensorForge$NetworkReader" 138 8 1 zy_readOption_8_9 := ⟨zyw_readOption_8_9, (R_NetworkReader, F_NetworkReader, 9), rfl, mm_tb_1 961 (by decide +kernel) rfl, mm_tb_1 963 (by decide +kernel) rfl, mm_tb_s 46 (by decide +kernel) rfl⟩
theorem zd_8_7_86 : zz_B zy_readOptions_8_7 86 (Instr.ifCond .ne) 91 89 := ⟨5, by decide +kernel, rfl, rfl⟩
theorem zd_8_7_91 : zz_D zy_readOptions_8_7 91 (.aload_n 0) 1 92 := ⟨by decide +kernel, rfl⟩
theorem zd_8_7_92 : zz_D zy_readOptions_8_7 92 (.dup) 1 93 := ⟨by decide +kernel, rfl⟩
theorem zd_8_7_93 : zz_D zy_readOptions_8_7 93 (.getfield 41) 3 96 := ⟨by decide +kernel, rfl⟩
theorem zd_8_7_96 : zz_D zy_readOptions_8_7 96 (.iload_n 2) 1 97 := ⟨by decide +kernel, rfl⟩
theorem zd_8_7_97 : zz_D zy_readOptions_8_7 97 (.ior) 1 98 := ⟨by decide +kernel, rfl⟩
theorem zd_8_7_98 : zz_D zy_readOptions_8_7 98 (.putfield 41) 3 101 := ⟨by decide +kernel, rfl⟩
theorem zd_8_7_101 : zz_D zy_readOptions_8_7 101 (.iinc 1 1) 3 104 := ⟨by decide +kernel, rfl⟩
theorem zd_8_7_104 : zz_B zy_readOptions_8_7 104 Instr.goto 12 107 := ⟨(-92), by decide +kernel, rfl, rfl⟩
theorem zd_8_7_36 : zz_D zy_readOptions_8_7 36 (.aload_n 0) 1 37 := ⟨by decide +kernel, rfl⟩
theorem zd_8_7_37 : zz_D zy_readOptions_8_7 37 (.getfield 41) 3 40 := ⟨by decide +kernel, rfl⟩
theorem zd_8_7_40 : zz_D zy_readOptions_8_7 40 (.aload_n 0) 1 41 := ⟨by decide +kernel, rfl⟩
theorem zd_8_7_41 : zz_D zy_readOptions_8_7 41 (.getfield 38) 3 44 := ⟨by decide +kernel, rfl⟩
theorem zd_8_7_44 : zz_D zy_readOptions_8_7 44 (.iand) 1 45 := ⟨by decide +kernel, rfl⟩
theorem zd_8_7_45 : zz_D zy_readOptions_8_7 45 (.aload_n 0) 1 46 := ⟨by decide +kernel, rfl⟩
theorem zd_8_7_46 : zz_D zy_readOptions_8_7 46 (.getfield 38) 3 49 := ⟨by decide +kernel, rfl⟩
theorem zd_8_7_49 : zz_B zy_readOptions_8_7 49 (Instr.if_icmp .ne) 56 52 := ⟨7, by decide +kernel, rfl, rfl⟩
theorem zd_8_7_56 : zz_D zy_readOptions_8_7 56 (.iconst 0) 1 57 := ⟨by decide +kernel, rfl⟩
theorem zd_8_7_57 : zz_D zy_readOptions_8_7 57 (.ireturn) 1 58 := ⟨by decide +kernel, rfl⟩
theorem zd_8_7_52 : zz_D zy_readOptions_8_7 52 (.iconst 1) 1 53 := ⟨by decide +kernel, rfl⟩
theorem zd_8_7_53 : zz_B zy_readOptions_8_7 53 Instr.goto 57 56 := ⟨4, by decide +kernel, rfl, rfl⟩
theorem zd_8_7_107 : zz_D zy_readOptions_8_7 107 (.iconst 0) 1 108 := ⟨by decide +kernel, rfl⟩
theorem zd_8_7_108 : zz_D zy_readOptions_8_7 108 (.ireturn) 1 109 := ⟨by decide +kernel, rfl⟩
-- TensorForge$NetworkReader readOptions ()Z
abbrev zr_readOptions_8_7 : Room := { frames := 8, cells := 0, slots := 0, locals := 109 }
def zp_readOptions_8_7  (S0 : zz_S) : Int → zz_S → Prop := fun r S => zz_G S ∧ zz_fr [(1070, 3), (1070, 4), (1070, 5), (1070, 6), (1073, 4), (1073, 5), (1073, 8)] [1003, 1004, 1005, 1006, 1007, 1008, 1009, 1010, 1011, 1012, 1013, 1014, 1017, 1018, 1019, 1020, 1021, 1022, 1023, 1024, 1025, 1026, 1027, 1028] (fun _ _ => False) S0 S ∧ (0 ≤ r ∧ r ≤ 1)
theorem zb_readOptions_8_7_12 {g : mm_G} {l : Launch}  (S0 : zz_S) (n : Nat) (hn : zz_end ≤ n) (G_S0 : zz_G S0)  (x1 : Int) (S : zz_S) (G_S : zz_G S) (F_S : zz_fr [(1070, 3), (1070, 4), (1070, 5), (1070, 6), (1073, 4), (1073, 5), (1073, 8)] [1003, 1004, 1005, 1006, 1007, 1008, 1009, 1010, 1011, 1012, 1013, 1014, 1017, 1018, 1019, 1020, 1021, 1022, 1023, 1024, 1025, 1026, 1027, 1028] (fun _ _ => False) S0 S) (i12_0 : 0 ≤ x1 ∧ x1 ≤ 1501) (R : Nat) (hR : (1500 + 1 - x1).toNat = R) (k12 : ∀ (x1 : Int) (S : zz_S), zz_G S → zz_fr [(1070, 3), (1070, 4), (1070, 5), (1070, 6), (1073, 4), (1073, 5), (1073, 8)] [1003, 1004, 1005, 1006, 1007, 1008, 1009, 1010, 1011, 1012, 1013, 1014, 1017, 1018, 1019, 1020, 1021, 1022, 1023, 1024, 1025, 1026, 1027, 1028] (fun _ _ => False) S0 S → (0 ≤ x1 ∧ x1 ≤ 1501) → (1500 + 1 - x1).toNat < R → zz_E g l zy_readOptions_8_7 zr_readOptions_8_7 (zz_QI n (zp_readOptions_8_7  S0)) S n 12 [some (.ref 1073), some (zi x1)] [] 0 0) : zz_E g l zy_readOptions_8_7 zr_readOptions_8_7 (zz_QI n (zp_readOptions_8_7  S0)) S n 12 [some (.ref 1073), some (zi x1)] [] 0 0 := by
  refine zz_iload_n (x := x1) rfl zd_8_7_12 ?_
  refine zz_sipush (by decide) zd_8_7_13 ?_
  refine zz_icmp_gt (by omega) (by omega) zd_8_7_16 (fun c3 => ?_) (fun c3 => ?_)
  · refine zz_iconst zd_8_7_107 ?_
    exact zz_zret zd_8_7_108 rfl (by omega) (Nat.zero_le _) (Nat.zero_le _) ⟨_, _, rfl, G_S, F_S, by omega⟩
  · refine zz_aload_n (x := 1073) rfl zd_8_7_19 ?_
    refine zz_getr (kd := 0) (z := 1070) zd_8_7_20 zf_NetworkReader_9 zT_1073 rfl (zz_ltn hn rfl) (zz_G.eq G_S 1073 0 1070 rfl rfl) (by decide) 1070 rfl ?_
    refine zz_callVV [] zd_8_7_23 zk_NetworkReader_59 zT_1070 (zz_ltn hn rfl) rfl rfl ⟨Nat.le_of_ble_eq_true rfl, Nat.le_of_ble_eq_true rfl⟩ ⟨rfl, rfl⟩ (Nat.zero_le _) (Nat.zero_le _) (zc_nextToken_11_7  S n hn G_S ) (fun S4 hP => ?_)
    obtain ⟨G_S4, fS4⟩ := hP
    have F_S4 := zz_fr.trans F_S fS4 rfl zz_nv
    refine zz_aload_n (x := 1073) rfl zd_8_7_26 ?_
    refine zz_getr (kd := 0) (z := 1070) zd_8_7_27 zf_NetworkReader_9 zT_1073 rfl (zz_ltn hn rfl) (zz_G.eq G_S4 1073 0 1070 rfl rfl) (by decide) 1070 rfl ?_
    have g6 := zz_G.r G_S4 1070 4 (-2147483648) 2147483647 rfl rfl
    refine zz_geti (z := S4 1070 4) zd_8_7_30 zf_NetworkReader_62 zT_1070 rfl (zz_ltn hn rfl) rfl ?_
    refine zz_if_ne (by omega) zd_8_7_33 (fun c7 => ?_) (fun c7 => ?_)
    · refine zz_aload_n (x := 1073) rfl zd_8_7_58 ?_
      refine zz_callVI [] zd_8_7_59 zk_NetworkReader_135 zT_1073 (zz_ltn hn rfl) rfl rfl ⟨Nat.le_of_ble_eq_true rfl, Nat.le_of_ble_eq_true rfl⟩ ⟨rfl, rfl⟩ (Nat.zero_le _) (Nat.zero_le _) (zc_optionTold_8_8  S4 n hn G_S4 ) (fun v9 S8 hP => ?_)
      obtain ⟨rfl, o10⟩ := hP
      refine zz_istore_n [some (.ref 1073), some (zi x1), some (zi v9)] zd_8_7_62 (by decide) rfl ?_
      refine zz_iload_n (x := v9) rfl zd_8_7_63 ?_
      refine zz_aload_n (x := 1073) rfl zd_8_7_64 ?_
      have g11 := zz_G.r G_S0 1073 6 (-2147483648) 2147483647 rfl rfl
      refine zz_geti (z := S0 1073 6) zd_8_7_65 zf_NetworkReader_35 zT_1073 rfl (zz_ltn hn rfl) (zz_rc fS4 rfl rfl (fun h => h) (zz_rc F_S rfl rfl (fun h => h) rfl)) ?_
      refine zz_iand (by omega) (by omega) zd_8_7_68 (fun v12 hv12 av12 bv12 ev12 => ?_)
      refine zz_if_eq (by omega) zd_8_7_69 (fun c13 => ?_) (fun c13 => ?_)
      · refine zz_iconst zd_8_7_89 ?_
        exact zz_zret zd_8_7_90 rfl (by omega) (Nat.zero_le _) (Nat.zero_le _) ⟨_, _, rfl, G_S4, F_S4, by omega⟩
      · refine zz_iload_n (x := v9) rfl zd_8_7_72 ?_
        refine zz_aload_n (x := 1073) rfl zd_8_7_73 ?_
        have g14 := zz_G.r G_S 1073 8 (-2147483648) 2147483647 rfl rfl
        refine zz_geti (z := S 1073 8) zd_8_7_74 zf_NetworkReader_41 zT_1073 rfl (zz_ltn hn rfl) (zz_rc fS4 rfl rfl (fun h => h) rfl) ?_
        refine zz_iand (by omega) (by omega) zd_8_7_77 (fun v15 hv15 av15 bv15 ev15 => ?_)
        refine zz_if_ne (by omega) zd_8_7_78 (fun c16 => ?_) (fun c16 => ?_)
        · refine zz_iconst zd_8_7_89 ?_
          exact zz_zret zd_8_7_90 rfl (by omega) (Nat.zero_le _) (Nat.zero_le _) ⟨_, _, rfl, G_S4, F_S4, by omega⟩
        · refine zz_aload_n (x := 1073) rfl zd_8_7_81 ?_
          refine zz_iload_n (x := v9) rfl zd_8_7_82 ?_
          refine zz_callVI [zi v9] zd_8_7_83 zk_NetworkReader_138 zT_1073 (zz_ltn hn rfl) rfl rfl ⟨Nat.le_of_ble_eq_true rfl, Nat.le_of_ble_eq_true rfl⟩ ⟨rfl, rfl⟩ (Nat.zero_le _) (Nat.zero_le _) (zc_readOption_8_9 v9 S4 n hn G_S4 (by omega)) (fun v18 S17 hP => ?_)
          obtain ⟨G_S17, fS17, o19⟩ := hP
          have g20 := zz_G.r G_S4 1073 1 0 1 rfl rfl
          have b21 := zz_G.r G_S4 (zz_rf 3 (S4 1073 1)) 1 1 11 (zR_k3_1 (by omega)) (zB_k3 (by omega))
          have F_S17 := zz_fr.trans F_S4 fS17 rfl (fun a i h => by rcases h with h | h | h | h | h | h | h | h; exact Or.inr (Or.inl (h.1 ▸ zM_k6 (z := (12 * (S4 1073 1) + S4 (zz_rf 3 (S4 1073 1)) 1)) (by omega) rfl)); exact Or.inr (Or.inl (h.1 ▸ zM_k6 (z := (12 * (S4 1073 1) + S4 (zz_rf 3 (S4 1073 1)) 1)) (by omega) rfl)); exact Or.inr (Or.inl (h.1 ▸ zM_k6 (z := (12 * (S4 1073 1) + S4 (zz_rf 3 (S4 1073 1)) 1)) (by omega) rfl)); exact Or.inr (Or.inl (h.1 ▸ zM_k6 (z := (12 * (S4 1073 1) + S4 (zz_rf 3 (S4 1073 1)) 1)) (by omega) rfl)); exact Or.inr (Or.inl (h.1 ▸ zM_k6 (z := (12 * (S4 1073 1) + S4 (zz_rf 3 (S4 1073 1)) 1)) (by omega) rfl)); exact Or.inr (Or.inl (h.1 ▸ zM_k6 (z := (12 * (S4 1073 1) + S4 (zz_rf 3 (S4 1073 1)) 1)) (by omega) rfl)); exact Or.inr (Or.inl (h.1 ▸ zM_k6 (z := (12 * (S4 1073 1) + S4 (zz_rf 3 (S4 1073 1)) 1)) (by omega) rfl)); exact Or.inr (Or.inl (h.1 ▸ zM_k6 (z := (12 * (S4 1073 1) + S4 (zz_rf 3 (S4 1073 1)) 1)) (by omega) rfl)))
          have b22 := zz_G.r G_S4 (zz_rf 3 (S4 1073 1)) 1 1 11 (zR_k3_1 (by omega)) (zB_k3 (by omega))
          have b23 := zz_rf6 (z := (12 * (S4 1073 1) + S4 (zz_rf 3 (S4 1073 1)) 1)) (by omega)
          rcases (by omega : v18 = 0 ∨ v18 = 1) with rfl | rfl
          · refine zz_if_ne (by omega) zd_8_7_86 (fun c24 => ?_) (fun c24 => ?_)
            · exfalso; omega
            · refine zz_iconst zd_8_7_89 ?_
              exact zz_zret zd_8_7_90 rfl (by omega) (Nat.zero_le _) (Nat.zero_le _) ⟨_, _, rfl, G_S17, F_S17, by omega⟩
          · refine zz_if_ne (by omega) zd_8_7_86 (fun c25 => ?_) (fun c25 => ?_)
            · refine zz_aload_n (x := 1073) rfl zd_8_7_91 ?_
              refine zz_dup rfl zd_8_7_92 ?_
              refine zz_geti (z := S 1073 8) zd_8_7_93 zf_NetworkReader_41 zT_1073 rfl (zz_ltn hn rfl) (zz_rc fS17 rfl rfl (by omega) (zz_rc fS4 rfl rfl (fun h => h) rfl)) ?_
              refine zz_iload_n (x := v9) rfl zd_8_7_96 ?_
              refine zz_ior (by omega) (by omega) zd_8_7_97 (fun v26 hv26 av26 ev26 => ?_)
              refine zz_puti zd_8_7_98 zf_NetworkReader_41 zT_1073 rfl (zz_ltn hn rfl) (fun S27 qS27 => ?_)
              have G_S27 := zz_G.put G_S17 qS27 (-2147483648) 2147483647 rfl (by omega)
              have F_S27 := zz_fr.puts F_S17 qS27 rfl
              refine zz_iinc [some (.ref 1073), some (zi (x1 + 1)), some (zi v9)] zd_8_7_101 rfl rfl ?_
              refine zz_goto zd_8_7_104 ?_
              refine zz_less (ls1 := [some (.ref 1073), some (zi (x1 + 1))]) ⟨rfl, ⟨rfl, trivial⟩⟩ ?_
              exact k12 (x1 + 1) S27 G_S27 F_S27 (by omega) (by omega)
            · exfalso; omega
    · refine zz_aload_n (x := 1073) rfl zd_8_7_36 ?_
      have g28 := zz_G.r G_S 1073 8 (-2147483648) 2147483647 rfl rfl
      refine zz_geti (z := S 1073 8) zd_8_7_37 zf_NetworkReader_41 zT_1073 rfl (zz_ltn hn rfl) (zz_rc fS4 rfl rfl (fun h => h) rfl) ?_
      refine zz_aload_n (x := 1073) rfl zd_8_7_40 ?_
      have g29 := zz_G.r G_S0 1073 7 (-2147483648) 2147483647 rfl rfl
      refine zz_geti (z := S0 1073 7) zd_8_7_41 zf_NetworkReader_38 zT_1073 rfl (zz_ltn hn rfl) (zz_rc fS4 rfl rfl (fun h => h) (zz_rc F_S rfl rfl (fun h => h) rfl)) ?_
      refine zz_iand (by omega) (by omega) zd_8_7_44 (fun v30 hv30 av30 bv30 ev30 => ?_)
      refine zz_aload_n (x := 1073) rfl zd_8_7_45 ?_
      refine zz_geti (z := S0 1073 7) zd_8_7_46 zf_NetworkReader_38 zT_1073 rfl (zz_ltn hn rfl) (zz_rc fS4 rfl rfl (fun h => h) (zz_rc F_S rfl rfl (fun h => h) rfl)) ?_
      refine zz_icmp_ne (by omega) (by omega) zd_8_7_49 (fun c31 => ?_) (fun c31 => ?_)
      · refine zz_iconst zd_8_7_56 ?_
        exact zz_zret zd_8_7_57 rfl (by omega) (Nat.zero_le _) (Nat.zero_le _) ⟨_, _, rfl, G_S4, F_S4, by omega⟩
      · refine zz_iconst zd_8_7_52 ?_
        refine zz_goto zd_8_7_53 ?_
        exact zz_zret zd_8_7_57 rfl (by omega) (Nat.zero_le _) (Nat.zero_le _) ⟨_, _, rfl, G_S4, F_S4, by omega⟩
theorem zi_readOptions_8_7 {g : mm_G} {l : Launch}  (S0 : zz_S) (n : Nat) (hn : zz_end ≤ n) (G_S0 : zz_G S0)  : ∀ N : Nat, (∀ (x1 : Int) (S : zz_S), zz_G S → zz_fr [(1070, 3), (1070, 4), (1070, 5), (1070, 6), (1073, 4), (1073, 5), (1073, 8)] [1003, 1004, 1005, 1006, 1007, 1008, 1009, 1010, 1011, 1012, 1013, 1014, 1017, 1018, 1019, 1020, 1021, 1022, 1023, 1024, 1025, 1026, 1027, 1028] (fun _ _ => False) S0 S → (0 ≤ x1 ∧ x1 ≤ 1501) → (1500 + 1 - x1).toNat < N → zz_E g l zy_readOptions_8_7 zr_readOptions_8_7 (zz_QI n (zp_readOptions_8_7  S0)) S n 12 [some (.ref 1073), some (zi x1)] [] 0 0) := by
  intro N
  induction N with
  | zero => exact fun x1 S _ _ _ h => absurd h (Nat.not_lt_zero _)
  | succ N ih =>
    exact fun x1 S a b j0 hR => zb_readOptions_8_7_12  S0 n hn G_S0  x1 S a b j0 _ rfl (fun x1 S a b j0 h => ih x1 S a b j0 (Nat.lt_of_lt_of_le h (Nat.le_of_lt_succ hR)))
theorem zc_readOptions_8_7 {g : mm_G} {l : Launch}  (S0 : zz_S) (n : Nat) (hn : zz_end ≤ n) (G_S0 : zz_G S0)  : mm_Met g l zy_readOptions_8_7 zr_readOptions_8_7 [.ref 1073] (zz_M S0 n) n (zz_QI n (zp_readOptions_8_7  S0)) := by
  refine zz_enter (by decide) (Nat.le_of_ble_eq_true rfl) (zz_less (ls1 := [some (.ref 1073)]) ⟨rfl, trivial⟩ ?_)
  have F_S0 : zz_fr [(1070, 3), (1070, 4), (1070, 5), (1070, 6), (1073, 4), (1073, 5), (1073, 8)] [1003, 1004, 1005, 1006, 1007, 1008, 1009, 1010, 1011, 1012, 1013, 1014, 1017, 1018, 1019, 1020, 1021, 1022, 1023, 1024, 1025, 1026, 1027, 1028] (fun _ _ => False) S0 S0 := zz_fr.refl
  have k12 : ∀ (x1 : Int) (S : zz_S), zz_G S → zz_fr [(1070, 3), (1070, 4), (1070, 5), (1070, 6), (1073, 4), (1073, 5), (1073, 8)] [1003, 1004, 1005, 1006, 1007, 1008, 1009, 1010, 1011, 1012, 1013, 1014, 1017, 1018, 1019, 1020, 1021, 1022, 1023, 1024, 1025, 1026, 1027, 1028] (fun _ _ => False) S0 S → (0 ≤ x1 ∧ x1 ≤ 1501) → zz_E g l zy_readOptions_8_7 zr_readOptions_8_7 (zz_QI n (zp_readOptions_8_7  S0)) S n 12 [some (.ref 1073), some (zi x1)] [] 0 0 := fun x1 S a b j0 => (zi_readOptions_8_7 (g := g) (l := l)  S0 n hn G_S0  _) x1 S a b j0 (Nat.lt_succ_self _)
  refine zz_aload_n (x := 1073) rfl zd_8_7_0 ?_
  refine zz_iconst zd_8_7_1 ?_
  refine zz_puti zd_8_7_2 zf_NetworkReader_41 zT_1073 rfl (zz_ltn hn rfl) (fun S1 qS1 => ?_)
  have G_S1 := zz_G.put G_S0 qS1 (-2147483648) 2147483647 rfl (by omega)
  have F_S1 := zz_fr.puts F_S0 qS1 rfl
  refine zz_aload_n (x := 1073) rfl zd_8_7_5 ?_
  refine zz_iconst zd_8_7_6 ?_
  refine zz_puti zd_8_7_7 zf_NetworkReader_32 zT_1073 rfl (zz_ltn hn rfl) (fun S2 qS2 => ?_)
  have G_S2 := zz_G.put G_S1 qS2 (-1500) 1500 rfl (by omega)
  have F_S2 := zz_fr.puts F_S1 qS2 rfl
  refine zz_iconst zd_8_7_10 ?_
  refine zz_istore_n [some (.ref 1073), some (zi 0)] zd_8_7_11 (by decide) rfl ?_
  refine zz_less (ls1 := [some (.ref 1073), some (zi 0)]) ⟨rfl, ⟨rfl, trivial⟩⟩ ?_
  exact k12 0 S2 G_S2 F_S2 (by omega)
theorem zk_NetworkReader_68 : mm_Vl "TensorForge$NetworkReader" 68 8 0 zy_readOptions_8_7 := ⟨zyw_readOptions_8_7, (R_NetworkReader, F_NetworkReader, 9), rfl, mm_tb_1 945 (by decide +kernel) rfl, mm_tb_1 947 (by decide +kernel) rfl, mm_tb_s 44 (by decide +kernel) rfl⟩
theorem zd_8_2_105 : zz_B zy_readInto_8_2 105 (Instr.ifCond .eq) 112 108 := ⟨7, by decide +kernel, rfl, rfl⟩
theorem zd_8_2_108 : zz_D zy_readInto_8_2 108 (.iconst 1) 1 109 := ⟨by decide +kernel, rfl⟩
theorem zd_8_2_109 : zz_B zy_readInto_8_2 109 Instr.goto 113 112 := ⟨4, by decide +kernel, rfl, rfl⟩
theorem zd_8_2_122 : zz_D zy_readInto_8_2 122 (.iconst 1) 1 123 := ⟨by decide +kernel, rfl⟩
theorem zd_8_2_123 : zz_D zy_readInto_8_2 123 (.istore_n 2) 1 124 := ⟨by decide +kernel, rfl⟩
theorem zd_8_2_124 : zz_D zy_readInto_8_2 124 (.aload_n 0) 1 125 := ⟨by decide +kernel, rfl⟩
theorem zd_8_2_125 : zz_D zy_readInto_8_2 125 (.aload_n 0) 1 126 := ⟨by decide +kernel, rfl⟩
theorem zd_8_2_126 : zz_D zy_readInto_8_2 126 (.getfield 15) 3 129 := ⟨by decide +kernel, rfl⟩
theorem zd_8_2_129 : zz_D zy_readInto_8_2 129 (.getfield 78) 3 132 := ⟨by decide +kernel, rfl⟩
theorem zf_NetworkReader_78 : mm_Fl "TensorForge$NetworkReader" 78 1 1 .int false := ⟨R_Network, F_Network, 2, t_Network, rfl, i_Network, by decide, mm_tb_1 147 (by decide +kernel) rfl, rfl, t_Network_ok, n_Network, rfl, by decide +kernel⟩
theorem zd_8_2_132 : zz_D zy_readInto_8_2 132 (.iconst 1) 1 133 := ⟨by decide +kernel, rfl⟩
theorem zd_8_2_133 : zz_D zy_readInto_8_2 133 (.isub) 1 134 := ⟨by decide +kernel, rfl⟩
theorem zd_8_2_134 : zz_D zy_readInto_8_2 134 (.invokevirtual 81) 3 137 := ⟨by decide +kernel, rfl⟩
abbrev zy_keepName_8_13 : mm_Y := (⟨"TensorForge$NetworkReader", "keepName", "(I)V"⟩, prog_8_method_13_code, 2, none)
theorem zyw_keepName_8_13 : mm_Yw zy_keepName_8_13 1 := ⟨mm_tb_1 1039 (by decide +kernel) rfl, mm_tb_1 9 (by decide +kernel) rfl, ⟨by decide, by decide⟩, by decide +kernel⟩
theorem zd_8_13_0 : zz_D zy_keepName_8_13 0 (.iload_n 1) 1 1 := ⟨by decide +kernel, rfl⟩
theorem zd_8_13_1 : zz_B zy_keepName_8_13 1 (Instr.ifCond .lt) 33 4 := ⟨32, by decide +kernel, rfl, rfl⟩
theorem zd_8_13_33 : zz_D zy_keepName_8_13 33 (.return_) 1 34 := ⟨by decide +kernel, rfl⟩
theorem zd_8_13_4 : zz_D zy_keepName_8_13 4 (.iload_n 1) 1 5 := ⟨by decide +kernel, rfl⟩
theorem zd_8_13_5 : zz_D zy_keepName_8_13 5 (.aload_n 0) 1 6 := ⟨by decide +kernel, rfl⟩
theorem zd_8_13_6 : zz_D zy_keepName_8_13 6 (.getfield 25) 3 9 := ⟨by decide +kernel, rfl⟩
theorem zd_8_13_9 : zz_D zy_keepName_8_13 9 (.arraylength) 1 10 := ⟨by decide +kernel, rfl⟩
theorem zd_8_13_10 : zz_B zy_keepName_8_13 10 (Instr.if_icmp .ge) 33 13 := ⟨23, by decide +kernel, rfl, rfl⟩
theorem zd_8_13_13 : zz_D zy_keepName_8_13 13 (.aload_n 0) 1 14 := ⟨by decide +kernel, rfl⟩
theorem zd_8_13_14 : zz_D zy_keepName_8_13 14 (.getfield 21) 3 17 := ⟨by decide +kernel, rfl⟩
theorem zd_8_13_17 : zz_D zy_keepName_8_13 17 (.iload_n 1) 1 18 := ⟨by decide +kernel, rfl⟩
theorem zd_8_13_18 : zz_D zy_keepName_8_13 18 (.aload_n 0) 1 19 := ⟨by decide +kernel, rfl⟩
theorem zd_8_13_19 : zz_D zy_keepName_8_13 19 (.getfield 28) 3 22 := ⟨by decide +kernel, rfl⟩
theorem zd_8_13_22 : zz_D zy_keepName_8_13 22 (.iastore) 1 23 := ⟨by decide +kernel, rfl⟩
theorem zd_8_13_23 : zz_D zy_keepName_8_13 23 (.aload_n 0) 1 24 := ⟨by decide +kernel, rfl⟩
theorem zd_8_13_24 : zz_D zy_keepName_8_13 24 (.getfield 25) 3 27 := ⟨by decide +kernel, rfl⟩
theorem zd_8_13_27 : zz_D zy_keepName_8_13 27 (.iload_n 1) 1 28 := ⟨by decide +kernel, rfl⟩
theorem zd_8_13_28 : zz_D zy_keepName_8_13 28 (.aload_n 0) 1 29 := ⟨by decide +kernel, rfl⟩
theorem zd_8_13_29 : zz_D zy_keepName_8_13 29 (.getfield 32) 3 32 := ⟨by decide +kernel, rfl⟩
theorem zd_8_13_32 : zz_D zy_keepName_8_13 32 (.iastore) 1 33 := ⟨by decide +kernel, rfl⟩
-- TensorForge$NetworkReader keepName (I)V
abbrev zr_keepName_8_13 : Room := { frames := 0, cells := 0, slots := 0, locals := 0 }
def zp_keepName_8_13 (p0 : Int) (S0 : zz_S) : zz_S → Prop := fun S => zz_G S ∧ zz_fr [] [1074, 1075] (fun _ _ => False) S0 S
theorem zc_keepName_8_13 {g : mm_G} {l : Launch} (p0 : Int) (S0 : zz_S) (n : Nat) (hn : zz_end ≤ n) (G_S0 : zz_G S0) (hp0 : (-2147483648) ≤ p0 ∧ p0 ≤ 2147483647) : mm_Met g l zy_keepName_8_13 zr_keepName_8_13 [.ref 1073, zi p0] (zz_M S0 n) n (zz_QV n (zp_keepName_8_13 p0 S0)) := by
  refine zz_enter (by decide) (Nat.le_of_ble_eq_true rfl) (zz_less (ls1 := [some (.ref 1073), some (zi p0)]) ⟨rfl, ⟨rfl, trivial⟩⟩ ?_)
  have F_S0 : zz_fr [] [1074, 1075] (fun _ _ => False) S0 S0 := zz_fr.refl
  refine zz_iload_n (x := p0) rfl zd_8_13_0 ?_
  refine zz_if_lt (by omega) zd_8_13_1 (fun c1 => ?_) (fun c1 => ?_)
  · exact zz_vret zd_8_13_33 rfl (Nat.zero_le _) (Nat.zero_le _) ⟨_, rfl, G_S0, F_S0⟩
  · refine zz_iload_n (x := p0) rfl zd_8_13_4 ?_
    refine zz_aload_n (x := 1073) rfl zd_8_13_5 ?_
    refine zz_getr (kd := 0) (z := 1075) zd_8_13_6 zf_NetworkReader_25 zT_1073 rfl (zz_ltn hn rfl) (zz_G.eq G_S0 1073 3 1075 rfl rfl) (by decide) 1075 rfl ?_
    refine zz_alen zd_8_13_9 zT_1075 rfl (zz_ltn hn rfl) ?_
    refine zz_icmp_ge (by omega) (by omega) zd_8_13_10 (fun c2 => ?_) (fun c2 => ?_)
    · exact zz_vret zd_8_13_33 rfl (Nat.zero_le _) (Nat.zero_le _) ⟨_, rfl, G_S0, F_S0⟩
    · refine zz_aload_n (x := 1073) rfl zd_8_13_13 ?_
      refine zz_getr (kd := 0) (z := 1074) zd_8_13_14 zf_NetworkReader_21 zT_1073 rfl (zz_ltn hn rfl) (zz_G.eq G_S0 1073 2 1074 rfl rfl) (by decide) 1074 rfl ?_
      refine zz_iload_n (x := p0) rfl zd_8_13_17 ?_
      refine zz_aload_n (x := 1073) rfl zd_8_13_18 ?_
      have g3 := zz_G.r G_S0 1073 4 0 1500 rfl rfl
      refine zz_geti (z := S0 1073 4) zd_8_13_19 zf_NetworkReader_28 zT_1073 rfl (zz_ltn hn rfl) rfl ?_
      refine zz_iast zd_8_13_22 zT_1074 rfl (zz_ltn hn rfl) (by decide) (by omega) (fun S4 qS4 => ?_)
      have G_S4 := zz_G.put G_S0 qS4 0 1500 rfl (by omega)
      have F_S4 := zz_fr.putc F_S0 qS4 rfl
      refine zz_aload_n (x := 1073) rfl zd_8_13_23 ?_
      refine zz_getr (kd := 0) (z := 1075) zd_8_13_24 zf_NetworkReader_25 zT_1073 rfl (zz_ltn hn rfl) (zz_G.eq G_S4 1073 3 1075 rfl rfl) (by decide) 1075 rfl ?_
      refine zz_iload_n (x := p0) rfl zd_8_13_27 ?_
      refine zz_aload_n (x := 1073) rfl zd_8_13_28 ?_
      have g5 := zz_G.r G_S0 1073 5 (-1500) 1500 rfl rfl
      refine zz_geti (z := S0 1073 5) zd_8_13_29 zf_NetworkReader_32 zT_1073 rfl (zz_ltn hn rfl) (zz_ro qS4 (fun h => absurd h.1 (by decide)) rfl) ?_
      refine zz_iast zd_8_13_32 zT_1075 rfl (zz_ltn hn rfl) (by decide) (by omega) (fun S6 qS6 => ?_)
      have G_S6 := zz_G.put G_S4 qS6 (-1500) 1500 rfl (by omega)
      have F_S6 := zz_fr.putc F_S4 qS6 rfl
      exact zz_vret zd_8_13_33 rfl (Nat.zero_le _) (Nat.zero_le _) ⟨_, rfl, G_S6, F_S6⟩
theorem zk_NetworkReader_81 : mm_Vl "TensorForge$NetworkReader" 81 8 1 zy_keepName_8_13 := ⟨zyw_keepName_8_13, (R_NetworkReader, F_NetworkReader, 9), rfl, mm_tb_1 1036 (by decide +kernel) rfl, mm_tb_1 1038 (by decide +kernel) rfl, mm_tb_s 52 (by decide +kernel) rfl⟩
theorem zd_8_2_147 : zz_D zy_readInto_8_2 147 (.iconst (-1)) 1 148 := ⟨by decide +kernel, rfl⟩
theorem zd_8_2_148 : zz_B zy_readInto_8_2 148 Instr.goto 152 151 := ⟨4, by decide +kernel, rfl, rfl⟩
theorem zd_8_2_62 : zz_D zy_readInto_8_2 62 (.aload_n 0) 1 63 := ⟨by decide +kernel, rfl⟩
theorem zd_8_2_63 : zz_D zy_readInto_8_2 63 (.invokevirtual 65) 3 66 := ⟨by decide +kernel, rfl⟩
abbrev zy_readLayer_8_4 : mm_Y := (⟨"TensorForge$NetworkReader", "readLayer", "()Z"⟩, prog_8_method_4_code, 4, (some .boolean))
theorem zyw_readLayer_8_4 : mm_Yw zy_readLayer_8_4 0 := ⟨mm_tb_1 923 (by decide +kernel) rfl, mm_tb_1 9 (by decide +kernel) rfl, ⟨by decide, by decide⟩, by decide +kernel⟩
theorem zd_8_4_0 : zz_D zy_readLayer_8_4 0 (.aload_n 0) 1 1 := ⟨by decide +kernel, rfl⟩
theorem zd_8_4_1 : zz_D zy_readLayer_8_4 1 (.getfield 9) 3 4 := ⟨by decide +kernel, rfl⟩
theorem zd_8_4_4 : zz_D zy_readLayer_8_4 4 (.ldc 110) 2 6 := ⟨by decide +kernel, rfl⟩
theorem zd_8_4_6 : zz_D zy_readLayer_8_4 6 (.invokevirtual 87) 3 9 := ⟨by decide +kernel, rfl⟩
theorem zd_8_4_9 : zz_B zy_readLayer_8_4 9 (Instr.ifCond .eq) 30 12 := ⟨21, by decide +kernel, rfl, rfl⟩
theorem zd_8_4_30 : zz_D zy_readLayer_8_4 30 (.aload_n 0) 1 31 := ⟨by decide +kernel, rfl⟩
theorem zd_8_4_31 : zz_D zy_readLayer_8_4 31 (.getfield 9) 3 34 := ⟨by decide +kernel, rfl⟩
theorem zd_8_4_34 : zz_D zy_readLayer_8_4 34 (.ldc 114) 2 36 := ⟨by decide +kernel, rfl⟩
theorem zd_8_4_36 : zz_D zy_readLayer_8_4 36 (.invokevirtual 87) 3 39 := ⟨by decide +kernel, rfl⟩
theorem zd_8_4_39 : zz_B zy_readLayer_8_4 39 (Instr.ifCond .eq) 59 42 := ⟨20, by decide +kernel, rfl, rfl⟩
theorem zd_8_4_59 : zz_D zy_readLayer_8_4 59 (.aload_n 0) 1 60 := ⟨by decide +kernel, rfl⟩
theorem zd_8_4_60 : zz_D zy_readLayer_8_4 60 (.getfield 9) 3 63 := ⟨by decide +kernel, rfl⟩
theorem zd_8_4_63 : zz_D zy_readLayer_8_4 63 (.ldc 116) 2 65 := ⟨by decide +kernel, rfl⟩
theorem zd_8_4_65 : zz_D zy_readLayer_8_4 65 (.invokevirtual 87) 3 68 := ⟨by decide +kernel, rfl⟩
theorem zd_8_4_68 : zz_B zy_readLayer_8_4 68 (Instr.ifCond .eq) 88 71 := ⟨20, by decide +kernel, rfl, rfl⟩
theorem zd_8_4_88 : zz_D zy_readLayer_8_4 88 (.iconst 0) 1 89 := ⟨by decide +kernel, rfl⟩
theorem zd_8_4_89 : zz_D zy_readLayer_8_4 89 (.ireturn) 1 90 := ⟨by decide +kernel, rfl⟩
theorem zd_8_4_71 : zz_D zy_readLayer_8_4 71 (.iconst 3) 1 72 := ⟨by decide +kernel, rfl⟩
theorem zd_8_4_72 : zz_D zy_readLayer_8_4 72 (.istore_n 1) 1 73 := ⟨by decide +kernel, rfl⟩
theorem zd_8_4_73 : zz_D zy_readLayer_8_4 73 (.aload_n 0) 1 74 := ⟨by decide +kernel, rfl⟩
theorem zd_8_4_74 : zz_D zy_readLayer_8_4 74 (.sipush 224) 3 77 := ⟨by decide +kernel, rfl⟩
theorem zd_8_4_77 : zz_D zy_readLayer_8_4 77 (.putfield 35) 3 80 := ⟨by decide +kernel, rfl⟩
theorem zd_8_4_80 : zz_D zy_readLayer_8_4 80 (.aload_n 0) 1 81 := ⟨by decide +kernel, rfl⟩
theorem zd_8_4_81 : zz_D zy_readLayer_8_4 81 (.iconst 0) 1 82 := ⟨by decide +kernel, rfl⟩
theorem zd_8_4_82 : zz_D zy_readLayer_8_4 82 (.putfield 38) 3 85 := ⟨by decide +kernel, rfl⟩
theorem zd_8_4_85 : zz_B zy_readLayer_8_4 85 Instr.goto 90 88 := ⟨5, by decide +kernel, rfl, rfl⟩
theorem zd_8_4_90 : zz_D zy_readLayer_8_4 90 (.aload_n 0) 1 91 := ⟨by decide +kernel, rfl⟩
theorem zd_8_4_91 : zz_D zy_readLayer_8_4 91 (.invokevirtual 118) 3 94 := ⟨by decide +kernel, rfl⟩
abbrev zy_readTensor_8_5 : mm_Y := (⟨"TensorForge$NetworkReader", "readTensor", "()I"⟩, prog_8_method_5_code, 1, (some .int))
theorem zyw_readTensor_8_5 : mm_Yw zy_readTensor_8_5 0 := ⟨mm_tb_1 931 (by decide +kernel) rfl, mm_tb_1 9 (by decide +kernel) rfl, ⟨by decide, by decide⟩, by decide +kernel⟩
theorem zd_8_5_0 : zz_D zy_readTensor_8_5 0 (.aload_n 0) 1 1 := ⟨by decide +kernel, rfl⟩
theorem zd_8_5_1 : zz_D zy_readTensor_8_5 1 (.getfield 9) 3 4 := ⟨by decide +kernel, rfl⟩
theorem zd_8_5_4 : zz_D zy_readTensor_8_5 4 (.invokevirtual 59) 3 7 := ⟨by decide +kernel, rfl⟩
theorem zd_8_5_7 : zz_D zy_readTensor_8_5 7 (.aload_n 0) 1 8 := ⟨by decide +kernel, rfl⟩
theorem zd_8_5_8 : zz_D zy_readTensor_8_5 8 (.getfield 9) 3 11 := ⟨by decide +kernel, rfl⟩
theorem zd_8_5_11 : zz_D zy_readTensor_8_5 11 (.getfield 62) 3 14 := ⟨by decide +kernel, rfl⟩
theorem zd_8_5_14 : zz_D zy_readTensor_8_5 14 (.iconst 2) 1 15 := ⟨by decide +kernel, rfl⟩
theorem zd_8_5_15 : zz_B zy_readTensor_8_5 15 (Instr.if_icmp .ne) 26 18 := ⟨11, by decide +kernel, rfl, rfl⟩
theorem zd_8_5_26 : zz_D zy_readTensor_8_5 26 (.aload_n 0) 1 27 := ⟨by decide +kernel, rfl⟩
theorem zd_8_5_27 : zz_D zy_readTensor_8_5 27 (.getfield 9) 3 30 := ⟨by decide +kernel, rfl⟩
theorem zd_8_5_30 : zz_D zy_readTensor_8_5 30 (.getfield 62) 3 33 := ⟨by decide +kernel, rfl⟩
theorem zd_8_5_33 : zz_D zy_readTensor_8_5 33 (.iconst 1) 1 34 := ⟨by decide +kernel, rfl⟩
theorem zd_8_5_34 : zz_B zy_readTensor_8_5 34 (Instr.if_icmp .ne) 44 37 := ⟨10, by decide +kernel, rfl, rfl⟩
theorem zd_8_5_44 : zz_D zy_readTensor_8_5 44 (.iconst (-1)) 1 45 := ⟨by decide +kernel, rfl⟩
theorem zd_8_5_45 : zz_D zy_readTensor_8_5 45 (.ireturn) 1 46 := ⟨by decide +kernel, rfl⟩
theorem zd_8_5_37 : zz_D zy_readTensor_8_5 37 (.aload_n 0) 1 38 := ⟨by decide +kernel, rfl⟩
theorem zd_8_5_38 : zz_D zy_readTensor_8_5 38 (.invokevirtual 128) 3 41 := ⟨by decide +kernel, rfl⟩
theorem zd_8_5_41 : zz_B zy_readTensor_8_5 41 Instr.goto 45 44 := ⟨4, by decide +kernel, rfl, rfl⟩
theorem zd_8_5_18 : zz_D zy_readTensor_8_5 18 (.aload_n 0) 1 19 := ⟨by decide +kernel, rfl⟩
theorem zd_8_5_19 : zz_D zy_readTensor_8_5 19 (.getfield 9) 3 22 := ⟨by decide +kernel, rfl⟩
theorem zd_8_5_22 : zz_D zy_readTensor_8_5 22 (.getfield 94) 3 25 := ⟨by decide +kernel, rfl⟩
theorem zd_8_5_25 : zz_D zy_readTensor_8_5 25 (.ireturn) 1 26 := ⟨by decide +kernel, rfl⟩
-- TensorForge$NetworkReader readTensor ()I
abbrev zr_readTensor_8_5 : Room := { frames := 2, cells := 0, slots := 0, locals := 28 }
def zp_readTensor_8_5  (S0 : zz_S) : Int → zz_S → Prop := fun r S => zz_G S ∧ zz_fr [(1070, 3), (1070, 4), (1070, 5), (1070, 6)] [] (fun _ _ => False) S0 S ∧ ((-2147483648) ≤ r ∧ r ≤ 2147483647)
theorem zc_readTensor_8_5 {g : mm_G} {l : Launch}  (S0 : zz_S) (n : Nat) (hn : zz_end ≤ n) (G_S0 : zz_G S0)  : mm_Met g l zy_readTensor_8_5 zr_readTensor_8_5 [.ref 1073] (zz_M S0 n) n (zz_QI n (zp_readTensor_8_5  S0)) := by
  refine zz_enter (by decide) (Nat.le_of_ble_eq_true rfl) (zz_less (ls1 := [some (.ref 1073)]) ⟨rfl, trivial⟩ ?_)
  have F_S0 : zz_fr [(1070, 3), (1070, 4), (1070, 5), (1070, 6)] [] (fun _ _ => False) S0 S0 := zz_fr.refl
  refine zz_aload_n (x := 1073) rfl zd_8_5_0 ?_
  refine zz_getr (kd := 0) (z := 1070) zd_8_5_1 zf_NetworkReader_9 zT_1073 rfl (zz_ltn hn rfl) (zz_G.eq G_S0 1073 0 1070 rfl rfl) (by decide) 1070 rfl ?_
  refine zz_callVV [] zd_8_5_4 zk_NetworkReader_59 zT_1070 (zz_ltn hn rfl) rfl rfl ⟨Nat.le_of_ble_eq_true rfl, Nat.le_of_ble_eq_true rfl⟩ ⟨rfl, rfl⟩ (Nat.zero_le _) (Nat.zero_le _) (zc_nextToken_11_7  S0 n hn G_S0 ) (fun S1 hP => ?_)
  obtain ⟨G_S1, fS1⟩ := hP
  have F_S1 := zz_fr.trans F_S0 fS1 rfl zz_nv
  refine zz_aload_n (x := 1073) rfl zd_8_5_7 ?_
  refine zz_getr (kd := 0) (z := 1070) zd_8_5_8 zf_NetworkReader_9 zT_1073 rfl (zz_ltn hn rfl) (zz_G.eq G_S1 1073 0 1070 rfl rfl) (by decide) 1070 rfl ?_
  have g3 := zz_G.r G_S1 1070 4 (-2147483648) 2147483647 rfl rfl
  refine zz_geti (z := S1 1070 4) zd_8_5_11 zf_NetworkReader_62 zT_1070 rfl (zz_ltn hn rfl) rfl ?_
  refine zz_iconst zd_8_5_14 ?_
  refine zz_icmp_ne (by omega) (by omega) zd_8_5_15 (fun c4 => ?_) (fun c4 => ?_)
  · refine zz_aload_n (x := 1073) rfl zd_8_5_26 ?_
    refine zz_getr (kd := 0) (z := 1070) zd_8_5_27 zf_NetworkReader_9 zT_1073 rfl (zz_ltn hn rfl) (zz_G.eq G_S1 1073 0 1070 rfl rfl) (by decide) 1070 rfl ?_
    refine zz_geti (z := S1 1070 4) zd_8_5_30 zf_NetworkReader_62 zT_1070 rfl (zz_ltn hn rfl) rfl ?_
    refine zz_iconst zd_8_5_33 ?_
    refine zz_icmp_ne (by omega) (by omega) zd_8_5_34 (fun c5 => ?_) (fun c5 => ?_)
    · refine zz_iconst zd_8_5_44 ?_
      exact zz_iret zd_8_5_45 rfl (Nat.zero_le _) (Nat.zero_le _) ⟨_, _, rfl, G_S1, F_S1, by omega⟩
    · refine zz_aload_n (x := 1073) rfl zd_8_5_37 ?_
      refine zz_callVI [] zd_8_5_38 zk_NetworkReader_128 zT_1073 (zz_ltn hn rfl) rfl rfl ⟨Nat.le_of_ble_eq_true rfl, Nat.le_of_ble_eq_true rfl⟩ ⟨rfl, rfl⟩ (Nat.zero_le _) (Nat.zero_le _) (zc_tensorNamed_8_6  S1 n hn G_S1 ) (fun v7 S6 hP => ?_)
      obtain ⟨rfl, o8⟩ := hP
      refine zz_goto zd_8_5_41 ?_
      exact zz_iret zd_8_5_45 rfl (Nat.zero_le _) (Nat.zero_le _) ⟨_, _, rfl, G_S1, F_S1, by omega⟩
  · refine zz_aload_n (x := 1073) rfl zd_8_5_18 ?_
    refine zz_getr (kd := 0) (z := 1070) zd_8_5_19 zf_NetworkReader_9 zT_1073 rfl (zz_ltn hn rfl) (zz_G.eq G_S1 1073 0 1070 rfl rfl) (by decide) 1070 rfl ?_
    have g9 := zz_G.r G_S1 1070 6 (-2147483648) 2147483647 rfl rfl
    refine zz_geti (z := S1 1070 6) zd_8_5_22 zf_NetworkReader_94 zT_1070 rfl (zz_ltn hn rfl) rfl ?_
    exact zz_iret zd_8_5_25 rfl (Nat.zero_le _) (Nat.zero_le _) ⟨_, _, rfl, G_S1, F_S1, by omega⟩
theorem zk_NetworkReader_118 : mm_Vl "TensorForge$NetworkReader" 118 8 0 zy_readTensor_8_5 := ⟨zyw_readTensor_8_5, (R_NetworkReader, F_NetworkReader, 9), rfl, mm_tb_1 928 (by decide +kernel) rfl, mm_tb_1 930 (by decide +kernel) rfl, mm_tb_s 42 (by decide +kernel) rfl⟩
theorem zd_8_4_94 : zz_D zy_readLayer_8_4 94 (.istore_n 2) 1 95 := ⟨by decide +kernel, rfl⟩
theorem zd_8_4_95 : zz_D zy_readLayer_8_4 95 (.iload_n 1) 1 96 := ⟨by decide +kernel, rfl⟩
theorem zd_8_4_96 : zz_D zy_readLayer_8_4 96 (.iconst 3) 1 97 := ⟨by decide +kernel, rfl⟩
theorem zd_8_4_97 : zz_B zy_readLayer_8_4 97 (Instr.if_icmp .ne) 107 100 := ⟨10, by decide +kernel, rfl, rfl⟩
theorem zd_8_4_100 : zz_D zy_readLayer_8_4 100 (.aload_n 0) 1 101 := ⟨by decide +kernel, rfl⟩
theorem zd_8_4_101 : zz_D zy_readLayer_8_4 101 (.invokevirtual 118) 3 104 := ⟨by decide +kernel, rfl⟩
theorem zd_8_4_104 : zz_B zy_readLayer_8_4 104 Instr.goto 108 107 := ⟨4, by decide +kernel, rfl, rfl⟩
theorem zd_8_4_108 : zz_D zy_readLayer_8_4 108 (.istore_n 3) 1 109 := ⟨by decide +kernel, rfl⟩
theorem zd_8_4_109 : zz_D zy_readLayer_8_4 109 (.aload_n 0) 1 110 := ⟨by decide +kernel, rfl⟩
theorem zd_8_4_110 : zz_D zy_readLayer_8_4 110 (.getfield 15) 3 113 := ⟨by decide +kernel, rfl⟩
theorem zd_8_4_113 : zz_D zy_readLayer_8_4 113 (.invokevirtual 121) 3 116 := ⟨by decide +kernel, rfl⟩
theorem zd_8_4_116 : zz_D zy_readLayer_8_4 116 (.iload_n 1) 1 117 := ⟨by decide +kernel, rfl⟩
theorem zd_8_4_117 : zz_D zy_readLayer_8_4 117 (.iload_n 2) 1 118 := ⟨by decide +kernel, rfl⟩
theorem zd_8_4_118 : zz_D zy_readLayer_8_4 118 (.iload_n 3) 1 119 := ⟨by decide +kernel, rfl⟩
theorem zd_8_4_119 : zz_D zy_readLayer_8_4 119 (.invokevirtual 125) 3 122 := ⟨by decide +kernel, rfl⟩
theorem zk_NetworkReader_125 : mm_Vl "TensorForge$NetworkReader" 125 2 3 zy_reset_4_2 := ⟨zyw_reset_4_2, (R_Layer, F_Layer, 15), rfl, mm_tb_1 944 (by decide +kernel) rfl, mm_tb_1 50 (by decide +kernel) rfl, mm_tb_1 51 (by decide +kernel) rfl⟩
theorem zd_8_4_122 : zz_D zy_readLayer_8_4 122 (.iload_n 2) 1 123 := ⟨by decide +kernel, rfl⟩
theorem zd_8_4_123 : zz_D zy_readLayer_8_4 123 (.iconst (-1)) 1 124 := ⟨by decide +kernel, rfl⟩
theorem zd_8_4_124 : zz_B zy_readLayer_8_4 124 (Instr.if_icmp .eq) 136 127 := ⟨12, by decide +kernel, rfl, rfl⟩
theorem zd_8_4_136 : zz_D zy_readLayer_8_4 136 (.iconst 0) 1 137 := ⟨by decide +kernel, rfl⟩
theorem zd_8_4_137 : zz_D zy_readLayer_8_4 137 (.ireturn) 1 138 := ⟨by decide +kernel, rfl⟩
theorem zd_8_4_127 : zz_D zy_readLayer_8_4 127 (.iload_n 3) 1 128 := ⟨by decide +kernel, rfl⟩
theorem zd_8_4_128 : zz_D zy_readLayer_8_4 128 (.iconst (-1)) 1 129 := ⟨by decide +kernel, rfl⟩
theorem zd_8_4_129 : zz_B zy_readLayer_8_4 129 (Instr.if_icmp .eq) 136 132 := ⟨7, by decide +kernel, rfl, rfl⟩
theorem zd_8_4_132 : zz_D zy_readLayer_8_4 132 (.iconst 1) 1 133 := ⟨by decide +kernel, rfl⟩
theorem zd_8_4_133 : zz_B zy_readLayer_8_4 133 Instr.goto 137 136 := ⟨4, by decide +kernel, rfl, rfl⟩
theorem zd_8_4_42 : zz_D zy_readLayer_8_4 42 (.iconst 2) 1 43 := ⟨by decide +kernel, rfl⟩
theorem zd_8_4_43 : zz_D zy_readLayer_8_4 43 (.istore_n 1) 1 44 := ⟨by decide +kernel, rfl⟩
theorem zd_8_4_44 : zz_D zy_readLayer_8_4 44 (.aload_n 0) 1 45 := ⟨by decide +kernel, rfl⟩
theorem zd_8_4_45 : zz_D zy_readLayer_8_4 45 (.sipush 137) 3 48 := ⟨by decide +kernel, rfl⟩
theorem zd_8_4_48 : zz_D zy_readLayer_8_4 48 (.putfield 35) 3 51 := ⟨by decide +kernel, rfl⟩
theorem zd_8_4_51 : zz_D zy_readLayer_8_4 51 (.aload_n 0) 1 52 := ⟨by decide +kernel, rfl⟩
theorem zd_8_4_52 : zz_D zy_readLayer_8_4 52 (.iconst 1) 1 53 := ⟨by decide +kernel, rfl⟩
theorem zd_8_4_53 : zz_D zy_readLayer_8_4 53 (.putfield 38) 3 56 := ⟨by decide +kernel, rfl⟩
theorem zd_8_4_56 : zz_B zy_readLayer_8_4 56 Instr.goto 90 59 := ⟨34, by decide +kernel, rfl, rfl⟩
theorem zd_8_4_107 : zz_D zy_readLayer_8_4 107 (.iload_n 2) 1 108 := ⟨by decide +kernel, rfl⟩
theorem zd_8_4_12 : zz_D zy_readLayer_8_4 12 (.iconst 1) 1 13 := ⟨by decide +kernel, rfl⟩
theorem zd_8_4_13 : zz_D zy_readLayer_8_4 13 (.istore_n 1) 1 14 := ⟨by decide +kernel, rfl⟩
theorem zd_8_4_14 : zz_D zy_readLayer_8_4 14 (.aload_n 0) 1 15 := ⟨by decide +kernel, rfl⟩
theorem zd_8_4_15 : zz_D zy_readLayer_8_4 15 (.sipush 255) 3 18 := ⟨by decide +kernel, rfl⟩
theorem zd_8_4_18 : zz_D zy_readLayer_8_4 18 (.putfield 35) 3 21 := ⟨by decide +kernel, rfl⟩
theorem zd_8_4_21 : zz_D zy_readLayer_8_4 21 (.aload_n 0) 1 22 := ⟨by decide +kernel, rfl⟩
theorem zd_8_4_22 : zz_D zy_readLayer_8_4 22 (.bipush 7) 2 24 := ⟨by decide +kernel, rfl⟩
theorem zd_8_4_24 : zz_D zy_readLayer_8_4 24 (.putfield 38) 3 27 := ⟨by decide +kernel, rfl⟩
theorem zd_8_4_27 : zz_B zy_readLayer_8_4 27 Instr.goto 90 30 := ⟨63, by decide +kernel, rfl, rfl⟩
-- TensorForge$NetworkReader readLayer ()Z
abbrev zr_readLayer_8_4 : Room := { frames := 5, cells := 0, slots := 0, locals := 68 }
def zp_readLayer_8_4  (S0 : zz_S) : Int → zz_S → Prop := fun r S => zz_G S ∧ zz_fr [(1070, 3), (1070, 4), (1070, 5), (1070, 6), (1073, 6), (1073, 7)] [1003, 1004, 1005, 1006, 1007, 1008, 1009, 1010, 1011, 1012, 1013, 1014, 1017, 1018, 1019, 1020, 1021, 1022, 1023, 1024, 1025, 1026, 1027, 1028] (fun _ _ => False) S0 S ∧ (0 ≤ r ∧ r ≤ 1)
theorem zc_readLayer_8_4 {g : mm_G} {l : Launch}  (S0 : zz_S) (n : Nat) (hn : zz_end ≤ n) (G_S0 : zz_G S0)  : mm_Met g l zy_readLayer_8_4 zr_readLayer_8_4 [.ref 1073] (zz_M S0 n) n (zz_QI n (zp_readLayer_8_4  S0)) := by
  refine zz_enter (by decide) (Nat.le_of_ble_eq_true rfl) (zz_less (ls1 := [some (.ref 1073)]) ⟨rfl, trivial⟩ ?_)
  have F_S0 : zz_fr [(1070, 3), (1070, 4), (1070, 5), (1070, 6), (1073, 6), (1073, 7)] [1003, 1004, 1005, 1006, 1007, 1008, 1009, 1010, 1011, 1012, 1013, 1014, 1017, 1018, 1019, 1020, 1021, 1022, 1023, 1024, 1025, 1026, 1027, 1028] (fun _ _ => False) S0 S0 := zz_fr.refl
  refine zz_aload_n (x := 1073) rfl zd_8_4_0 ?_
  refine zz_getr (kd := 0) (z := 1070) zd_8_4_1 zf_NetworkReader_9 zT_1073 rfl (zz_ltn hn rfl) (zz_G.eq G_S0 1073 0 1070 rfl rfl) (by decide) 1070 rfl ?_
  refine zz_ldcs (t := 21) (by decide +kernel) (by decide) zd_8_4_4 ?_
  refine zz_callVI [.ref (100 + 21)] zd_8_4_6 zk_NetworkReader_87 zT_1070 (zz_ltn hn rfl) rfl rfl ⟨Nat.le_of_ble_eq_true rfl, Nat.le_of_ble_eq_true rfl⟩ ⟨rfl, rfl⟩ (Nat.zero_le _) (Nat.zero_le _) (zc_isWord_11_9 21 S0 n hn G_S0 (by omega)) (fun v2 S1 hP => ?_)
  obtain ⟨rfl, o3⟩ := hP
  rcases (by omega : v2 = 0 ∨ v2 = 1) with rfl | rfl
  · refine zz_if_eq (by omega) zd_8_4_9 (fun c4 => ?_) (fun c4 => ?_)
    · refine zz_aload_n (x := 1073) rfl zd_8_4_30 ?_
      refine zz_getr (kd := 0) (z := 1070) zd_8_4_31 zf_NetworkReader_9 zT_1073 rfl (zz_ltn hn rfl) (zz_G.eq G_S0 1073 0 1070 rfl rfl) (by decide) 1070 rfl ?_
      refine zz_ldcs (t := 22) (by decide +kernel) (by decide) zd_8_4_34 ?_
      refine zz_callVI [.ref (100 + 22)] zd_8_4_36 zk_NetworkReader_87 zT_1070 (zz_ltn hn rfl) rfl rfl ⟨Nat.le_of_ble_eq_true rfl, Nat.le_of_ble_eq_true rfl⟩ ⟨rfl, rfl⟩ (Nat.zero_le _) (Nat.zero_le _) (zc_isWord_11_9 22 S0 n hn G_S0 (by omega)) (fun v6 S5 hP => ?_)
      obtain ⟨rfl, o7⟩ := hP
      rcases (by omega : v6 = 0 ∨ v6 = 1) with rfl | rfl
      · refine zz_if_eq (by omega) zd_8_4_39 (fun c8 => ?_) (fun c8 => ?_)
        · refine zz_aload_n (x := 1073) rfl zd_8_4_59 ?_
          refine zz_getr (kd := 0) (z := 1070) zd_8_4_60 zf_NetworkReader_9 zT_1073 rfl (zz_ltn hn rfl) (zz_G.eq G_S0 1073 0 1070 rfl rfl) (by decide) 1070 rfl ?_
          refine zz_ldcs (t := 23) (by decide +kernel) (by decide) zd_8_4_63 ?_
          refine zz_callVI [.ref (100 + 23)] zd_8_4_65 zk_NetworkReader_87 zT_1070 (zz_ltn hn rfl) rfl rfl ⟨Nat.le_of_ble_eq_true rfl, Nat.le_of_ble_eq_true rfl⟩ ⟨rfl, rfl⟩ (Nat.zero_le _) (Nat.zero_le _) (zc_isWord_11_9 23 S0 n hn G_S0 (by omega)) (fun v10 S9 hP => ?_)
          obtain ⟨rfl, o11⟩ := hP
          rcases (by omega : v10 = 0 ∨ v10 = 1) with rfl | rfl
          · refine zz_if_eq (by omega) zd_8_4_68 (fun c12 => ?_) (fun c12 => ?_)
            · refine zz_iconst zd_8_4_88 ?_
              exact zz_zret zd_8_4_89 rfl (by omega) (Nat.zero_le _) (Nat.zero_le _) ⟨_, _, rfl, G_S0, F_S0, by omega⟩
            · exfalso; omega
          · refine zz_if_eq (by omega) zd_8_4_68 (fun c13 => ?_) (fun c13 => ?_)
            · exfalso; omega
            · refine zz_iconst zd_8_4_71 ?_
              refine zz_istore_n [some (.ref 1073), some (zi 3)] zd_8_4_72 (by decide) rfl ?_
              refine zz_aload_n (x := 1073) rfl zd_8_4_73 ?_
              refine zz_sipush (by decide) zd_8_4_74 ?_
              refine zz_puti zd_8_4_77 zf_NetworkReader_35 zT_1073 rfl (zz_ltn hn rfl) (fun S14 qS14 => ?_)
              have G_S14 := zz_G.put G_S0 qS14 (-2147483648) 2147483647 rfl (by omega)
              have F_S14 := zz_fr.puts F_S0 qS14 rfl
              refine zz_aload_n (x := 1073) rfl zd_8_4_80 ?_
              refine zz_iconst zd_8_4_81 ?_
              refine zz_puti zd_8_4_82 zf_NetworkReader_38 zT_1073 rfl (zz_ltn hn rfl) (fun S15 qS15 => ?_)
              have G_S15 := zz_G.put G_S14 qS15 (-2147483648) 2147483647 rfl (by omega)
              have F_S15 := zz_fr.puts F_S14 qS15 rfl
              refine zz_goto zd_8_4_85 ?_
              refine zz_aload_n (x := 1073) rfl zd_8_4_90 ?_
              refine zz_callVI [] zd_8_4_91 zk_NetworkReader_118 zT_1073 (zz_ltn hn rfl) rfl rfl ⟨Nat.le_of_ble_eq_true rfl, Nat.le_of_ble_eq_true rfl⟩ ⟨rfl, rfl⟩ (Nat.zero_le _) (Nat.zero_le _) (zc_readTensor_8_5  S15 n hn G_S15 ) (fun v17 S16 hP => ?_)
              obtain ⟨G_S16, fS16, o18⟩ := hP
              have F_S16 := zz_fr.trans F_S15 fS16 rfl zz_nv
              refine zz_istore_n [some (.ref 1073), some (zi 3), some (zi v17)] zd_8_4_94 (by decide) rfl ?_
              refine zz_iload_n (x := 3) rfl zd_8_4_95 ?_
              refine zz_iconst zd_8_4_96 ?_
              refine zz_icmp_ne (by omega) (by omega) zd_8_4_97 (fun c19 => ?_) (fun c19 => ?_)
              · exfalso; omega
              · refine zz_aload_n (x := 1073) rfl zd_8_4_100 ?_
                refine zz_callVI [] zd_8_4_101 zk_NetworkReader_118 zT_1073 (zz_ltn hn rfl) rfl rfl ⟨Nat.le_of_ble_eq_true rfl, Nat.le_of_ble_eq_true rfl⟩ ⟨rfl, rfl⟩ (Nat.zero_le _) (Nat.zero_le _) (zc_readTensor_8_5  S16 n hn G_S16 ) (fun v21 S20 hP => ?_)
                obtain ⟨G_S20, fS20, o22⟩ := hP
                have F_S20 := zz_fr.trans F_S16 fS20 rfl zz_nv
                refine zz_goto zd_8_4_104 ?_
                refine zz_istore_n [some (.ref 1073), some (zi 3), some (zi v17), some (zi v21)] zd_8_4_108 (by decide) rfl ?_
                refine zz_aload_n (x := 1073) rfl zd_8_4_109 ?_
                have g23 := zz_G.r G_S0 1073 1 0 1 rfl rfl
                refine zz_getr (kd := 1) (z := S0 1073 1) zd_8_4_110 zf_NetworkReader_15 zT_1073 rfl (zz_ltn hn rfl) (zz_rc fS20 rfl rfl (fun h => h) (zz_rc fS16 rfl rfl (fun h => h) (zz_ro qS15 (fun h => absurd h.2 (by decide)) (zz_ro qS14 (fun h => absurd h.2 (by decide)) rfl)))) (by omega) (zz_rf 3 (S0 1073 1)) rfl ?_
                have e24 : S20 (zz_rf 3 (S0 1073 1)) 1 = S0 (zz_rf 3 (S0 1073 1)) 1 := (zz_rc fS20 (zP_k3 (by omega) rfl) (zQ_k3 (by omega) rfl) (fun h => h) (zz_rc fS16 (zP_k3 (by omega) rfl) (zQ_k3 (by omega) rfl) (fun h => h) (zz_ro qS15 (fun h => absurd h.2 (by decide)) (zz_ro qS14 (fun h => absurd h.2 (by decide)) rfl))))
                refine zz_callVA [] zd_8_4_113 zk_NetworkReader_121 (zT_k3 (by omega)) (zN_k3 hn (by omega)) rfl rfl ⟨Nat.le_of_ble_eq_true rfl, Nat.le_of_ble_eq_true rfl⟩ ⟨rfl, rfl⟩ (Nat.zero_le _) (Nat.zero_le _) (zc_draft_7_6 (S0 1073 1) S20 n hn G_S20 (by omega)) (fun v26 S25 hP => ?_)
                obtain ⟨rfl, o27, o28⟩ := hP
                subst o27
                refine zz_iload_n (x := 3) rfl zd_8_4_116 ?_
                refine zz_iload_n (x := v17) rfl zd_8_4_117 ?_
                refine zz_iload_n (x := v21) rfl zd_8_4_118 ?_
                refine zz_callVV [zi 3, zi v17, zi v21] zd_8_4_119 zk_NetworkReader_125 (zT_k6 (by omega)) (zN_k6 hn (by omega)) rfl rfl ⟨Nat.le_of_ble_eq_true rfl, Nat.le_of_ble_eq_true rfl⟩ ⟨rfl, rfl⟩ (Nat.zero_le _) (Nat.zero_le _) (zc_reset_4_2 (12 * (S0 1073 1) + S20 (zz_rf 3 (S0 1073 1)) 1) 3 v17 v21 S20 n hn G_S20 (by omega) (by omega) (by omega) (by omega)) (fun S29 hP => ?_)
                obtain ⟨G_S29, fS29, o31⟩ := hP
                have g32 := zz_G.r G_S0 1073 1 0 1 rfl rfl
                have b33 := zz_G.r G_S20 (zz_rf 3 (S0 1073 1)) 1 1 11 (zR_k3_1 (by omega)) (zB_k3 (by omega))
                have F_S29 := zz_fr.trans F_S20 fS29 rfl (fun a i h => by rcases h with h | h | h | h | h | h | h | h | h | h | h | h | h | h | h; exact Or.inr (Or.inl (h.1 ▸ zM_k6 (z := (12 * (S0 1073 1) + S20 (zz_rf 3 (S0 1073 1)) 1)) (by omega) rfl)); exact Or.inr (Or.inl (h.1 ▸ zM_k6 (z := (12 * (S0 1073 1) + S20 (zz_rf 3 (S0 1073 1)) 1)) (by omega) rfl)); exact Or.inr (Or.inl (h.1 ▸ zM_k6 (z := (12 * (S0 1073 1) + S20 (zz_rf 3 (S0 1073 1)) 1)) (by omega) rfl)); exact Or.inr (Or.inl (h.1 ▸ zM_k6 (z := (12 * (S0 1073 1) + S20 (zz_rf 3 (S0 1073 1)) 1)) (by omega) rfl)); exact Or.inr (Or.inl (h.1 ▸ zM_k6 (z := (12 * (S0 1073 1) + S20 (zz_rf 3 (S0 1073 1)) 1)) (by omega) rfl)); exact Or.inr (Or.inl (h.1 ▸ zM_k6 (z := (12 * (S0 1073 1) + S20 (zz_rf 3 (S0 1073 1)) 1)) (by omega) rfl)); exact Or.inr (Or.inl (h.1 ▸ zM_k6 (z := (12 * (S0 1073 1) + S20 (zz_rf 3 (S0 1073 1)) 1)) (by omega) rfl)); exact Or.inr (Or.inl (h.1 ▸ zM_k6 (z := (12 * (S0 1073 1) + S20 (zz_rf 3 (S0 1073 1)) 1)) (by omega) rfl)); exact Or.inr (Or.inl (h.1 ▸ zM_k6 (z := (12 * (S0 1073 1) + S20 (zz_rf 3 (S0 1073 1)) 1)) (by omega) rfl)); exact Or.inr (Or.inl (h.1 ▸ zM_k6 (z := (12 * (S0 1073 1) + S20 (zz_rf 3 (S0 1073 1)) 1)) (by omega) rfl)); exact Or.inr (Or.inl (h.1 ▸ zM_k6 (z := (12 * (S0 1073 1) + S20 (zz_rf 3 (S0 1073 1)) 1)) (by omega) rfl)); exact Or.inr (Or.inl (h.1 ▸ zM_k6 (z := (12 * (S0 1073 1) + S20 (zz_rf 3 (S0 1073 1)) 1)) (by omega) rfl)); exact Or.inr (Or.inl (h.1 ▸ zM_k6 (z := (12 * (S0 1073 1) + S20 (zz_rf 3 (S0 1073 1)) 1)) (by omega) rfl)); exact Or.inr (Or.inl (h.1 ▸ zM_k6 (z := (12 * (S0 1073 1) + S20 (zz_rf 3 (S0 1073 1)) 1)) (by omega) rfl)); exact Or.inr (Or.inl (h.1 ▸ zM_k6 (z := (12 * (S0 1073 1) + S20 (zz_rf 3 (S0 1073 1)) 1)) (by omega) rfl)))
                have b34 := zz_G.r G_S20 (zz_rf 3 (S0 1073 1)) 1 1 11 (zR_k3_1 (by omega)) (zB_k3 (by omega))
                have b35 := zz_rf6 (z := (12 * (S0 1073 1) + S20 (zz_rf 3 (S0 1073 1)) 1)) (by omega)
                refine zz_iload_n (x := v17) rfl zd_8_4_122 ?_
                refine zz_iconst zd_8_4_123 ?_
                refine zz_icmp_eq (by omega) (by omega) zd_8_4_124 (fun c36 => ?_) (fun c36 => ?_)
                · refine zz_iconst zd_8_4_136 ?_
                  exact zz_zret zd_8_4_137 rfl (by omega) (Nat.zero_le _) (Nat.zero_le _) ⟨_, _, rfl, G_S29, F_S29, by omega⟩
                · refine zz_iload_n (x := v21) rfl zd_8_4_127 ?_
                  refine zz_iconst zd_8_4_128 ?_
                  refine zz_icmp_eq (by omega) (by omega) zd_8_4_129 (fun c37 => ?_) (fun c37 => ?_)
                  · refine zz_iconst zd_8_4_136 ?_
                    exact zz_zret zd_8_4_137 rfl (by omega) (Nat.zero_le _) (Nat.zero_le _) ⟨_, _, rfl, G_S29, F_S29, by omega⟩
                  · refine zz_iconst zd_8_4_132 ?_
                    refine zz_goto zd_8_4_133 ?_
                    exact zz_zret zd_8_4_137 rfl (by omega) (Nat.zero_le _) (Nat.zero_le _) ⟨_, _, rfl, G_S29, F_S29, by omega⟩
        · exfalso; omega
      · refine zz_if_eq (by omega) zd_8_4_39 (fun c38 => ?_) (fun c38 => ?_)
        · exfalso; omega
        · refine zz_iconst zd_8_4_42 ?_
          refine zz_istore_n [some (.ref 1073), some (zi 2)] zd_8_4_43 (by decide) rfl ?_
          refine zz_aload_n (x := 1073) rfl zd_8_4_44 ?_
          refine zz_sipush (by decide) zd_8_4_45 ?_
          refine zz_puti zd_8_4_48 zf_NetworkReader_35 zT_1073 rfl (zz_ltn hn rfl) (fun S39 qS39 => ?_)
          have G_S39 := zz_G.put G_S0 qS39 (-2147483648) 2147483647 rfl (by omega)
          have F_S39 := zz_fr.puts F_S0 qS39 rfl
          refine zz_aload_n (x := 1073) rfl zd_8_4_51 ?_
          refine zz_iconst zd_8_4_52 ?_
          refine zz_puti zd_8_4_53 zf_NetworkReader_38 zT_1073 rfl (zz_ltn hn rfl) (fun S40 qS40 => ?_)
          have G_S40 := zz_G.put G_S39 qS40 (-2147483648) 2147483647 rfl (by omega)
          have F_S40 := zz_fr.puts F_S39 qS40 rfl
          refine zz_goto zd_8_4_56 ?_
          refine zz_aload_n (x := 1073) rfl zd_8_4_90 ?_
          refine zz_callVI [] zd_8_4_91 zk_NetworkReader_118 zT_1073 (zz_ltn hn rfl) rfl rfl ⟨Nat.le_of_ble_eq_true rfl, Nat.le_of_ble_eq_true rfl⟩ ⟨rfl, rfl⟩ (Nat.zero_le _) (Nat.zero_le _) (zc_readTensor_8_5  S40 n hn G_S40 ) (fun v42 S41 hP => ?_)
          obtain ⟨G_S41, fS41, o43⟩ := hP
          have F_S41 := zz_fr.trans F_S40 fS41 rfl zz_nv
          refine zz_istore_n [some (.ref 1073), some (zi 2), some (zi v42)] zd_8_4_94 (by decide) rfl ?_
          refine zz_iload_n (x := 2) rfl zd_8_4_95 ?_
          refine zz_iconst zd_8_4_96 ?_
          refine zz_icmp_ne (by omega) (by omega) zd_8_4_97 (fun c44 => ?_) (fun c44 => ?_)
          · refine zz_iload_n (x := v42) rfl zd_8_4_107 ?_
            refine zz_istore_n [some (.ref 1073), some (zi 2), some (zi v42), some (zi v42)] zd_8_4_108 (by decide) rfl ?_
            refine zz_aload_n (x := 1073) rfl zd_8_4_109 ?_
            have g45 := zz_G.r G_S0 1073 1 0 1 rfl rfl
            refine zz_getr (kd := 1) (z := S0 1073 1) zd_8_4_110 zf_NetworkReader_15 zT_1073 rfl (zz_ltn hn rfl) (zz_rc fS41 rfl rfl (fun h => h) (zz_ro qS40 (fun h => absurd h.2 (by decide)) (zz_ro qS39 (fun h => absurd h.2 (by decide)) rfl))) (by omega) (zz_rf 3 (S0 1073 1)) rfl ?_
            have e46 : S41 (zz_rf 3 (S0 1073 1)) 1 = S0 (zz_rf 3 (S0 1073 1)) 1 := (zz_rc fS41 (zP_k3 (by omega) rfl) (zQ_k3 (by omega) rfl) (fun h => h) (zz_ro qS40 (fun h => absurd h.2 (by decide)) (zz_ro qS39 (fun h => absurd h.2 (by decide)) rfl)))
            refine zz_callVA [] zd_8_4_113 zk_NetworkReader_121 (zT_k3 (by omega)) (zN_k3 hn (by omega)) rfl rfl ⟨Nat.le_of_ble_eq_true rfl, Nat.le_of_ble_eq_true rfl⟩ ⟨rfl, rfl⟩ (Nat.zero_le _) (Nat.zero_le _) (zc_draft_7_6 (S0 1073 1) S41 n hn G_S41 (by omega)) (fun v48 S47 hP => ?_)
            obtain ⟨rfl, o49, o50⟩ := hP
            subst o49
            refine zz_iload_n (x := 2) rfl zd_8_4_116 ?_
            refine zz_iload_n (x := v42) rfl zd_8_4_117 ?_
            refine zz_iload_n (x := v42) rfl zd_8_4_118 ?_
            refine zz_callVV [zi 2, zi v42, zi v42] zd_8_4_119 zk_NetworkReader_125 (zT_k6 (by omega)) (zN_k6 hn (by omega)) rfl rfl ⟨Nat.le_of_ble_eq_true rfl, Nat.le_of_ble_eq_true rfl⟩ ⟨rfl, rfl⟩ (Nat.zero_le _) (Nat.zero_le _) (zc_reset_4_2 (12 * (S0 1073 1) + S41 (zz_rf 3 (S0 1073 1)) 1) 2 v42 v42 S41 n hn G_S41 (by omega) (by omega) (by omega) (by omega)) (fun S51 hP => ?_)
            obtain ⟨G_S51, fS51, o53⟩ := hP
            have g54 := zz_G.r G_S0 1073 1 0 1 rfl rfl
            have b55 := zz_G.r G_S41 (zz_rf 3 (S0 1073 1)) 1 1 11 (zR_k3_1 (by omega)) (zB_k3 (by omega))
            have F_S51 := zz_fr.trans F_S41 fS51 rfl (fun a i h => by rcases h with h | h | h | h | h | h | h | h | h | h | h | h | h | h | h; exact Or.inr (Or.inl (h.1 ▸ zM_k6 (z := (12 * (S0 1073 1) + S41 (zz_rf 3 (S0 1073 1)) 1)) (by omega) rfl)); exact Or.inr (Or.inl (h.1 ▸ zM_k6 (z := (12 * (S0 1073 1) + S41 (zz_rf 3 (S0 1073 1)) 1)) (by omega) rfl)); exact Or.inr (Or.inl (h.1 ▸ zM_k6 (z := (12 * (S0 1073 1) + S41 (zz_rf 3 (S0 1073 1)) 1)) (by omega) rfl)); exact Or.inr (Or.inl (h.1 ▸ zM_k6 (z := (12 * (S0 1073 1) + S41 (zz_rf 3 (S0 1073 1)) 1)) (by omega) rfl)); exact Or.inr (Or.inl (h.1 ▸ zM_k6 (z := (12 * (S0 1073 1) + S41 (zz_rf 3 (S0 1073 1)) 1)) (by omega) rfl)); exact Or.inr (Or.inl (h.1 ▸ zM_k6 (z := (12 * (S0 1073 1) + S41 (zz_rf 3 (S0 1073 1)) 1)) (by omega) rfl)); exact Or.inr (Or.inl (h.1 ▸ zM_k6 (z := (12 * (S0 1073 1) + S41 (zz_rf 3 (S0 1073 1)) 1)) (by omega) rfl)); exact Or.inr (Or.inl (h.1 ▸ zM_k6 (z := (12 * (S0 1073 1) + S41 (zz_rf 3 (S0 1073 1)) 1)) (by omega) rfl)); exact Or.inr (Or.inl (h.1 ▸ zM_k6 (z := (12 * (S0 1073 1) + S41 (zz_rf 3 (S0 1073 1)) 1)) (by omega) rfl)); exact Or.inr (Or.inl (h.1 ▸ zM_k6 (z := (12 * (S0 1073 1) + S41 (zz_rf 3 (S0 1073 1)) 1)) (by omega) rfl)); exact Or.inr (Or.inl (h.1 ▸ zM_k6 (z := (12 * (S0 1073 1) + S41 (zz_rf 3 (S0 1073 1)) 1)) (by omega) rfl)); exact Or.inr (Or.inl (h.1 ▸ zM_k6 (z := (12 * (S0 1073 1) + S41 (zz_rf 3 (S0 1073 1)) 1)) (by omega) rfl)); exact Or.inr (Or.inl (h.1 ▸ zM_k6 (z := (12 * (S0 1073 1) + S41 (zz_rf 3 (S0 1073 1)) 1)) (by omega) rfl)); exact Or.inr (Or.inl (h.1 ▸ zM_k6 (z := (12 * (S0 1073 1) + S41 (zz_rf 3 (S0 1073 1)) 1)) (by omega) rfl)); exact Or.inr (Or.inl (h.1 ▸ zM_k6 (z := (12 * (S0 1073 1) + S41 (zz_rf 3 (S0 1073 1)) 1)) (by omega) rfl)))
            have b56 := zz_G.r G_S41 (zz_rf 3 (S0 1073 1)) 1 1 11 (zR_k3_1 (by omega)) (zB_k3 (by omega))
            have b57 := zz_rf6 (z := (12 * (S0 1073 1) + S41 (zz_rf 3 (S0 1073 1)) 1)) (by omega)
            refine zz_iload_n (x := v42) rfl zd_8_4_122 ?_
            refine zz_iconst zd_8_4_123 ?_
            refine zz_icmp_eq (by omega) (by omega) zd_8_4_124 (fun c58 => ?_) (fun c58 => ?_)
            · refine zz_iconst zd_8_4_136 ?_
              exact zz_zret zd_8_4_137 rfl (by omega) (Nat.zero_le _) (Nat.zero_le _) ⟨_, _, rfl, G_S51, F_S51, by omega⟩
            · refine zz_iload_n (x := v42) rfl zd_8_4_127 ?_
              refine zz_iconst zd_8_4_128 ?_
              refine zz_icmp_eq (by omega) (by omega) zd_8_4_129 (fun c59 => ?_) (fun c59 => ?_)
              · refine zz_iconst zd_8_4_136 ?_
                exact zz_zret zd_8_4_137 rfl (by omega) (Nat.zero_le _) (Nat.zero_le _) ⟨_, _, rfl, G_S51, F_S51, by omega⟩
              · refine zz_iconst zd_8_4_132 ?_
                refine zz_goto zd_8_4_133 ?_
                exact zz_zret zd_8_4_137 rfl (by omega) (Nat.zero_le _) (Nat.zero_le _) ⟨_, _, rfl, G_S51, F_S51, by omega⟩
          · exfalso; omega
    · exfalso; omega
  · refine zz_if_eq (by omega) zd_8_4_9 (fun c60 => ?_) (fun c60 => ?_)
    · exfalso; omega
    · refine zz_iconst zd_8_4_12 ?_
      refine zz_istore_n [some (.ref 1073), some (zi 1)] zd_8_4_13 (by decide) rfl ?_
      refine zz_aload_n (x := 1073) rfl zd_8_4_14 ?_
      refine zz_sipush (by decide) zd_8_4_15 ?_
      refine zz_puti zd_8_4_18 zf_NetworkReader_35 zT_1073 rfl (zz_ltn hn rfl) (fun S61 qS61 => ?_)
      have G_S61 := zz_G.put G_S0 qS61 (-2147483648) 2147483647 rfl (by omega)
      have F_S61 := zz_fr.puts F_S0 qS61 rfl
      refine zz_aload_n (x := 1073) rfl zd_8_4_21 ?_
      refine zz_bipush (by decide) zd_8_4_22 ?_
      refine zz_puti zd_8_4_24 zf_NetworkReader_38 zT_1073 rfl (zz_ltn hn rfl) (fun S62 qS62 => ?_)
      have G_S62 := zz_G.put G_S61 qS62 (-2147483648) 2147483647 rfl (by omega)
      have F_S62 := zz_fr.puts F_S61 qS62 rfl
      refine zz_goto zd_8_4_27 ?_
      refine zz_aload_n (x := 1073) rfl zd_8_4_90 ?_
      refine zz_callVI [] zd_8_4_91 zk_NetworkReader_118 zT_1073 (zz_ltn hn rfl) rfl rfl ⟨Nat.le_of_ble_eq_true rfl, Nat.le_of_ble_eq_true rfl⟩ ⟨rfl, rfl⟩ (Nat.zero_le _) (Nat.zero_le _) (zc_readTensor_8_5  S62 n hn G_S62 ) (fun v64 S63 hP => ?_)
      obtain ⟨G_S63, fS63, o65⟩ := hP
      have F_S63 := zz_fr.trans F_S62 fS63 rfl zz_nv
      refine zz_istore_n [some (.ref 1073), some (zi 1), some (zi v64)] zd_8_4_94 (by decide) rfl ?_
      refine zz_iload_n (x := 1) rfl zd_8_4_95 ?_
      refine zz_iconst zd_8_4_96 ?_
      refine zz_icmp_ne (by omega) (by omega) zd_8_4_97 (fun c66 => ?_) (fun c66 => ?_)
      · refine zz_iload_n (x := v64) rfl zd_8_4_107 ?_
        refine zz_istore_n [some (.ref 1073), some (zi 1), some (zi v64), some (zi v64)] zd_8_4_108 (by decide) rfl ?_
        refine zz_aload_n (x := 1073) rfl zd_8_4_109 ?_
        have g67 := zz_G.r G_S0 1073 1 0 1 rfl rfl
        refine zz_getr (kd := 1) (z := S0 1073 1) zd_8_4_110 zf_NetworkReader_15 zT_1073 rfl (zz_ltn hn rfl) (zz_rc fS63 rfl rfl (fun h => h) (zz_ro qS62 (fun h => absurd h.2 (by decide)) (zz_ro qS61 (fun h => absurd h.2 (by decide)) rfl))) (by omega) (zz_rf 3 (S0 1073 1)) rfl ?_
        have e68 : S63 (zz_rf 3 (S0 1073 1)) 1 = S0 (zz_rf 3 (S0 1073 1)) 1 := (zz_rc fS63 (zP_k3 (by omega) rfl) (zQ_k3 (by omega) rfl) (fun h => h) (zz_ro qS62 (fun h => absurd h.2 (by decide)) (zz_ro qS61 (fun h => absurd h.2 (by decide)) rfl)))
        refine zz_callVA [] zd_8_4_113 zk_NetworkReader_121 (zT_k3 (by omega)) (zN_k3 hn (by omega)) rfl rfl ⟨Nat.le_of_ble_eq_true rfl, Nat.le_of_ble_eq_true rfl⟩ ⟨rfl, rfl⟩ (Nat.zero_le _) (Nat.zero_le _) (zc_draft_7_6 (S0 1073 1) S63 n hn G_S63 (by omega)) (fun v70 S69 hP => ?_)
        obtain ⟨rfl, o71, o72⟩ := hP
        subst o71
        refine zz_iload_n (x := 1) rfl zd_8_4_116 ?_
        refine zz_iload_n (x := v64) rfl zd_8_4_117 ?_
        refine zz_iload_n (x := v64) rfl zd_8_4_118 ?_
        refine zz_callVV [zi 1, zi v64, zi v64] zd_8_4_119 zk_NetworkReader_125 (zT_k6 (by omega)) (zN_k6 hn (by omega)) rfl rfl ⟨Nat.le_of_ble_eq_true rfl, Nat.le_of_ble_eq_true rfl⟩ ⟨rfl, rfl⟩ (Nat.zero_le _) (Nat.zero_le _) (zc_reset_4_2 (12 * (S0 1073 1) + S63 (zz_rf 3 (S0 1073 1)) 1) 1 v64 v64 S63 n hn G_S63 (by omega) (by omega) (by omega) (by omega)) (fun S73 hP => ?_)
        obtain ⟨G_S73, fS73, o75⟩ := hP
        have g76 := zz_G.r G_S0 1073 1 0 1 rfl rfl
        have b77 := zz_G.r G_S63 (zz_rf 3 (S0 1073 1)) 1 1 11 (zR_k3_1 (by omega)) (zB_k3 (by omega))
        have F_S73 := zz_fr.trans F_S63 fS73 rfl (fun a i h => by rcases h with h | h | h | h | h | h | h | h | h | h | h | h | h | h | h; exact Or.inr (Or.inl (h.1 ▸ zM_k6 (z := (12 * (S0 1073 1) + S63 (zz_rf 3 (S0 1073 1)) 1)) (by omega) rfl)); exact Or.inr (Or.inl (h.1 ▸ zM_k6 (z := (12 * (S0 1073 1) + S63 (zz_rf 3 (S0 1073 1)) 1)) (by omega) rfl)); exact Or.inr (Or.inl (h.1 ▸ zM_k6 (z := (12 * (S0 1073 1) + S63 (zz_rf 3 (S0 1073 1)) 1)) (by omega) rfl)); exact Or.inr (Or.inl (h.1 ▸ zM_k6 (z := (12 * (S0 1073 1) + S63 (zz_rf 3 (S0 1073 1)) 1)) (by omega) rfl)); exact Or.inr (Or.inl (h.1 ▸ zM_k6 (z := (12 * (S0 1073 1) + S63 (zz_rf 3 (S0 1073 1)) 1)) (by omega) rfl)); exact Or.inr (Or.inl (h.1 ▸ zM_k6 (z := (12 * (S0 1073 1) + S63 (zz_rf 3 (S0 1073 1)) 1)) (by omega) rfl)); exact Or.inr (Or.inl (h.1 ▸ zM_k6 (z := (12 * (S0 1073 1) + S63 (zz_rf 3 (S0 1073 1)) 1)) (by omega) rfl)); exact Or.inr (Or.inl (h.1 ▸ zM_k6 (z := (12 * (S0 1073 1) + S63 (zz_rf 3 (S0 1073 1)) 1)) (by omega) rfl)); exact Or.inr (Or.inl (h.1 ▸ zM_k6 (z := (12 * (S0 1073 1) + S63 (zz_rf 3 (S0 1073 1)) 1)) (by omega) rfl)); exact Or.inr (Or.inl (h.1 ▸ zM_k6 (z := (12 * (S0 1073 1) + S63 (zz_rf 3 (S0 1073 1)) 1)) (by omega) rfl)); exact Or.inr (Or.inl (h.1 ▸ zM_k6 (z := (12 * (S0 1073 1) + S63 (zz_rf 3 (S0 1073 1)) 1)) (by omega) rfl)); exact Or.inr (Or.inl (h.1 ▸ zM_k6 (z := (12 * (S0 1073 1) + S63 (zz_rf 3 (S0 1073 1)) 1)) (by omega) rfl)); exact Or.inr (Or.inl (h.1 ▸ zM_k6 (z := (12 * (S0 1073 1) + S63 (zz_rf 3 (S0 1073 1)) 1)) (by omega) rfl)); exact Or.inr (Or.inl (h.1 ▸ zM_k6 (z := (12 * (S0 1073 1) + S63 (zz_rf 3 (S0 1073 1)) 1)) (by omega) rfl)); exact Or.inr (Or.inl (h.1 ▸ zM_k6 (z := (12 * (S0 1073 1) + S63 (zz_rf 3 (S0 1073 1)) 1)) (by omega) rfl)))
        have b78 := zz_G.r G_S63 (zz_rf 3 (S0 1073 1)) 1 1 11 (zR_k3_1 (by omega)) (zB_k3 (by omega))
        have b79 := zz_rf6 (z := (12 * (S0 1073 1) + S63 (zz_rf 3 (S0 1073 1)) 1)) (by omega)
        refine zz_iload_n (x := v64) rfl zd_8_4_122 ?_
        refine zz_iconst zd_8_4_123 ?_
        refine zz_icmp_eq (by omega) (by omega) zd_8_4_124 (fun c80 => ?_) (fun c80 => ?_)
        · refine zz_iconst zd_8_4_136 ?_
          exact zz_zret zd_8_4_137 rfl (by omega) (Nat.zero_le _) (Nat.zero_le _) ⟨_, _, rfl, G_S73, F_S73, by omega⟩
        · refine zz_iload_n (x := v64) rfl zd_8_4_127 ?_
          refine zz_iconst zd_8_4_128 ?_
          refine zz_icmp_eq (by omega) (by omega) zd_8_4_129 (fun c81 => ?_) (fun c81 => ?_)
          · refine zz_iconst zd_8_4_136 ?_
            exact zz_zret zd_8_4_137 rfl (by omega) (Nat.zero_le _) (Nat.zero_le _) ⟨_, _, rfl, G_S73, F_S73, by omega⟩
          · refine zz_iconst zd_8_4_132 ?_
            refine zz_goto zd_8_4_133 ?_
            exact zz_zret zd_8_4_137 rfl (by omega) (Nat.zero_le _) (Nat.zero_le _) ⟨_, _, rfl, G_S73, F_S73, by omega⟩
      · exfalso; omega
theorem zk_NetworkReader_65 : mm_Vl "TensorForge$NetworkReader" 65 8 0 zy_readLayer_8_4 := ⟨zyw_readLayer_8_4, (R_NetworkReader, F_NetworkReader, 9), rfl, mm_tb_1 920 (by decide +kernel) rfl, mm_tb_1 922 (by decide +kernel) rfl, mm_tb_s 41 (by decide +kernel) rfl⟩
theorem zd_8_2_66 : zz_B zy_readInto_8_2 66 (Instr.ifCond .eq) 90 69 := ⟨24, by decide +kernel, rfl, rfl⟩
theorem zd_8_2_90 : zz_D zy_readInto_8_2 90 (.iconst 0) 1 91 := ⟨by decide +kernel, rfl⟩
theorem zd_8_2_91 : zz_B zy_readInto_8_2 91 Instr.goto 113 94 := ⟨22, by decide +kernel, rfl, rfl⟩
theorem zd_8_2_69 : zz_D zy_readInto_8_2 69 (.aload_n 0) 1 70 := ⟨by decide +kernel, rfl⟩
theorem zd_8_2_70 : zz_D zy_readInto_8_2 70 (.invokevirtual 68) 3 73 := ⟨by decide +kernel, rfl⟩
theorem zd_8_2_73 : zz_B zy_readInto_8_2 73 (Instr.ifCond .eq) 90 76 := ⟨17, by decide +kernel, rfl, rfl⟩
theorem zd_8_2_76 : zz_D zy_readInto_8_2 76 (.aload_n 0) 1 77 := ⟨by decide +kernel, rfl⟩
theorem zd_8_2_77 : zz_D zy_readInto_8_2 77 (.getfield 15) 3 80 := ⟨by decide +kernel, rfl⟩
theorem zd_8_2_80 : zz_D zy_readInto_8_2 80 (.invokevirtual 71) 3 83 := ⟨by decide +kernel, rfl⟩
theorem zk_NetworkReader_71 : mm_Vl "TensorForge$NetworkReader" 71 1 0 zy_offer_7_7 := ⟨zyw_offer_7_7, (R_Network, F_Network, 2), rfl, mm_tb_1 989 (by decide +kernel) rfl, mm_tb_1 990 (by decide +kernel) rfl, mm_tb_1 991 (by decide +kernel) rfl⟩
theorem zd_8_2_83 : zz_B zy_readInto_8_2 83 (Instr.ifCond .ne) 90 86 := ⟨7, by decide +kernel, rfl, rfl⟩
theorem zd_8_2_86 : zz_D zy_readInto_8_2 86 (.iconst 1) 1 87 := ⟨by decide +kernel, rfl⟩
theorem zd_8_2_87 : zz_B zy_readInto_8_2 87 Instr.goto 113 90 := ⟨26, by decide +kernel, rfl, rfl⟩

-- TensorForge$NetworkReader readInto (LTensorForge$Network;)I
abbrev zr_readInto_8_2 : Room := { frames := 9, cells := 0, slots := 0, locals := 123 }
def zp_readInto_8_2 (p0 : Int) (S0 : zz_S) : Int → zz_S → Prop := fun r S => zz_G S ∧ zz_fr [(1070, 2), (1070, 3), (1070, 4), (1070, 5), (1070, 6), (1073, 1), (1073, 4), (1073, 5), (1073, 6), (1073, 7), (1073, 8)] [1001, 1003, 1004, 1005, 1006, 1007, 1008, 1009, 1010, 1011, 1012, 1013, 1014, 1015, 1017, 1018, 1019, 1020, 1021, 1022, 1023, 1024, 1025, 1026, 1027, 1028, 1074, 1075] (fun _ _ => False) S0 S ∧ ((-2147483648) ≤ r ∧ r ≤ 2147483647) ∧ (zz_Hc S)
theorem zb_readInto_8_2_24 {g : mm_G} {l : Launch} (p0 : Int) (S0 : zz_S) (n : Nat) (hn : zz_end ≤ n) (G_S0 : zz_G S0) (hp0 : 0 ≤ p0 ∧ p0 ≤ 1) (H_S0 : zz_Hc S0) (x2 : Int) (x3 : Int) (S : zz_S) (G_S : zz_G S) (F_S : zz_fr [(1070, 2), (1070, 3), (1070, 4), (1070, 5), (1070, 6), (1073, 1), (1073, 4), (1073, 5), (1073, 6), (1073, 7), (1073, 8)] [1001, 1003, 1004, 1005, 1006, 1007, 1008, 1009, 1010, 1011, 1012, 1013, 1014, 1015, 1017, 1018, 1019, 1020, 1021, 1022, 1023, 1024, 1025, 1026, 1027, 1028, 1074, 1075] (fun _ _ => False) S0 S) (i24_0 : 0 ≤ x2 ∧ x2 ≤ 1) (i24_1 : 0 ≤ x3 ∧ x3 ≤ 1501) (i24_2 : zz_Hc S) (R : Nat) (hR : (1500 + 1 - x3).toNat = R) (k24 : ∀ (x2 : Int) (x3 : Int) (S : zz_S), zz_G S → zz_fr [(1070, 2), (1070, 3), (1070, 4), (1070, 5), (1070, 6), (1073, 1), (1073, 4), (1073, 5), (1073, 6), (1073, 7), (1073, 8)] [1001, 1003, 1004, 1005, 1006, 1007, 1008, 1009, 1010, 1011, 1012, 1013, 1014, 1015, 1017, 1018, 1019, 1020, 1021, 1022, 1023, 1024, 1025, 1026, 1027, 1028, 1074, 1075] (fun _ _ => False) S0 S → (0 ≤ x2 ∧ x2 ≤ 1) → (0 ≤ x3 ∧ x3 ≤ 1501) → (zz_Hc S) → (1500 + 1 - x3).toNat < R → zz_E g l zy_readInto_8_2 zr_readInto_8_2 (zz_QI n (zp_readInto_8_2 p0 S0)) S n 24 [some (.ref 1073), none, some (zi x2), some (zi x3)] [] 0 0) : zz_E g l zy_readInto_8_2 zr_readInto_8_2 (zz_QI n (zp_readInto_8_2 p0 S0)) S n 24 [some (.ref 1073), none, some (zi x2), some (zi x3)] [] 0 0 := by
  have b_p0 := zz_rf3 (z := p0) (by omega)
  have H_S := i24_2
  refine zz_iload_n (x := x3) rfl zd_8_2_24 ?_
  refine zz_sipush (by decide) zd_8_2_25 ?_
  refine zz_icmp_gt (by omega) (by omega) zd_8_2_28 (fun c6 => ?_) (fun c6 => ?_)
  · refine zz_iload_n (x := x2) rfl zd_8_2_143 ?_
    refine zz_if_eq (by omega) zd_8_2_144 (fun c7 => ?_) (fun c7 => ?_)
    · refine zz_iload_n (x := x3) rfl zd_8_2_151 ?_
      exact zz_iret zd_8_2_152 rfl (Nat.zero_le _) (Nat.zero_le _) ⟨_, _, rfl, G_S, F_S, by omega, H_S⟩
    · refine zz_iconst zd_8_2_147 ?_
      refine zz_goto zd_8_2_148 ?_
      exact zz_iret zd_8_2_152 rfl (Nat.zero_le _) (Nat.zero_le _) ⟨_, _, rfl, G_S, F_S, by omega, H_S⟩
  · refine zz_aload_n (x := 1073) rfl zd_8_2_31 ?_
    refine zz_getr (kd := 0) (z := 1070) zd_8_2_32 zf_NetworkReader_9 zT_1073 rfl (zz_ltn hn rfl) (zz_G.eq G_S 1073 0 1070 rfl rfl) (by decide) 1070 rfl ?_
    refine zz_callVI [] zd_8_2_35 zk_NetworkReader_55 zT_1070 (zz_ltn hn rfl) rfl rfl ⟨Nat.le_of_ble_eq_true rfl, Nat.le_of_ble_eq_true rfl⟩ ⟨rfl, rfl⟩ (Nat.zero_le _) (Nat.zero_le _) (zc_nextLine_11_6  S n hn G_S ) (fun v9 S8 hP => ?_)
    obtain ⟨G_S8, fS8, o10⟩ := hP
    have F_S8 := zz_fr.trans F_S fS8 rfl zz_nv
    have H_S8 : zz_Hc S8 := zz_Hc.fr (q := 0) fS8 rfl rfl G_S (by decide) rfl (fun b j h => h.elim) H_S
    rcases (by omega : v9 = 0 ∨ v9 = 1) with rfl | rfl
    · refine zz_if_eq (by omega) zd_8_2_38 (fun c11 => ?_) (fun c11 => ?_)
      · refine zz_iload_n (x := x2) rfl zd_8_2_143 ?_
        refine zz_if_eq (by omega) zd_8_2_144 (fun c12 => ?_) (fun c12 => ?_)
        · refine zz_iload_n (x := x3) rfl zd_8_2_151 ?_
          exact zz_iret zd_8_2_152 rfl (Nat.zero_le _) (Nat.zero_le _) ⟨_, _, rfl, G_S8, F_S8, by omega, H_S8⟩
        · refine zz_iconst zd_8_2_147 ?_
          refine zz_goto zd_8_2_148 ?_
          exact zz_iret zd_8_2_152 rfl (Nat.zero_le _) (Nat.zero_le _) ⟨_, _, rfl, G_S8, F_S8, by omega, H_S8⟩
      · exfalso; omega
    · refine zz_if_eq (by omega) zd_8_2_38 (fun c13 => ?_) (fun c13 => ?_)
      · exfalso; omega
      · refine zz_aload_n (x := 1073) rfl zd_8_2_41 ?_
        refine zz_getr (kd := 0) (z := 1070) zd_8_2_42 zf_NetworkReader_9 zT_1073 rfl (zz_ltn hn rfl) (zz_G.eq G_S8 1073 0 1070 rfl rfl) (by decide) 1070 rfl ?_
        refine zz_callVV [] zd_8_2_45 zk_NetworkReader_59 zT_1070 (zz_ltn hn rfl) rfl rfl ⟨Nat.le_of_ble_eq_true rfl, Nat.le_of_ble_eq_true rfl⟩ ⟨rfl, rfl⟩ (Nat.zero_le _) (Nat.zero_le _) (zc_nextToken_11_7  S8 n hn G_S8 ) (fun S14 hP => ?_)
        obtain ⟨G_S14, fS14⟩ := hP
        have F_S14 := zz_fr.trans F_S8 fS14 rfl zz_nv
        have H_S14 : zz_Hc S14 := zz_Hc.fr (q := 0) fS14 rfl rfl G_S8 (by decide) rfl (fun b j h => h.elim) H_S8
        refine zz_aload_n (x := 1073) rfl zd_8_2_48 ?_
        refine zz_getr (kd := 0) (z := 1070) zd_8_2_49 zf_NetworkReader_9 zT_1073 rfl (zz_ltn hn rfl) (zz_G.eq G_S14 1073 0 1070 rfl rfl) (by decide) 1070 rfl ?_
        have g16 := zz_G.r G_S14 1070 4 (-2147483648) 2147483647 rfl rfl
        refine zz_geti (z := S14 1070 4) zd_8_2_52 zf_NetworkReader_62 zT_1070 rfl (zz_ltn hn rfl) rfl ?_
        refine zz_if_eq (by omega) zd_8_2_55 (fun c17 => ?_) (fun c17 => ?_)
        · refine zz_iinc [some (.ref 1073), none, some (zi x2), some (zi (x3 + 1))] zd_8_2_137 rfl rfl ?_
          refine zz_goto zd_8_2_140 ?_
          refine zz_less (ls1 := [some (.ref 1073), none, some (zi x2), some (zi (x3 + 1))]) ⟨rfl, ⟨rfl, ⟨rfl, trivial⟩⟩⟩ ?_
          exact k24 x2 (x3 + 1) S14 G_S14 F_S14 (by omega) (by omega) H_S14 (by omega)
        · refine zz_iload_n (x := x2) rfl zd_8_2_58 ?_
          refine zz_if_eq (by omega) zd_8_2_59 (fun c18 => ?_) (fun c18 => ?_)
          · refine zz_aload_n (x := 1073) rfl zd_8_2_94 ?_
            refine zz_callVI [] zd_8_2_95 zk_NetworkReader_75 zT_1073 (zz_ltn hn rfl) rfl rfl ⟨Nat.le_of_ble_eq_true rfl, Nat.le_of_ble_eq_true rfl⟩ ⟨rfl, rfl⟩ (Nat.zero_le _) (Nat.zero_le _) (zc_readInput_8_3  S14 n hn G_S14 H_S14) (fun v20 S19 hP => ?_)
            obtain ⟨G_S19, fS19, o21, o22⟩ := hP
            have g23 := zz_G.r G_S14 1073 1 0 1 rfl rfl
            have F_S19 := zz_fr.trans F_S14 fS19 rfl (fun a i h => by rcases h with h | h | h | h | h | h | h | h | h | h | h | h | h | h | h | h; exact Or.inr (Or.inl (h.1 ▸ zM_k3 (z := (S14 1073 1)) (by omega) rfl)); exact Or.inr (Or.inl (h.1 ▸ zM_k6 (z := (12 * (S14 1073 1) + 0)) (by omega) rfl)); exact Or.inr (Or.inl (h.1 ▸ zM_k6 (z := (12 * (S14 1073 1) + 0)) (by omega) rfl)); exact Or.inr (Or.inl (h.1 ▸ zM_k6 (z := (12 * (S14 1073 1) + 0)) (by omega) rfl)); exact Or.inr (Or.inl (h.1 ▸ zM_k6 (z := (12 * (S14 1073 1) + 0)) (by omega) rfl)); exact Or.inr (Or.inl (h.1 ▸ zM_k6 (z := (12 * (S14 1073 1) + 0)) (by omega) rfl)); exact Or.inr (Or.inl (h.1 ▸ zM_k6 (z := (12 * (S14 1073 1) + 0)) (by omega) rfl)); exact Or.inr (Or.inl (h.1 ▸ zM_k6 (z := (12 * (S14 1073 1) + 0)) (by omega) rfl)); exact Or.inr (Or.inl (h.1 ▸ zM_k6 (z := (12 * (S14 1073 1) + 0)) (by omega) rfl)); exact Or.inr (Or.inl (h.1 ▸ zM_k6 (z := (12 * (S14 1073 1) + 0)) (by omega) rfl)); exact Or.inr (Or.inl (h.1 ▸ zM_k6 (z := (12 * (S14 1073 1) + 0)) (by omega) rfl)); exact Or.inr (Or.inl (h.1 ▸ zM_k6 (z := (12 * (S14 1073 1) + 0)) (by omega) rfl)); exact Or.inr (Or.inl (h.1 ▸ zM_k6 (z := (12 * (S14 1073 1) + 0)) (by omega) rfl)); exact Or.inr (Or.inl (h.1 ▸ zM_k6 (z := (12 * (S14 1073 1) + 0)) (by omega) rfl)); exact Or.inr (Or.inl (h.1 ▸ zM_k6 (z := (12 * (S14 1073 1) + 0)) (by omega) rfl)); exact Or.inr (Or.inl (h.1 ▸ zM_k6 (z := (12 * (S14 1073 1) + 0)) (by omega) rfl)))
            have b24 := zz_rf3 (z := (S14 1073 1)) (by omega)
            have b25 := zz_rf6 (z := (12 * (S14 1073 1) + 0)) (by omega)
            have H_S19 : zz_Hc S19 := o22
            rcases (by omega : v20 = 0 ∨ v20 = 1) with rfl | rfl
            · refine zz_if_eq (by omega) zd_8_2_98 (fun c26 => ?_) (fun c26 => ?_)
              · refine zz_iconst zd_8_2_112 ?_
                refine zz_istore [some (.ref 1073), none, some (zi x2), some (zi x3), some (zi 0)] zd_8_2_113 (by decide) rfl ?_
                refine zz_iload (x := 0) rfl zd_8_2_115 ?_
                refine zz_if_ne (by omega) zd_8_2_117 (fun c27 => ?_) (fun c27 => ?_)
                · exfalso; omega
                · refine zz_iload_n (x := x3) rfl zd_8_2_120 ?_
                  exact zz_iret zd_8_2_121 rfl (Nat.zero_le _) (Nat.zero_le _) ⟨_, _, rfl, G_S19, F_S19, by omega, H_S19⟩
              · exfalso; omega
            · refine zz_if_eq (by omega) zd_8_2_98 (fun c28 => ?_) (fun c28 => ?_)
              · exfalso; omega
              · refine zz_aload_n (x := 1073) rfl zd_8_2_101 ?_
                refine zz_callVI [] zd_8_2_102 zk_NetworkReader_68 zT_1073 (zz_ltn hn rfl) rfl rfl ⟨Nat.le_of_ble_eq_true rfl, Nat.le_of_ble_eq_true rfl⟩ ⟨rfl, rfl⟩ (Nat.zero_le _) (Nat.zero_le _) (zc_readOptions_8_7  S19 n hn G_S19 ) (fun v30 S29 hP => ?_)
                obtain ⟨G_S29, fS29, o31⟩ := hP
                have F_S29 := zz_fr.trans F_S19 fS29 rfl zz_nv
                have H_S29 : zz_Hc S29 := zz_Hc.fr (q := 0) fS29 rfl rfl G_S19 (by decide) rfl (fun b j h => h.elim) H_S19
                rcases (by omega : v30 = 0 ∨ v30 = 1) with rfl | rfl
                · refine zz_if_eq (by omega) zd_8_2_105 (fun c32 => ?_) (fun c32 => ?_)
                  · refine zz_iconst zd_8_2_112 ?_
                    refine zz_istore [some (.ref 1073), none, some (zi x2), some (zi x3), some (zi 0)] zd_8_2_113 (by decide) rfl ?_
                    refine zz_iload (x := 0) rfl zd_8_2_115 ?_
                    refine zz_if_ne (by omega) zd_8_2_117 (fun c33 => ?_) (fun c33 => ?_)
                    · exfalso; omega
                    · refine zz_iload_n (x := x3) rfl zd_8_2_120 ?_
                      exact zz_iret zd_8_2_121 rfl (Nat.zero_le _) (Nat.zero_le _) ⟨_, _, rfl, G_S29, F_S29, by omega, H_S29⟩
                  · exfalso; omega
                · refine zz_if_eq (by omega) zd_8_2_105 (fun c34 => ?_) (fun c34 => ?_)
                  · exfalso; omega
                  · refine zz_iconst zd_8_2_108 ?_
                    refine zz_goto zd_8_2_109 ?_
                    refine zz_istore [some (.ref 1073), none, some (zi x2), some (zi x3), some (zi 1)] zd_8_2_113 (by decide) rfl ?_
                    refine zz_iload (x := 1) rfl zd_8_2_115 ?_
                    refine zz_if_ne (by omega) zd_8_2_117 (fun c35 => ?_) (fun c35 => ?_)
                    · refine zz_iconst zd_8_2_122 ?_
                      refine zz_istore_n [some (.ref 1073), none, some (zi 1), some (zi x3), some (zi 1)] zd_8_2_123 (by decide) rfl ?_
                      refine zz_aload_n (x := 1073) rfl zd_8_2_124 ?_
                      refine zz_aload_n (x := 1073) rfl zd_8_2_125 ?_
                      have g36 := zz_G.r G_S 1073 1 0 1 rfl rfl
                      refine zz_getr (kd := 1) (z := S 1073 1) zd_8_2_126 zf_NetworkReader_15 zT_1073 rfl (zz_ltn hn rfl) (zz_rc fS29 rfl rfl (fun h => h) (zz_rc fS19 rfl rfl (by omega) (zz_rc fS14 rfl rfl (fun h => h) (zz_rc fS8 rfl rfl (fun h => h) rfl)))) (by omega) (zz_rf 3 (S 1073 1)) rfl ?_
                      have g37 := zz_G.r G_S19 (zz_rf 3 (S 1073 1)) 1 1 11 (zR_k3_1 (by omega)) (zB_k3 (by omega))
                      refine zz_geti (z := S19 (zz_rf 3 (S 1073 1)) 1) zd_8_2_129 zf_NetworkReader_78 (zT_k3 (by omega)) rfl (zN_k3 hn (by omega)) (zz_rc fS29 (zP_k3 (by omega) rfl) (zQ_k3 (by omega) rfl) (fun h => h) rfl) ?_
                      refine zz_iconst zd_8_2_132 ?_
                      refine zz_isub zd_8_2_133 ?_
                      refine zz_callVV [zi ((S19 (zz_rf 3 (S 1073 1)) 1) - 1)] zd_8_2_134 zk_NetworkReader_81 zT_1073 (zz_ltn hn rfl) rfl rfl ⟨Nat.le_of_ble_eq_true rfl, Nat.le_of_ble_eq_true rfl⟩ ⟨rfl, rfl⟩ (Nat.zero_le _) (Nat.zero_le _) (zc_keepName_8_13 ((S19 (zz_rf 3 (S 1073 1)) 1) - 1) S29 n hn G_S29 (by omega)) (fun S38 hP => ?_)
                      obtain ⟨G_S38, fS38⟩ := hP
                      have F_S38 := zz_fr.trans F_S29 fS38 rfl zz_nv
                      have H_S38 : zz_Hc S38 := zz_Hc.fr (q := 0) fS38 rfl rfl G_S29 (by decide) rfl (fun b j h => h.elim) H_S29
                      refine zz_iinc [some (.ref 1073), none, some (zi 1), some (zi (x3 + 1)), some (zi 1)] zd_8_2_137 rfl rfl ?_
                      refine zz_goto zd_8_2_140 ?_
                      refine zz_less (ls1 := [some (.ref 1073), none, some (zi 1), some (zi (x3 + 1))]) ⟨rfl, ⟨rfl, ⟨rfl, trivial⟩⟩⟩ ?_
                      exact k24 1 (x3 + 1) S38 G_S38 F_S38 (by omega) (by omega) H_S38 (by omega)
                    · exfalso; omega
          · refine zz_aload_n (x := 1073) rfl zd_8_2_62 ?_
            refine zz_callVI [] zd_8_2_63 zk_NetworkReader_65 zT_1073 (zz_ltn hn rfl) rfl rfl ⟨Nat.le_of_ble_eq_true rfl, Nat.le_of_ble_eq_true rfl⟩ ⟨rfl, rfl⟩ (Nat.zero_le _) (Nat.zero_le _) (zc_readLayer_8_4  S14 n hn G_S14 ) (fun v41 S40 hP => ?_)
            obtain ⟨G_S40, fS40, o42⟩ := hP
            have F_S40 := zz_fr.trans F_S14 fS40 rfl zz_nv
            have H_S40 : zz_Hc S40 := zz_Hc.fr (q := 0) fS40 rfl rfl G_S14 (by decide) rfl (fun b j h => h.elim) H_S14
            rcases (by omega : v41 = 0 ∨ v41 = 1) with rfl | rfl
            · refine zz_if_eq (by omega) zd_8_2_66 (fun c43 => ?_) (fun c43 => ?_)
              · refine zz_iconst zd_8_2_90 ?_
                refine zz_goto zd_8_2_91 ?_
                refine zz_istore [some (.ref 1073), none, some (zi x2), some (zi x3), some (zi 0)] zd_8_2_113 (by decide) rfl ?_
                refine zz_iload (x := 0) rfl zd_8_2_115 ?_
                refine zz_if_ne (by omega) zd_8_2_117 (fun c44 => ?_) (fun c44 => ?_)
                · exfalso; omega
                · refine zz_iload_n (x := x3) rfl zd_8_2_120 ?_
                  exact zz_iret zd_8_2_121 rfl (Nat.zero_le _) (Nat.zero_le _) ⟨_, _, rfl, G_S40, F_S40, by omega, H_S40⟩
              · exfalso; omega
            · refine zz_if_eq (by omega) zd_8_2_66 (fun c45 => ?_) (fun c45 => ?_)
              · exfalso; omega
              · refine zz_aload_n (x := 1073) rfl zd_8_2_69 ?_
                refine zz_callVI [] zd_8_2_70 zk_NetworkReader_68 zT_1073 (zz_ltn hn rfl) rfl rfl ⟨Nat.le_of_ble_eq_true rfl, Nat.le_of_ble_eq_true rfl⟩ ⟨rfl, rfl⟩ (Nat.zero_le _) (Nat.zero_le _) (zc_readOptions_8_7  S40 n hn G_S40 ) (fun v47 S46 hP => ?_)
                obtain ⟨G_S46, fS46, o48⟩ := hP
                have F_S46 := zz_fr.trans F_S40 fS46 rfl zz_nv
                have H_S46 : zz_Hc S46 := zz_Hc.fr (q := 0) fS46 rfl rfl G_S40 (by decide) rfl (fun b j h => h.elim) H_S40
                rcases (by omega : v47 = 0 ∨ v47 = 1) with rfl | rfl
                · refine zz_if_eq (by omega) zd_8_2_73 (fun c49 => ?_) (fun c49 => ?_)
                  · refine zz_iconst zd_8_2_90 ?_
                    refine zz_goto zd_8_2_91 ?_
                    refine zz_istore [some (.ref 1073), none, some (zi x2), some (zi x3), some (zi 0)] zd_8_2_113 (by decide) rfl ?_
                    refine zz_iload (x := 0) rfl zd_8_2_115 ?_
                    refine zz_if_ne (by omega) zd_8_2_117 (fun c50 => ?_) (fun c50 => ?_)
                    · exfalso; omega
                    · refine zz_iload_n (x := x3) rfl zd_8_2_120 ?_
                      exact zz_iret zd_8_2_121 rfl (Nat.zero_le _) (Nat.zero_le _) ⟨_, _, rfl, G_S46, F_S46, by omega, H_S46⟩
                  · exfalso; omega
                · refine zz_if_eq (by omega) zd_8_2_73 (fun c51 => ?_) (fun c51 => ?_)
                  · exfalso; omega
                  · refine zz_aload_n (x := 1073) rfl zd_8_2_76 ?_
                    have g52 := zz_G.r G_S 1073 1 0 1 rfl rfl
                    refine zz_getr (kd := 1) (z := S 1073 1) zd_8_2_77 zf_NetworkReader_15 zT_1073 rfl (zz_ltn hn rfl) (zz_rc fS46 rfl rfl (fun h => h) (zz_rc fS40 rfl rfl (fun h => h) (zz_rc fS14 rfl rfl (fun h => h) (zz_rc fS8 rfl rfl (fun h => h) rfl)))) (by omega) (zz_rf 3 (S 1073 1)) rfl ?_
                    refine zz_callVI [] zd_8_2_80 zk_NetworkReader_71 (zT_k3 (by omega)) (zN_k3 hn (by omega)) rfl rfl ⟨Nat.le_of_ble_eq_true rfl, Nat.le_of_ble_eq_true rfl⟩ ⟨rfl, rfl⟩ (Nat.zero_le _) (Nat.zero_le _) (zc_offer_7_7 (S 1073 1) S46 n hn G_S46 (by omega) H_S46) (fun v54 S53 hP => ?_)
                    obtain ⟨G_S53, fS53, o55, o56⟩ := hP
                    have g57 := zz_G.r G_S 1073 1 0 1 rfl rfl
                    have b58 := zz_G.r G_S46 (zz_rf 3 (S 1073 1)) 1 1 11 (zR_k3_1 (by omega)) (zB_k3 (by omega))
                    have F_S53 := zz_fr.trans F_S46 fS53 rfl (fun a i h => by rcases h with h | h | h | h | h; exact Or.inr (Or.inl (h.1 ▸ zM_k3 (z := (S 1073 1)) (by omega) rfl)); exact Or.inr (Or.inl (h.1 ▸ zM_k6 (z := (12 * (S 1073 1) + S46 (zz_rf 3 (S 1073 1)) 1)) (by omega) rfl)); exact Or.inr (Or.inl (h.1 ▸ zM_k6 (z := (12 * (S 1073 1) + S46 (zz_rf 3 (S 1073 1)) 1)) (by omega) rfl)); exact Or.inr (Or.inl (h.1 ▸ zM_k6 (z := (12 * (S 1073 1) + S46 (zz_rf 3 (S 1073 1)) 1)) (by omega) rfl)); exact Or.inr (Or.inl (h.1 ▸ zM_k6 (z := (12 * (S 1073 1) + S46 (zz_rf 3 (S 1073 1)) 1)) (by omega) rfl)))
                    have b59 := zz_rf3 (z := (S 1073 1)) (by omega)
                    have b60 := zz_G.r G_S46 (zz_rf 3 (S 1073 1)) 1 1 11 (zR_k3_1 (by omega)) (zB_k3 (by omega))
                    have b61 := zz_rf6 (z := (12 * (S 1073 1) + S46 (zz_rf 3 (S 1073 1)) 1)) (by omega)
                    have H_S53 : zz_Hc S53 := o56
                    refine zz_if_ne (by omega) zd_8_2_83 (fun c62 => ?_) (fun c62 => ?_)
                    · refine zz_iconst zd_8_2_90 ?_
                      refine zz_goto zd_8_2_91 ?_
                      refine zz_istore [some (.ref 1073), none, some (zi x2), some (zi x3), some (zi 0)] zd_8_2_113 (by decide) rfl ?_
                      refine zz_iload (x := 0) rfl zd_8_2_115 ?_
                      refine zz_if_ne (by omega) zd_8_2_117 (fun c63 => ?_) (fun c63 => ?_)
                      · exfalso; omega
                      · refine zz_iload_n (x := x3) rfl zd_8_2_120 ?_
                        exact zz_iret zd_8_2_121 rfl (Nat.zero_le _) (Nat.zero_le _) ⟨_, _, rfl, G_S53, F_S53, by omega, H_S53⟩
                    · refine zz_iconst zd_8_2_86 ?_
                      refine zz_goto zd_8_2_87 ?_
                      refine zz_istore [some (.ref 1073), none, some (zi x2), some (zi x3), some (zi 1)] zd_8_2_113 (by decide) rfl ?_
                      refine zz_iload (x := 1) rfl zd_8_2_115 ?_
                      refine zz_if_ne (by omega) zd_8_2_117 (fun c64 => ?_) (fun c64 => ?_)
                      · refine zz_iconst zd_8_2_122 ?_
                        refine zz_istore_n [some (.ref 1073), none, some (zi 1), some (zi x3), some (zi 1)] zd_8_2_123 (by decide) rfl ?_
                        refine zz_aload_n (x := 1073) rfl zd_8_2_124 ?_
                        refine zz_aload_n (x := 1073) rfl zd_8_2_125 ?_
                        refine zz_getr (kd := 1) (z := S 1073 1) zd_8_2_126 zf_NetworkReader_15 zT_1073 rfl (zz_ltn hn rfl) (zz_rc fS53 rfl rfl (by omega) (zz_rc fS46 rfl rfl (fun h => h) (zz_rc fS40 rfl rfl (fun h => h) (zz_rc fS14 rfl rfl (fun h => h) (zz_rc fS8 rfl rfl (fun h => h) rfl))))) (by omega) (zz_rf 3 (S 1073 1)) rfl ?_
                        have g65 := zz_G.r G_S53 (zz_rf 3 (S 1073 1)) 1 1 11 (zR_k3_1 (by omega)) (zB_k3 (by omega))
                        refine zz_geti (z := S53 (zz_rf 3 (S 1073 1)) 1) zd_8_2_129 zf_NetworkReader_78 (zT_k3 (by omega)) rfl (zN_k3 hn (by omega)) rfl ?_
                        refine zz_iconst zd_8_2_132 ?_
                        refine zz_isub zd_8_2_133 ?_
                        refine zz_callVV [zi ((S53 (zz_rf 3 (S 1073 1)) 1) - 1)] zd_8_2_134 zk_NetworkReader_81 zT_1073 (zz_ltn hn rfl) rfl rfl ⟨Nat.le_of_ble_eq_true rfl, Nat.le_of_ble_eq_true rfl⟩ ⟨rfl, rfl⟩ (Nat.zero_le _) (Nat.zero_le _) (zc_keepName_8_13 ((S53 (zz_rf 3 (S 1073 1)) 1) - 1) S53 n hn G_S53 (by omega)) (fun S66 hP => ?_)
                        obtain ⟨G_S66, fS66⟩ := hP
                        have F_S66 := zz_fr.trans F_S53 fS66 rfl zz_nv
                        have H_S66 : zz_Hc S66 := zz_Hc.fr (q := 0) fS66 rfl rfl G_S53 (by decide) rfl (fun b j h => h.elim) H_S53
                        refine zz_iinc [some (.ref 1073), none, some (zi 1), some (zi (x3 + 1)), some (zi 1)] zd_8_2_137 rfl rfl ?_
                        refine zz_goto zd_8_2_140 ?_
                        refine zz_less (ls1 := [some (.ref 1073), none, some (zi 1), some (zi (x3 + 1))]) ⟨rfl, ⟨rfl, ⟨rfl, trivial⟩⟩⟩ ?_
                        exact k24 1 (x3 + 1) S66 G_S66 F_S66 (by omega) (by omega) H_S66 (by omega)
                      · exfalso; omega
theorem zi_readInto_8_2 {g : mm_G} {l : Launch} (p0 : Int) (S0 : zz_S) (n : Nat) (hn : zz_end ≤ n) (G_S0 : zz_G S0) (hp0 : 0 ≤ p0 ∧ p0 ≤ 1) (H_S0 : zz_Hc S0) : ∀ N : Nat, (∀ (x2 : Int) (x3 : Int) (S : zz_S), zz_G S → zz_fr [(1070, 2), (1070, 3), (1070, 4), (1070, 5), (1070, 6), (1073, 1), (1073, 4), (1073, 5), (1073, 6), (1073, 7), (1073, 8)] [1001, 1003, 1004, 1005, 1006, 1007, 1008, 1009, 1010, 1011, 1012, 1013, 1014, 1015, 1017, 1018, 1019, 1020, 1021, 1022, 1023, 1024, 1025, 1026, 1027, 1028, 1074, 1075] (fun _ _ => False) S0 S → (0 ≤ x2 ∧ x2 ≤ 1) → (0 ≤ x3 ∧ x3 ≤ 1501) → (zz_Hc S) → (1500 + 1 - x3).toNat < N → zz_E g l zy_readInto_8_2 zr_readInto_8_2 (zz_QI n (zp_readInto_8_2 p0 S0)) S n 24 [some (.ref 1073), none, some (zi x2), some (zi x3)] [] 0 0) := by
  intro N
  induction N with
  | zero => exact fun x2 x3 S _ _ _ _ _ h => absurd h (Nat.not_lt_zero _)
  | succ N ih =>
    exact fun x2 x3 S a b j0 j1 j2 hR => zb_readInto_8_2_24 p0 S0 n hn G_S0 hp0 H_S0 x2 x3 S a b j0 j1 j2 _ rfl (fun x2 x3 S a b j0 j1 j2 h => ih x2 x3 S a b j0 j1 j2 (Nat.lt_of_lt_of_le h (Nat.le_of_lt_succ hR)))
theorem zc_readInto_8_2 {g : mm_G} {l : Launch} (p0 : Int) (S0 : zz_S) (n : Nat) (hn : zz_end ≤ n) (G_S0 : zz_G S0) (hp0 : 0 ≤ p0 ∧ p0 ≤ 1) (H_S0 : zz_Hc S0) : mm_Met g l zy_readInto_8_2 zr_readInto_8_2 [.ref 1073, .ref (zz_rf 3 p0)] (zz_M S0 n) n (zz_QI n (zp_readInto_8_2 p0 S0)) := by
  refine zz_enter (by decide) (Nat.le_of_ble_eq_true rfl) (zz_less (ls1 := [some (.ref 1073), some (.ref (zz_rf 3 p0))]) ⟨rfl, ⟨rfl, trivial⟩⟩ ?_)
  have F_S0 : zz_fr [(1070, 2), (1070, 3), (1070, 4), (1070, 5), (1070, 6), (1073, 1), (1073, 4), (1073, 5), (1073, 6), (1073, 7), (1073, 8)] [1001, 1003, 1004, 1005, 1006, 1007, 1008, 1009, 1010, 1011, 1012, 1013, 1014, 1015, 1017, 1018, 1019, 1020, 1021, 1022, 1023, 1024, 1025, 1026, 1027, 1028, 1074, 1075] (fun _ _ => False) S0 S0 := zz_fr.refl
  have k24 : ∀ (x2 : Int) (x3 : Int) (S : zz_S), zz_G S → zz_fr [(1070, 2), (1070, 3), (1070, 4), (1070, 5), (1070, 6), (1073, 1), (1073, 4), (1073, 5), (1073, 6), (1073, 7), (1073, 8)] [1001, 1003, 1004, 1005, 1006, 1007, 1008, 1009, 1010, 1011, 1012, 1013, 1014, 1015, 1017, 1018, 1019, 1020, 1021, 1022, 1023, 1024, 1025, 1026, 1027, 1028, 1074, 1075] (fun _ _ => False) S0 S → (0 ≤ x2 ∧ x2 ≤ 1) → (0 ≤ x3 ∧ x3 ≤ 1501) → (zz_Hc S) → zz_E g l zy_readInto_8_2 zr_readInto_8_2 (zz_QI n (zp_readInto_8_2 p0 S0)) S n 24 [some (.ref 1073), none, some (zi x2), some (zi x3)] [] 0 0 := fun x2 x3 S a b j0 j1 j2 => (zi_readInto_8_2 (g := g) (l := l) p0 S0 n hn G_S0 hp0 H_S0 _) x2 x3 S a b j0 j1 j2 (Nat.lt_succ_self _)
  have b_p0 := zz_rf3 (z := p0) (by omega)
  refine zz_aload_n (x := 1073) rfl zd_8_2_0 ?_
  refine zz_aload_n (x := zz_rf 3 p0) rfl zd_8_2_1 ?_
  refine zz_putr (kd := 1) p0 zd_8_2_2 zf_NetworkReader_15 zT_1073 rfl (zz_ltn hn rfl) (by omega) rfl (fun _ => rfl) (fun _ => rfl) (fun S1 qS1 => ?_)
  have G_S1 := zz_G.put G_S0 qS1 0 1 rfl (by omega)
  have F_S1 := zz_fr.puts F_S0 qS1 rfl
  have H_S1 : zz_Hc S1 := zz_Hc.fr (q := 0) (zz_fr.put1 qS1) rfl rfl G_S0 (by decide) rfl (fun b j h => by omega) H_S0
  refine zz_iconst zd_8_2_5 ?_
  refine zz_istore_n [some (.ref 1073), some (.ref (zz_rf 3 p0)), some (zi 0)] zd_8_2_6 (by decide) rfl ?_
  refine zz_iconst zd_8_2_7 ?_
  refine zz_istore_n [some (.ref 1073), some (.ref (zz_rf 3 p0)), some (zi 0), some (zi 0)] zd_8_2_8 (by decide) rfl ?_
  refine zz_aload_n (x := 1073) rfl zd_8_2_9 ?_
  refine zz_getr (kd := 0) (z := 1075) zd_8_2_10 zf_NetworkReader_25 zT_1073 rfl (zz_ltn hn rfl) (zz_G.eq G_S1 1073 3 1075 rfl rfl) (by decide) 1075 rfl ?_
  refine zz_iconst zd_8_2_13 ?_
  refine zz_callSV [.ref 1075, zi 0] zd_8_2_14 zk_NetworkReader_44 rfl rfl ⟨Nat.le_of_ble_eq_true rfl, Nat.le_of_ble_eq_true rfl⟩ ⟨rfl, rfl⟩ (Nat.zero_le _) (Nat.zero_le _) (zc_fill_27_103_1075 0 S1 n hn G_S1 (by omega)) (fun S2 hP => ?_)
  obtain ⟨G_S2, fS2⟩ := hP
  have F_S2 := zz_fr.trans F_S1 fS2 rfl zz_nv
  have H_S2 : zz_Hc S2 := zz_Hc.fr (q := 0) fS2 rfl rfl G_S1 (by decide) rfl (fun b j h => h.elim) H_S1
  refine zz_aload_n (x := 1073) rfl zd_8_2_17 ?_
  refine zz_getr (kd := 0) (z := 1070) zd_8_2_18 zf_NetworkReader_9 zT_1073 rfl (zz_ltn hn rfl) (zz_G.eq G_S2 1073 0 1070 rfl rfl) (by decide) 1070 rfl ?_
  refine zz_callVV [] zd_8_2_21 zk_NetworkReader_50 zT_1070 (zz_ltn hn rfl) rfl rfl ⟨Nat.le_of_ble_eq_true rfl, Nat.le_of_ble_eq_true rfl⟩ ⟨rfl, rfl⟩ (Nat.zero_le _) (Nat.zero_le _) (zc_rewind_11_5  S2 n hn G_S2 ) (fun S4 hP => ?_)
  obtain ⟨G_S4, fS4⟩ := hP
  have F_S4 := zz_fr.trans F_S2 fS4 rfl zz_nv
  have H_S4 : zz_Hc S4 := zz_Hc.fr (q := 0) fS4 rfl rfl G_S2 (by decide) rfl (fun b j h => h.elim) H_S2
  refine zz_less (ls1 := [some (.ref 1073), none, some (zi 0), some (zi 0)]) ⟨rfl, ⟨rfl, ⟨rfl, trivial⟩⟩⟩ ?_
  exact k24 0 0 S4 G_S4 F_S4 (by omega) (by omega) H_S4
theorem zk_TF_296 : mm_Vl "TensorForge" 296 8 1 zy_readInto_8_2 := ⟨zyw_readInto_8_2, (R_NetworkReader, F_NetworkReader, 9), rfl, mm_tb_1 912 (by decide +kernel) rfl, mm_tb_1 913 (by decide +kernel) rfl, mm_tb_1 914 (by decide +kernel) rfl⟩
theorem zd_1_25_11 : zz_D zy_network_1_25 11 (.istore_n 1) 1 12 := ⟨by decide +kernel, rfl⟩
theorem zd_1_25_12 : zz_D zy_network_1_25 12 (.iload_n 1) 1 13 := ⟨by decide +kernel, rfl⟩
theorem zd_1_25_13 : zz_D zy_network_1_25 13 (.iconst (-1)) 1 14 := ⟨by decide +kernel, rfl⟩
theorem zd_1_25_14 : zz_B zy_network_1_25 14 (Instr.if_icmp .ne) 35 17 := ⟨21, by decide +kernel, rfl, rfl⟩
theorem zd_1_25_35 : zz_D zy_network_1_25 35 (.iload_n 1) 1 36 := ⟨by decide +kernel, rfl⟩
theorem zd_1_25_36 : zz_D zy_network_1_25 36 (.ireturn) 1 37 := ⟨by decide +kernel, rfl⟩
theorem zd_1_25_17 : zz_D zy_network_1_25 17 (.aload_n 0) 1 18 := ⟨by decide +kernel, rfl⟩
theorem zd_1_25_18 : zz_D zy_network_1_25 18 (.getfield 10) 3 21 := ⟨by decide +kernel, rfl⟩
theorem zd_1_25_21 : zz_D zy_network_1_25 21 (.astore_n 2) 1 22 := ⟨by decide +kernel, rfl⟩
theorem zd_1_25_22 : zz_D zy_network_1_25 22 (.aload_n 0) 1 23 := ⟨by decide +kernel, rfl⟩
theorem zd_1_25_23 : zz_D zy_network_1_25 23 (.aload_n 0) 1 24 := ⟨by decide +kernel, rfl⟩
theorem zd_1_25_24 : zz_D zy_network_1_25 24 (.getfield 16) 3 27 := ⟨by decide +kernel, rfl⟩
theorem zd_1_25_27 : zz_D zy_network_1_25 27 (.putfield 10) 3 30 := ⟨by decide +kernel, rfl⟩
theorem zd_1_25_30 : zz_D zy_network_1_25 30 (.aload_n 0) 1 31 := ⟨by decide +kernel, rfl⟩
theorem zd_1_25_31 : zz_D zy_network_1_25 31 (.aload_n 2) 1 32 := ⟨by decide +kernel, rfl⟩
theorem zd_1_25_32 : zz_D zy_network_1_25 32 (.putfield 16) 3 35 := ⟨by decide +kernel, rfl⟩
-- TensorForge network ()I
abbrev zr_network_1_25 : Room := { frames := 10, cells := 0, slots := 0, locals := 139 }
def zp_network_1_25  (S0 : zz_S) : Int → zz_S → Prop := fun r S => zz_G S ∧ zz_fr [(1000, 7), (1000, 8), (1070, 2), (1070, 3), (1070, 4), (1070, 5), (1070, 6), (1073, 1), (1073, 4), (1073, 5), (1073, 6), (1073, 7), (1073, 8)] [1001, 1003, 1004, 1005, 1006, 1007, 1008, 1009, 1010, 1011, 1012, 1013, 1014, 1015, 1017, 1018, 1019, 1020, 1021, 1022, 1023, 1024, 1025, 1026, 1027, 1028, 1074, 1075] (fun _ _ => False) S0 S ∧ ((-2147483648) ≤ r ∧ r ≤ 2147483647) ∧ (zz_Hc S)
theorem zc_network_1_25 {g : mm_G} {l : Launch}  (S0 : zz_S) (n : Nat) (hn : zz_end ≤ n) (G_S0 : zz_G S0) (H_S0 : zz_Hc S0) : mm_Met g l zy_network_1_25 zr_network_1_25 [.ref 1000] (zz_M S0 n) n (zz_QI n (zp_network_1_25  S0)) := by
  refine zz_enter (by decide) (Nat.le_of_ble_eq_true rfl) (zz_less (ls1 := [some (.ref 1000)]) ⟨rfl, trivial⟩ ?_)
  have F_S0 : zz_fr [(1000, 7), (1000, 8), (1070, 2), (1070, 3), (1070, 4), (1070, 5), (1070, 6), (1073, 1), (1073, 4), (1073, 5), (1073, 6), (1073, 7), (1073, 8)] [1001, 1003, 1004, 1005, 1006, 1007, 1008, 1009, 1010, 1011, 1012, 1013, 1014, 1015, 1017, 1018, 1019, 1020, 1021, 1022, 1023, 1024, 1025, 1026, 1027, 1028, 1074, 1075] (fun _ _ => False) S0 S0 := zz_fr.refl
  refine zz_aload_n (x := 1000) rfl zd_1_25_0 ?_
  refine zz_getr (kd := 0) (z := 1073) zd_1_25_1 zf_TF_67 zT_1000 rfl (zz_ltn hn rfl) (zz_G.eq G_S0 1000 4 1073 rfl rfl) (by decide) 1073 rfl ?_
  refine zz_aload_n (x := 1000) rfl zd_1_25_4 ?_
  have g1 := zz_G.r G_S0 1000 8 0 1 rfl rfl
  refine zz_getr (kd := 1) (z := S0 1000 8) zd_1_25_5 zf_TF_16 zT_1000 rfl (zz_ltn hn rfl) rfl (by omega) (zz_rf 3 (S0 1000 8)) rfl ?_
  refine zz_callVI [.ref (zz_rf 3 (S0 1000 8))] zd_1_25_8 zk_TF_296 zT_1073 (zz_ltn hn rfl) rfl rfl ⟨Nat.le_of_ble_eq_true rfl, Nat.le_of_ble_eq_true rfl⟩ ⟨rfl, rfl⟩ (Nat.zero_le _) (Nat.zero_le _) (zc_readInto_8_2 (S0 1000 8) S0 n hn G_S0 (by omega) H_S0) (fun v3 S2 hP => ?_)
  obtain ⟨G_S2, fS2, o4, o5⟩ := hP
  have F_S2 := zz_fr.trans F_S0 fS2 rfl zz_nv
  have H_S2 : zz_Hc S2 := o5
  refine zz_istore_n [some (.ref 1000), some (zi v3)] zd_1_25_11 (by decide) rfl ?_
  refine zz_iload_n (x := v3) rfl zd_1_25_12 ?_
  refine zz_iconst zd_1_25_13 ?_
  refine zz_icmp_ne (by omega) (by omega) zd_1_25_14 (fun c6 => ?_) (fun c6 => ?_)
  · refine zz_iload_n (x := v3) rfl zd_1_25_35 ?_
    exact zz_iret zd_1_25_36 rfl (Nat.zero_le _) (Nat.zero_le _) ⟨_, _, rfl, G_S2, F_S2, by omega, H_S2⟩
  · refine zz_aload_n (x := 1000) rfl zd_1_25_17 ?_
    have g7 := zz_G.r G_S0 1000 7 0 1 rfl rfl
    refine zz_getr (kd := 1) (z := S0 1000 7) zd_1_25_18 zf_TF_10 zT_1000 rfl (zz_ltn hn rfl) (zz_rc fS2 rfl rfl (fun h => h) rfl) (by omega) (zz_rf 3 (S0 1000 7)) rfl ?_
    refine zz_astore_n [some (.ref 1000), some (zi v3), some (.ref (zz_rf 3 (S0 1000 7)))] zd_1_25_21 (by decide) rfl ?_
    refine zz_aload_n (x := 1000) rfl zd_1_25_22 ?_
    refine zz_aload_n (x := 1000) rfl zd_1_25_23 ?_
    refine zz_getr (kd := 1) (z := S0 1000 8) zd_1_25_24 zf_TF_16 zT_1000 rfl (zz_ltn hn rfl) (zz_rc fS2 rfl rfl (fun h => h) rfl) (by omega) (zz_rf 3 (S0 1000 8)) rfl ?_
    refine zz_putr (kd := 1) (S0 1000 8) zd_1_25_27 zf_TF_10 zT_1000 rfl (zz_ltn hn rfl) (by omega) rfl (fun _ => rfl) (fun _ => rfl) (fun S8 qS8 => ?_)
    have G_S8 := zz_G.put G_S2 qS8 0 1 rfl (by omega)
    have F_S8 := zz_fr.puts F_S2 qS8 rfl
    have H_S8 : zz_Hc S8 := zz_Hc.fr (q := 0) (zz_fr.put1 qS8) rfl rfl G_S2 (by decide) rfl (fun b j h => by omega) H_S2
    refine zz_aload_n (x := 1000) rfl zd_1_25_30 ?_
    refine zz_aload_n (x := zz_rf 3 (S0 1000 7)) rfl zd_1_25_31 ?_
    refine zz_putr (kd := 1) (S0 1000 7) zd_1_25_32 zf_TF_16 zT_1000 rfl (zz_ltn hn rfl) (by omega) rfl (fun _ => rfl) (fun _ => rfl) (fun S9 qS9 => ?_)
    have G_S9 := zz_G.put G_S8 qS9 0 1 rfl (by omega)
    have F_S9 := zz_fr.puts F_S8 qS9 rfl
    have H_S9 : zz_Hc S9 := zz_Hc.fr (q := 0) (zz_fr.put1 qS9) rfl rfl G_S8 (by decide) rfl (fun b j h => by omega) H_S8
    refine zz_iload_n (x := v3) rfl zd_1_25_35 ?_
    exact zz_iret zd_1_25_36 rfl (Nat.zero_le _) (Nat.zero_le _) ⟨_, _, rfl, G_S9, F_S9, by omega, H_S9⟩
abbrev zy_networkSign_1_26 : mm_Y := (⟨"TensorForge", "networkSign", "(II)I"⟩, prog_1_method_26_code, 3, (some .int))
theorem zyw_networkSign_1_26 : mm_Yw zy_networkSign_1_26 2 := ⟨mm_tb_1 1487 (by decide +kernel) rfl, mm_tb_1 1 (by decide +kernel) rfl, ⟨by decide, by decide⟩, by decide +kernel⟩
theorem zd_1_26_0 : zz_D zy_networkSign_1_26 0 (.aload_n 0) 1 1 := ⟨by decide +kernel, rfl⟩
theorem zd_1_26_1 : zz_D zy_networkSign_1_26 1 (.getfield 10) 3 4 := ⟨by decide +kernel, rfl⟩
theorem zd_1_26_4 : zz_D zy_networkSign_1_26 4 (.iload_n 1) 1 5 := ⟨by decide +kernel, rfl⟩
theorem zd_1_26_5 : zz_D zy_networkSign_1_26 5 (.invokevirtual 251) 3 8 := ⟨by decide +kernel, rfl⟩
theorem zd_1_26_8 : zz_B zy_networkSign_1_26 8 (Instr.ifCond .eq) 15 11 := ⟨7, by decide +kernel, rfl, rfl⟩
theorem zt_1_26_15 : zz_ThrW zy_networkSign_1_26 15 101 299 105 := ⟨by decide +kernel, by decide +kernel, by decide +kernel, by decide +kernel, by decide +kernel⟩
theorem zxl_TF_101_299_105 : mm_Xl "TensorForge" 101 299 105 1 := ⟨mm_tb_1 1133 (by decide +kernel) rfl, mm_tb_1 1134 (by decide +kernel) rfl, mm_tb_1 18 (by decide +kernel) rfl, ⟨56, by decide +kernel⟩, zxa_TF_105⟩
theorem zd_1_26_11 : zz_D zy_networkSign_1_26 11 (.iload_n 2) 1 12 := ⟨by decide +kernel, rfl⟩
theorem zd_1_26_12 : zz_B zy_networkSign_1_26 12 (Instr.ifCond .ge) 26 15 := ⟨14, by decide +kernel, rfl, rfl⟩
theorem zd_1_26_26 : zz_D zy_networkSign_1_26 26 (.aload_n 0) 1 27 := ⟨by decide +kernel, rfl⟩
theorem zd_1_26_27 : zz_D zy_networkSign_1_26 27 (.getfield 83) 3 30 := ⟨by decide +kernel, rfl⟩
theorem zd_1_26_30 : zz_D zy_networkSign_1_26 30 (.aload_n 0) 1 31 := ⟨by decide +kernel, rfl⟩
theorem zd_1_26_31 : zz_D zy_networkSign_1_26 31 (.getfield 10) 3 34 := ⟨by decide +kernel, rfl⟩
theorem zd_1_26_34 : zz_D zy_networkSign_1_26 34 (.getfield 258) 3 37 := ⟨by decide +kernel, rfl⟩
theorem zd_1_26_37 : zz_D zy_networkSign_1_26 37 (.iload_n 1) 1 38 := ⟨by decide +kernel, rfl⟩
theorem zd_1_26_38 : zz_D zy_networkSign_1_26 38 (.aaload) 1 39 := ⟨by decide +kernel, rfl⟩
theorem zd_1_26_39 : zz_D zy_networkSign_1_26 39 (.invokevirtual 301) 3 42 := ⟨by decide +kernel, rfl⟩
abbrev zy_writeLayer_5_4 : mm_Y := (⟨"TensorForge$Line", "writeLayer", "(LTensorForge$Layer;)V"⟩, prog_5_method_4_code, 2, none)
theorem zyw_writeLayer_5_4 : mm_Yw zy_writeLayer_5_4 1 := ⟨mm_tb_1 1492 (by decide +kernel) rfl, mm_tb_1 11 (by decide +kernel) rfl, ⟨by decide, by decide⟩, by decide +kernel⟩
theorem zd_5_4_0 : zz_D zy_writeLayer_5_4 0 (.aload_n 0) 1 1 := ⟨by decide +kernel, rfl⟩
theorem zd_5_4_1 : zz_D zy_writeLayer_5_4 1 (.iconst 0) 1 2 := ⟨by decide +kernel, rfl⟩
theorem zd_5_4_2 : zz_D zy_writeLayer_5_4 2 (.putfield 15) 3 5 := ⟨by decide +kernel, rfl⟩
theorem zd_5_4_5 : zz_D zy_writeLayer_5_4 5 (.aload_n 1) 1 6 := ⟨by decide +kernel, rfl⟩
theorem zd_5_4_6 : zz_D zy_writeLayer_5_4 6 (.getfield 73) 3 9 := ⟨by decide +kernel, rfl⟩
theorem zf_Line_73 : mm_Fl "TensorForge$Line" 73 2 0 .int false := ⟨R_Layer, F_Layer, 15, t_Layer, rfl, i_Layer, by decide, mm_tb_1 59 (by decide +kernel) rfl, rfl, t_Layer_ok, n_Layer, rfl, by decide +kernel⟩
theorem zd_5_4_9 : zz_W zy_writeLayer_5_4 9 122 1 3 #[27, 74, 101] := ⟨27, by decide +kernel⟩
theorem zd_5_4_36 : zz_D zy_writeLayer_5_4 36 (.aload_n 0) 1 37 := ⟨by decide +kernel, rfl⟩
theorem zd_5_4_37 : zz_D zy_writeLayer_5_4 37 (.ldc 78) 2 39 := ⟨by decide +kernel, rfl⟩
theorem zd_5_4_39 : zz_D zy_writeLayer_5_4 39 (.aload_n 1) 1 40 := ⟨by decide +kernel, rfl⟩
theorem zd_5_4_40 : zz_D zy_writeLayer_5_4 40 (.getfield 80) 3 43 := ⟨by decide +kernel, rfl⟩
theorem zf_Line_80 : mm_Fl "TensorForge$Line" 80 2 1 .int false := ⟨R_Layer, F_Layer, 15, t_Layer, rfl, i_Layer, by decide, mm_tb_1 62 (by decide +kernel) rfl, rfl, t_Layer_ok, n_Layer, rfl, by decide +kernel⟩
theorem zd_5_4_43 : zz_D zy_writeLayer_5_4 43 (.invokevirtual 83) 3 46 := ⟨by decide +kernel, rfl⟩
theorem zd_5_4_46 : zz_D zy_writeLayer_5_4 46 (.aload_n 0) 1 47 := ⟨by decide +kernel, rfl⟩
theorem zd_5_4_47 : zz_D zy_writeLayer_5_4 47 (.ldc 43) 2 49 := ⟨by decide +kernel, rfl⟩
theorem zd_5_4_49 : zz_D zy_writeLayer_5_4 49 (.aload_n 1) 1 50 := ⟨by decide +kernel, rfl⟩
theorem zd_5_4_50 : zz_D zy_writeLayer_5_4 50 (.getfield 87) 3 53 := ⟨by decide +kernel, rfl⟩
theorem zf_Line_87 : mm_Fl "TensorForge$Line" 87 2 3 .int false := ⟨R_Layer, F_Layer, 15, t_Layer, rfl, i_Layer, by decide, mm_tb_1 70 (by decide +kernel) rfl, rfl, t_Layer_ok, n_Layer, rfl, by decide +kernel⟩
theorem zd_5_4_53 : zz_D zy_writeLayer_5_4 53 (.aload_n 1) 1 54 := ⟨by decide +kernel, rfl⟩
theorem zd_5_4_54 : zz_D zy_writeLayer_5_4 54 (.getfield 90) 3 57 := ⟨by decide +kernel, rfl⟩
theorem zf_Line_90 : mm_Fl "TensorForge$Line" 90 2 4 .int false := ⟨R_Layer, F_Layer, 15, t_Layer, rfl, i_Layer, by decide, mm_tb_1 72 (by decide +kernel) rfl, rfl, t_Layer_ok, n_Layer, rfl, by decide +kernel⟩
theorem zd_5_4_57 : zz_D zy_writeLayer_5_4 57 (.invokevirtual 45) 3 60 := ⟨by decide +kernel, rfl⟩
theorem zd_5_4_60 : zz_D zy_writeLayer_5_4 60 (.aload_n 0) 1 61 := ⟨by decide +kernel, rfl⟩
theorem zd_5_4_61 : zz_D zy_writeLayer_5_4 61 (.ldc 93) 2 63 := ⟨by decide +kernel, rfl⟩
theorem zd_5_4_63 : zz_D zy_writeLayer_5_4 63 (.aload_n 1) 1 64 := ⟨by decide +kernel, rfl⟩
theorem zd_5_4_64 : zz_D zy_writeLayer_5_4 64 (.getfield 95) 3 67 := ⟨by decide +kernel, rfl⟩
theorem zf_Line_95 : mm_Fl "TensorForge$Line" 95 2 12 .int false := ⟨R_Layer, F_Layer, 15, t_Layer, rfl, i_Layer, by decide, mm_tb_1 104 (by decide +kernel) rfl, rfl, t_Layer_ok, n_Layer, rfl, by decide +kernel⟩
theorem zd_5_4_67 : zz_D zy_writeLayer_5_4 67 (.invokevirtual 83) 3 70 := ⟨by decide +kernel, rfl⟩
theorem zd_5_4_70 : zz_D zy_writeLayer_5_4 70 (.aload_n 0) 1 71 := ⟨by decide +kernel, rfl⟩
theorem zd_5_4_71 : zz_D zy_writeLayer_5_4 71 (.ldc 33) 2 73 := ⟨by decide +kernel, rfl⟩
theorem zd_5_4_73 : zz_D zy_writeLayer_5_4 73 (.aload_n 1) 1 74 := ⟨by decide +kernel, rfl⟩
theorem zd_5_4_74 : zz_D zy_writeLayer_5_4 74 (.getfield 98) 3 77 := ⟨by decide +kernel, rfl⟩
theorem zf_Line_98 : mm_Fl "TensorForge$Line" 98 2 9 .int false := ⟨R_Layer, F_Layer, 15, t_Layer, rfl, i_Layer, by decide, mm_tb_1 91 (by decide +kernel) rfl, rfl, t_Layer_ok, n_Layer, rfl, by decide +kernel⟩
theorem zd_5_4_77 : zz_D zy_writeLayer_5_4 77 (.invokevirtual 83) 3 80 := ⟨by decide +kernel, rfl⟩
theorem zd_5_4_80 : zz_B zy_writeLayer_5_4 80 Instr.goto 155 83 := ⟨75, by decide +kernel, rfl, rfl⟩
theorem zd_5_4_155 : zz_D zy_writeLayer_5_4 155 (.aload_n 0) 1 156 := ⟨by decide +kernel, rfl⟩
theorem zd_5_4_156 : zz_D zy_writeLayer_5_4 156 (.aload_n 1) 1 157 := ⟨by decide +kernel, rfl⟩
theorem zd_5_4_157 : zz_D zy_writeLayer_5_4 157 (.invokevirtual 122) 3 160 := ⟨by decide +kernel, rfl⟩
abbrev zy_addOptions_5_5 : mm_Y := (⟨"TensorForge$Line", "addOptions", "(LTensorForge$Layer;)V"⟩, prog_5_method_5_code, 2, none)
theorem zyw_addOptions_5_5 : mm_Yw zy_addOptions_5_5 1 := ⟨mm_tb_1 1501 (by decide +kernel) rfl, mm_tb_1 11 (by decide +kernel) rfl, ⟨by decide, by decide⟩, by decide +kernel⟩
theorem zd_5_5_0 : zz_D zy_addOptions_5_5 0 (.aload_n 1) 1 1 := ⟨by decide +kernel, rfl⟩
theorem zd_5_5_1 : zz_D zy_addOptions_5_5 1 (.getfield 126) 3 4 := ⟨by decide +kernel, rfl⟩
theorem zf_Line_126 : mm_Fl "TensorForge$Line" 126 2 5 .int false := ⟨R_Layer, F_Layer, 15, t_Layer, rfl, i_Layer, by decide, mm_tb_1 75 (by decide +kernel) rfl, rfl, t_Layer_ok, n_Layer, rfl, by decide +kernel⟩
theorem zd_5_5_4 : zz_D zy_addOptions_5_5 4 (.iconst 1) 1 5 := ⟨by decide +kernel, rfl⟩
theorem zd_5_5_5 : zz_B zy_addOptions_5_5 5 (Instr.if_icmp .eq) 18 8 := ⟨13, by decide +kernel, rfl, rfl⟩
theorem zd_5_5_18 : zz_D zy_addOptions_5_5 18 (.aload_n 1) 1 19 := ⟨by decide +kernel, rfl⟩
theorem zd_5_5_19 : zz_D zy_addOptions_5_5 19 (.getfield 128) 3 22 := ⟨by decide +kernel, rfl⟩
theorem zf_Line_128 : mm_Fl "TensorForge$Line" 128 2 6 .int false := ⟨R_Layer, F_Layer, 15, t_Layer, rfl, i_Layer, by decide, mm_tb_1 80 (by decide +kernel) rfl, rfl, t_Layer_ok, n_Layer, rfl, by decide +kernel⟩
theorem zd_5_5_22 : zz_B zy_addOptions_5_5 22 (Instr.ifCond .eq) 35 25 := ⟨13, by decide +kernel, rfl, rfl⟩
theorem zd_5_5_35 : zz_D zy_addOptions_5_5 35 (.aload_n 1) 1 36 := ⟨by decide +kernel, rfl⟩
theorem zd_5_5_36 : zz_D zy_addOptions_5_5 36 (.getfield 132) 3 39 := ⟨by decide +kernel, rfl⟩
theorem zf_Line_132 : mm_Fl "TensorForge$Line" 132 2 7 .int false := ⟨R_Layer, F_Layer, 15, t_Layer, rfl, i_Layer, by decide, mm_tb_1 85 (by decide +kernel) rfl, rfl, t_Layer_ok, n_Layer, rfl, by decide +kernel⟩
theorem zd_5_5_39 : zz_B zy_addOptions_5_5 39 (Instr.ifCond .eq) 52 42 := ⟨13, by decide +kernel, rfl, rfl⟩
theorem zd_5_5_52 : zz_D zy_addOptions_5_5 52 (.aload_n 0) 1 53 := ⟨by decide +kernel, rfl⟩
theorem zd_5_5_53 : zz_D zy_addOptions_5_5 53 (.aload_n 1) 1 54 := ⟨by decide +kernel, rfl⟩
theorem zd_5_5_54 : zz_D zy_addOptions_5_5 54 (.getfield 136) 3 57 := ⟨by decide +kernel, rfl⟩
theorem zf_Line_136 : mm_Fl "TensorForge$Line" 136 2 8 .boolean false := ⟨R_Layer, F_Layer, 15, t_Layer, rfl, i_Layer, by decide, mm_tb_1 88 (by decide +kernel) rfl, rfl, t_Layer_ok, n_Layer, rfl, by decide +kernel⟩
theorem zd_5_5_57 : zz_D zy_addOptions_5_5 57 (.ldc 140) 2 59 := ⟨by decide +kernel, rfl⟩
theorem zd_5_5_59 : zz_D zy_addOptions_5_5 59 (.invokevirtual 59) 3 62 := ⟨by decide +kernel, rfl⟩
theorem zd_5_5_62 : zz_D zy_addOptions_5_5 62 (.return_) 1 63 := ⟨by decide +kernel, rfl⟩
theorem zd_5_5_42 : zz_D zy_addOptions_5_5 42 (.aload_n 0) 1 43 := ⟨by decide +kernel, rfl⟩
theorem zd_5_5_43 : zz_D zy_addOptions_5_5 43 (.ldc 135) 2 45 := ⟨by decide +kernel, rfl⟩
theorem zd_5_5_45 : zz_D zy_addOptions_5_5 45 (.aload_n 1) 1 46 := ⟨by decide +kernel, rfl⟩
theorem zd_5_5_46 : zz_D zy_addOptions_5_5 46 (.getfield 132) 3 49 := ⟨by decide +kernel, rfl⟩
theorem zd_5_5_49 : zz_D zy_addOptions_5_5 49 (.invokevirtual 83) 3 52 := ⟨by decide +kernel, rfl⟩
theorem zd_5_5_25 : zz_D zy_addOptions_5_5 25 (.aload_n 0) 1 26 := ⟨by decide +kernel, rfl⟩
theorem zd_5_5_26 : zz_D zy_addOptions_5_5 26 (.ldc 131) 2 28 := ⟨by decide +kernel, rfl⟩
theorem zd_5_5_28 : zz_D zy_addOptions_5_5 28 (.aload_n 1) 1 29 := ⟨by decide +kernel, rfl⟩
theorem zd_5_5_29 : zz_D zy_addOptions_5_5 29 (.getfield 128) 3 32 := ⟨by decide +kernel, rfl⟩
theorem zd_5_5_32 : zz_D zy_addOptions_5_5 32 (.invokevirtual 83) 3 35 := ⟨by decide +kernel, rfl⟩
theorem zd_5_5_8 : zz_D zy_addOptions_5_5 8 (.aload_n 0) 1 9 := ⟨by decide +kernel, rfl⟩
theorem zd_5_5_9 : zz_D zy_addOptions_5_5 9 (.ldc 53) 2 11 := ⟨by decide +kernel, rfl⟩
theorem zd_5_5_11 : zz_D zy_addOptions_5_5 11 (.aload_n 1) 1 12 := ⟨by decide +kernel, rfl⟩
theorem zd_5_5_12 : zz_D zy_addOptions_5_5 12 (.getfield 126) 3 15 := ⟨by decide +kernel, rfl⟩
theorem zd_5_5_15 : zz_D zy_addOptions_5_5 15 (.invokevirtual 83) 3 18 := ⟨by decide +kernel, rfl⟩
-- TensorForge$Line addOptions (LTensorForge$Layer;)V
abbrev zr_addOptions_5_5 : Room := { frames := 6, cells := 0, slots := 0, locals := 82 }
def zp_addOptions_5_5 (p0 : Int) (S0 : zz_S) : zz_S → Prop := fun S => zz_G S ∧ zz_fr [(1077, 1)] [1078] (fun _ _ => False) S0 S
theorem zc_addOptions_5_5 {g : mm_G} {l : Launch} (p0 : Int) (S0 : zz_S) (n : Nat) (hn : zz_end ≤ n) (G_S0 : zz_G S0) (hp0 : 0 ≤ p0 ∧ p0 ≤ 23) : mm_Met g l zy_addOptions_5_5 zr_addOptions_5_5 [.ref 1077, .ref (zz_rf 6 p0)] (zz_M S0 n) n (zz_QV n (zp_addOptions_5_5 p0 S0)) := by
  refine zz_enter (by decide) (Nat.le_of_ble_eq_true rfl) (zz_less (ls1 := [some (.ref 1077), some (.ref (zz_rf 6 p0))]) ⟨rfl, ⟨rfl, trivial⟩⟩ ?_)
  have F_S0 : zz_fr [(1077, 1)] [1078] (fun _ _ => False) S0 S0 := zz_fr.refl
  have b_p0 := zz_rf6 (z := p0) (by omega)
  refine zz_aload_n (x := zz_rf 6 p0) rfl zd_5_5_0 ?_
  have g1 := zz_G.r G_S0 (zz_rf 6 p0) 5 (-2147483648) 2147483647 (zR_k6_5 (by omega)) (zB_k6 (by omega))
  refine zz_geti (z := S0 (zz_rf 6 p0) 5) zd_5_5_1 zf_Line_126 (zT_k6 (by omega)) rfl (zN_k6 hn (by omega)) rfl ?_
  refine zz_iconst zd_5_5_4 ?_
  refine zz_icmp_eq (by omega) (by omega) zd_5_5_5 (fun c2 => ?_) (fun c2 => ?_)
  · refine zz_aload_n (x := zz_rf 6 p0) rfl zd_5_5_18 ?_
    have g3 := zz_G.r G_S0 (zz_rf 6 p0) 6 (-2147483648) 2147483647 (zR_k6_6 (by omega)) (zB_k6 (by omega))
    refine zz_geti (z := S0 (zz_rf 6 p0) 6) zd_5_5_19 zf_Line_128 (zT_k6 (by omega)) rfl (zN_k6 hn (by omega)) rfl ?_
    refine zz_if_eq (by omega) zd_5_5_22 (fun c4 => ?_) (fun c4 => ?_)
    · refine zz_aload_n (x := zz_rf 6 p0) rfl zd_5_5_35 ?_
      have g5 := zz_G.r G_S0 (zz_rf 6 p0) 7 (-2147483648) 2147483647 (zR_k6_7 (by omega)) (zB_k6 (by omega))
      refine zz_geti (z := S0 (zz_rf 6 p0) 7) zd_5_5_36 zf_Line_132 (zT_k6 (by omega)) rfl (zN_k6 hn (by omega)) rfl ?_
      refine zz_if_eq (by omega) zd_5_5_39 (fun c6 => ?_) (fun c6 => ?_)
      · refine zz_aload_n (x := 1077) rfl zd_5_5_52 ?_
        refine zz_aload_n (x := zz_rf 6 p0) rfl zd_5_5_53 ?_
        have g7 := zz_G.r G_S0 (zz_rf 6 p0) 8 0 1 (zR_k6_8 (by omega)) (zB_k6 (by omega))
        refine zz_geti (z := S0 (zz_rf 6 p0) 8) zd_5_5_54 zf_Line_136 (zT_k6 (by omega)) rfl (zN_k6 hn (by omega)) rfl ?_
        refine zz_ldcs (t := 27) (by decide +kernel) (by decide) zd_5_5_57 ?_
        refine zz_callVV [zi (S0 (zz_rf 6 p0) 8), .ref (100 + 27)] zd_5_5_59 zk_Line_59 zT_1077 (zz_ltn hn rfl) rfl rfl ⟨Nat.le_of_ble_eq_true rfl, Nat.le_of_ble_eq_true rfl⟩ ⟨rfl, rfl⟩ (Nat.zero_le _) (Nat.zero_le _) (zc_addIf_5_7 (S0 (zz_rf 6 p0) 8) 27 S0 n hn G_S0 (by omega) (by omega)) (fun S8 hP => ?_)
        obtain ⟨G_S8, fS8⟩ := hP
        have F_S8 := zz_fr.trans F_S0 fS8 rfl zz_nv
        exact zz_vret zd_5_5_62 rfl (Nat.zero_le _) (Nat.zero_le _) ⟨_, rfl, G_S8, F_S8⟩
      · refine zz_aload_n (x := 1077) rfl zd_5_5_42 ?_
        refine zz_ldcs (t := 26) (by decide +kernel) (by decide) zd_5_5_43 ?_
        refine zz_aload_n (x := zz_rf 6 p0) rfl zd_5_5_45 ?_
        refine zz_geti (z := S0 (zz_rf 6 p0) 7) zd_5_5_46 zf_Line_132 (zT_k6 (by omega)) rfl (zN_k6 hn (by omega)) rfl ?_
        refine zz_callVV [.ref (100 + 26), zi (S0 (zz_rf 6 p0) 7)] zd_5_5_49 zk_Line_83 zT_1077 (zz_ltn hn rfl) rfl rfl ⟨Nat.le_of_ble_eq_true rfl, Nat.le_of_ble_eq_true rfl⟩ ⟨rfl, rfl⟩ (Nat.zero_le _) (Nat.zero_le _) (zc_addNumbered_5_9 26 (S0 (zz_rf 6 p0) 7) S0 n hn G_S0 (by omega) (by omega)) (fun S10 hP => ?_)
        obtain ⟨G_S10, fS10⟩ := hP
        have F_S10 := zz_fr.trans F_S0 fS10 rfl zz_nv
        refine zz_aload_n (x := 1077) rfl zd_5_5_52 ?_
        refine zz_aload_n (x := zz_rf 6 p0) rfl zd_5_5_53 ?_
        have g12 := zz_G.r G_S0 (zz_rf 6 p0) 8 0 1 (zR_k6_8 (by omega)) (zB_k6 (by omega))
        refine zz_geti (z := S0 (zz_rf 6 p0) 8) zd_5_5_54 zf_Line_136 (zT_k6 (by omega)) rfl (zN_k6 hn (by omega)) (zz_rc fS10 (zP_k6 (by omega) rfl) (zQ_k6 (by omega) rfl) (fun h => h) rfl) ?_
        refine zz_ldcs (t := 27) (by decide +kernel) (by decide) zd_5_5_57 ?_
        refine zz_callVV [zi (S0 (zz_rf 6 p0) 8), .ref (100 + 27)] zd_5_5_59 zk_Line_59 zT_1077 (zz_ltn hn rfl) rfl rfl ⟨Nat.le_of_ble_eq_true rfl, Nat.le_of_ble_eq_true rfl⟩ ⟨rfl, rfl⟩ (Nat.zero_le _) (Nat.zero_le _) (zc_addIf_5_7 (S0 (zz_rf 6 p0) 8) 27 S10 n hn G_S10 (by omega) (by omega)) (fun S13 hP => ?_)
        obtain ⟨G_S13, fS13⟩ := hP
        have F_S13 := zz_fr.trans F_S10 fS13 rfl zz_nv
        exact zz_vret zd_5_5_62 rfl (Nat.zero_le _) (Nat.zero_le _) ⟨_, rfl, G_S13, F_S13⟩
    · refine zz_aload_n (x := 1077) rfl zd_5_5_25 ?_
      refine zz_ldcs (t := 25) (by decide +kernel) (by decide) zd_5_5_26 ?_
      refine zz_aload_n (x := zz_rf 6 p0) rfl zd_5_5_28 ?_
      refine zz_geti (z := S0 (zz_rf 6 p0) 6) zd_5_5_29 zf_Line_128 (zT_k6 (by omega)) rfl (zN_k6 hn (by omega)) rfl ?_
      refine zz_callVV [.ref (100 + 25), zi (S0 (zz_rf 6 p0) 6)] zd_5_5_32 zk_Line_83 zT_1077 (zz_ltn hn rfl) rfl rfl ⟨Nat.le_of_ble_eq_true rfl, Nat.le_of_ble_eq_true rfl⟩ ⟨rfl, rfl⟩ (Nat.zero_le _) (Nat.zero_le _) (zc_addNumbered_5_9 25 (S0 (zz_rf 6 p0) 6) S0 n hn G_S0 (by omega) (by omega)) (fun S15 hP => ?_)
      obtain ⟨G_S15, fS15⟩ := hP
      have F_S15 := zz_fr.trans F_S0 fS15 rfl zz_nv
      refine zz_aload_n (x := zz_rf 6 p0) rfl zd_5_5_35 ?_
      have g17 := zz_G.r G_S0 (zz_rf 6 p0) 7 (-2147483648) 2147483647 (zR_k6_7 (by omega)) (zB_k6 (by omega))
      refine zz_geti (z := S0 (zz_rf 6 p0) 7) zd_5_5_36 zf_Line_132 (zT_k6 (by omega)) rfl (zN_k6 hn (by omega)) (zz_rc fS15 (zP_k6 (by omega) rfl) (zQ_k6 (by omega) rfl) (fun h => h) rfl) ?_
      refine zz_if_eq (by omega) zd_5_5_39 (fun c18 => ?_) (fun c18 => ?_)
      · refine zz_aload_n (x := 1077) rfl zd_5_5_52 ?_
        refine zz_aload_n (x := zz_rf 6 p0) rfl zd_5_5_53 ?_
        have g19 := zz_G.r G_S0 (zz_rf 6 p0) 8 0 1 (zR_k6_8 (by omega)) (zB_k6 (by omega))
        refine zz_geti (z := S0 (zz_rf 6 p0) 8) zd_5_5_54 zf_Line_136 (zT_k6 (by omega)) rfl (zN_k6 hn (by omega)) (zz_rc fS15 (zP_k6 (by omega) rfl) (zQ_k6 (by omega) rfl) (fun h => h) rfl) ?_
        refine zz_ldcs (t := 27) (by decide +kernel) (by decide) zd_5_5_57 ?_
        refine zz_callVV [zi (S0 (zz_rf 6 p0) 8), .ref (100 + 27)] zd_5_5_59 zk_Line_59 zT_1077 (zz_ltn hn rfl) rfl rfl ⟨Nat.le_of_ble_eq_true rfl, Nat.le_of_ble_eq_true rfl⟩ ⟨rfl, rfl⟩ (Nat.zero_le _) (Nat.zero_le _) (zc_addIf_5_7 (S0 (zz_rf 6 p0) 8) 27 S15 n hn G_S15 (by omega) (by omega)) (fun S20 hP => ?_)
        obtain ⟨G_S20, fS20⟩ := hP
        have F_S20 := zz_fr.trans F_S15 fS20 rfl zz_nv
        exact zz_vret zd_5_5_62 rfl (Nat.zero_le _) (Nat.zero_le _) ⟨_, rfl, G_S20, F_S20⟩
      · refine zz_aload_n (x := 1077) rfl zd_5_5_42 ?_
        refine zz_ldcs (t := 26) (by decide +kernel) (by decide) zd_5_5_43 ?_
        refine zz_aload_n (x := zz_rf 6 p0) rfl zd_5_5_45 ?_
        refine zz_geti (z := S0 (zz_rf 6 p0) 7) zd_5_5_46 zf_Line_132 (zT_k6 (by omega)) rfl (zN_k6 hn (by omega)) (zz_rc fS15 (zP_k6 (by omega) rfl) (zQ_k6 (by omega) rfl) (fun h => h) rfl) ?_
        refine zz_callVV [.ref (100 + 26), zi (S0 (zz_rf 6 p0) 7)] zd_5_5_49 zk_Line_83 zT_1077 (zz_ltn hn rfl) rfl rfl ⟨Nat.le_of_ble_eq_true rfl, Nat.le_of_ble_eq_true rfl⟩ ⟨rfl, rfl⟩ (Nat.zero_le _) (Nat.zero_le _) (zc_addNumbered_5_9 26 (S0 (zz_rf 6 p0) 7) S15 n hn G_S15 (by omega) (by omega)) (fun S22 hP => ?_)
        obtain ⟨G_S22, fS22⟩ := hP
        have F_S22 := zz_fr.trans F_S15 fS22 rfl zz_nv
        refine zz_aload_n (x := 1077) rfl zd_5_5_52 ?_
        refine zz_aload_n (x := zz_rf 6 p0) rfl zd_5_5_53 ?_
        have g24 := zz_G.r G_S0 (zz_rf 6 p0) 8 0 1 (zR_k6_8 (by omega)) (zB_k6 (by omega))
        refine zz_geti (z := S0 (zz_rf 6 p0) 8) zd_5_5_54 zf_Line_136 (zT_k6 (by omega)) rfl (zN_k6 hn (by omega)) (zz_rc fS22 (zP_k6 (by omega) rfl) (zQ_k6 (by omega) rfl) (fun h => h) (zz_rc fS15 (zP_k6 (by omega) rfl) (zQ_k6 (by omega) rfl) (fun h => h) rfl)) ?_
        refine zz_ldcs (t := 27) (by decide +kernel) (by decide) zd_5_5_57 ?_
        refine zz_callVV [zi (S0 (zz_rf 6 p0) 8), .ref (100 + 27)] zd_5_5_59 zk_Line_59 zT_1077 (zz_ltn hn rfl) rfl rfl ⟨Nat.le_of_ble_eq_true rfl, Nat.le_of_ble_eq_true rfl⟩ ⟨rfl, rfl⟩ (Nat.zero_le _) (Nat.zero_le _) (zc_addIf_5_7 (S0 (zz_rf 6 p0) 8) 27 S22 n hn G_S22 (by omega) (by omega)) (fun S25 hP => ?_)
        obtain ⟨G_S25, fS25⟩ := hP
        have F_S25 := zz_fr.trans F_S22 fS25 rfl zz_nv
        exact zz_vret zd_5_5_62 rfl (Nat.zero_le _) (Nat.zero_le _) ⟨_, rfl, G_S25, F_S25⟩
  · refine zz_aload_n (x := 1077) rfl zd_5_5_8 ?_
    refine zz_ldcs (t := 15) (by decide +kernel) (by decide) zd_5_5_9 ?_
    refine zz_aload_n (x := zz_rf 6 p0) rfl zd_5_5_11 ?_
    refine zz_geti (z := S0 (zz_rf 6 p0) 5) zd_5_5_12 zf_Line_126 (zT_k6 (by omega)) rfl (zN_k6 hn (by omega)) rfl ?_
    refine zz_callVV [.ref (100 + 15), zi (S0 (zz_rf 6 p0) 5)] zd_5_5_15 zk_Line_83 zT_1077 (zz_ltn hn rfl) rfl rfl ⟨Nat.le_of_ble_eq_true rfl, Nat.le_of_ble_eq_true rfl⟩ ⟨rfl, rfl⟩ (Nat.zero_le _) (Nat.zero_le _) (zc_addNumbered_5_9 15 (S0 (zz_rf 6 p0) 5) S0 n hn G_S0 (by omega) (by omega)) (fun S27 hP => ?_)
    obtain ⟨G_S27, fS27⟩ := hP
    have F_S27 := zz_fr.trans F_S0 fS27 rfl zz_nv
    refine zz_aload_n (x := zz_rf 6 p0) rfl zd_5_5_18 ?_
    have g29 := zz_G.r G_S0 (zz_rf 6 p0) 6 (-2147483648) 2147483647 (zR_k6_6 (by omega)) (zB_k6 (by omega))
    refine zz_geti (z := S0 (zz_rf 6 p0) 6) zd_5_5_19 zf_Line_128 (zT_k6 (by omega)) rfl (zN_k6 hn (by omega)) (zz_rc fS27 (zP_k6 (by omega) rfl) (zQ_k6 (by omega) rfl) (fun h => h) rfl) ?_
    refine zz_if_eq (by omega) zd_5_5_22 (fun c30 => ?_) (fun c30 => ?_)
    · refine zz_aload_n (x := zz_rf 6 p0) rfl zd_5_5_35 ?_
      have g31 := zz_G.r G_S0 (zz_rf 6 p0) 7 (-2147483648) 2147483647 (zR_k6_7 (by omega)) (zB_k6 (by omega))
      refine zz_geti (z := S0 (zz_rf 6 p0) 7) zd_5_5_36 zf_Line_132 (zT_k6 (by omega)) rfl (zN_k6 hn (by omega)) (zz_rc fS27 (zP_k6 (by omega) rfl) (zQ_k6 (by omega) rfl) (fun h => h) rfl) ?_
      refine zz_if_eq (by omega) zd_5_5_39 (fun c32 => ?_) (fun c32 => ?_)
      · refine zz_aload_n (x := 1077) rfl zd_5_5_52 ?_
        refine zz_aload_n (x := zz_rf 6 p0) rfl zd_5_5_53 ?_
        have g33 := zz_G.r G_S0 (zz_rf 6 p0) 8 0 1 (zR_k6_8 (by omega)) (zB_k6 (by omega))
        refine zz_geti (z := S0 (zz_rf 6 p0) 8) zd_5_5_54 zf_Line_136 (zT_k6 (by omega)) rfl (zN_k6 hn (by omega)) (zz_rc fS27 (zP_k6 (by omega) rfl) (zQ_k6 (by omega) rfl) (fun h => h) rfl) ?_
        refine zz_ldcs (t := 27) (by decide +kernel) (by decide) zd_5_5_57 ?_
        refine zz_callVV [zi (S0 (zz_rf 6 p0) 8), .ref (100 + 27)] zd_5_5_59 zk_Line_59 zT_1077 (zz_ltn hn rfl) rfl rfl ⟨Nat.le_of_ble_eq_true rfl, Nat.le_of_ble_eq_true rfl⟩ ⟨rfl, rfl⟩ (Nat.zero_le _) (Nat.zero_le _) (zc_addIf_5_7 (S0 (zz_rf 6 p0) 8) 27 S27 n hn G_S27 (by omega) (by omega)) (fun S34 hP => ?_)
        obtain ⟨G_S34, fS34⟩ := hP
        have F_S34 := zz_fr.trans F_S27 fS34 rfl zz_nv
        exact zz_vret zd_5_5_62 rfl (Nat.zero_le _) (Nat.zero_le _) ⟨_, rfl, G_S34, F_S34⟩
      · refine zz_aload_n (x := 1077) rfl zd_5_5_42 ?_
        refine zz_ldcs (t := 26) (by decide +kernel) (by decide) zd_5_5_43 ?_
        refine zz_aload_n (x := zz_rf 6 p0) rfl zd_5_5_45 ?_
        refine zz_geti (z := S0 (zz_rf 6 p0) 7) zd_5_5_46 zf_Line_132 (zT_k6 (by omega)) rfl (zN_k6 hn (by omega)) (zz_rc fS27 (zP_k6 (by omega) rfl) (zQ_k6 (by omega) rfl) (fun h => h) rfl) ?_
        refine zz_callVV [.ref (100 + 26), zi (S0 (zz_rf 6 p0) 7)] zd_5_5_49 zk_Line_83 zT_1077 (zz_ltn hn rfl) rfl rfl ⟨Nat.le_of_ble_eq_true rfl, Nat.le_of_ble_eq_true rfl⟩ ⟨rfl, rfl⟩ (Nat.zero_le _) (Nat.zero_le _) (zc_addNumbered_5_9 26 (S0 (zz_rf 6 p0) 7) S27 n hn G_S27 (by omega) (by omega)) (fun S36 hP => ?_)
        obtain ⟨G_S36, fS36⟩ := hP
        have F_S36 := zz_fr.trans F_S27 fS36 rfl zz_nv
        refine zz_aload_n (x := 1077) rfl zd_5_5_52 ?_
        refine zz_aload_n (x := zz_rf 6 p0) rfl zd_5_5_53 ?_
        have g38 := zz_G.r G_S0 (zz_rf 6 p0) 8 0 1 (zR_k6_8 (by omega)) (zB_k6 (by omega))
        refine zz_geti (z := S0 (zz_rf 6 p0) 8) zd_5_5_54 zf_Line_136 (zT_k6 (by omega)) rfl (zN_k6 hn (by omega)) (zz_rc fS36 (zP_k6 (by omega) rfl) (zQ_k6 (by omega) rfl) (fun h => h) (zz_rc fS27 (zP_k6 (by omega) rfl) (zQ_k6 (by omega) rfl) (fun h => h) rfl)) ?_
        refine zz_ldcs (t := 27) (by decide +kernel) (by decide) zd_5_5_57 ?_
        refine zz_callVV [zi (S0 (zz_rf 6 p0) 8), .ref (100 + 27)] zd_5_5_59 zk_Line_59 zT_1077 (zz_ltn hn rfl) rfl rfl ⟨Nat.le_of_ble_eq_true rfl, Nat.le_of_ble_eq_true rfl⟩ ⟨rfl, rfl⟩ (Nat.zero_le _) (Nat.zero_le _) (zc_addIf_5_7 (S0 (zz_rf 6 p0) 8) 27 S36 n hn G_S36 (by omega) (by omega)) (fun S39 hP => ?_)
        obtain ⟨G_S39, fS39⟩ := hP
        have F_S39 := zz_fr.trans F_S36 fS39 rfl zz_nv
        exact zz_vret zd_5_5_62 rfl (Nat.zero_le _) (Nat.zero_le _) ⟨_, rfl, G_S39, F_S39⟩
    · refine zz_aload_n (x := 1077) rfl zd_5_5_25 ?_
      refine zz_ldcs (t := 25) (by decide +kernel) (by decide) zd_5_5_26 ?_
      refine zz_aload_n (x := zz_rf 6 p0) rfl zd_5_5_28 ?_
      refine zz_geti (z := S0 (zz_rf 6 p0) 6) zd_5_5_29 zf_Line_128 (zT_k6 (by omega)) rfl (zN_k6 hn (by omega)) (zz_rc fS27 (zP_k6 (by omega) rfl) (zQ_k6 (by omega) rfl) (fun h => h) rfl) ?_
      refine zz_callVV [.ref (100 + 25), zi (S0 (zz_rf 6 p0) 6)] zd_5_5_32 zk_Line_83 zT_1077 (zz_ltn hn rfl) rfl rfl ⟨Nat.le_of_ble_eq_true rfl, Nat.le_of_ble_eq_true rfl⟩ ⟨rfl, rfl⟩ (Nat.zero_le _) (Nat.zero_le _) (zc_addNumbered_5_9 25 (S0 (zz_rf 6 p0) 6) S27 n hn G_S27 (by omega) (by omega)) (fun S41 hP => ?_)
      obtain ⟨G_S41, fS41⟩ := hP
      have F_S41 := zz_fr.trans F_S27 fS41 rfl zz_nv
      refine zz_aload_n (x := zz_rf 6 p0) rfl zd_5_5_35 ?_
      have g43 := zz_G.r G_S0 (zz_rf 6 p0) 7 (-2147483648) 2147483647 (zR_k6_7 (by omega)) (zB_k6 (by omega))
      refine zz_geti (z := S0 (zz_rf 6 p0) 7) zd_5_5_36 zf_Line_132 (zT_k6 (by omega)) rfl (zN_k6 hn (by omega)) (zz_rc fS41 (zP_k6 (by omega) rfl) (zQ_k6 (by omega) rfl) (fun h => h) (zz_rc fS27 (zP_k6 (by omega) rfl) (zQ_k6 (by omega) rfl) (fun h => h) rfl)) ?_
      refine zz_if_eq (by omega) zd_5_5_39 (fun c44 => ?_) (fun c44 => ?_)
      · refine zz_aload_n (x := 1077) rfl zd_5_5_52 ?_
        refine zz_aload_n (x := zz_rf 6 p0) rfl zd_5_5_53 ?_
        have g45 := zz_G.r G_S0 (zz_rf 6 p0) 8 0 1 (zR_k6_8 (by omega)) (zB_k6 (by omega))
        refine zz_geti (z := S0 (zz_rf 6 p0) 8) zd_5_5_54 zf_Line_136 (zT_k6 (by omega)) rfl (zN_k6 hn (by omega)) (zz_rc fS41 (zP_k6 (by omega) rfl) (zQ_k6 (by omega) rfl) (fun h => h) (zz_rc fS27 (zP_k6 (by omega) rfl) (zQ_k6 (by omega) rfl) (fun h => h) rfl)) ?_
        refine zz_ldcs (t := 27) (by decide +kernel) (by decide) zd_5_5_57 ?_
        refine zz_callVV [zi (S0 (zz_rf 6 p0) 8), .ref (100 + 27)] zd_5_5_59 zk_Line_59 zT_1077 (zz_ltn hn rfl) rfl rfl ⟨Nat.le_of_ble_eq_true rfl, Nat.le_of_ble_eq_true rfl⟩ ⟨rfl, rfl⟩ (Nat.zero_le _) (Nat.zero_le _) (zc_addIf_5_7 (S0 (zz_rf 6 p0) 8) 27 S41 n hn G_S41 (by omega) (by omega)) (fun S46 hP => ?_)
        obtain ⟨G_S46, fS46⟩ := hP
        have F_S46 := zz_fr.trans F_S41 fS46 rfl zz_nv
        exact zz_vret zd_5_5_62 rfl (Nat.zero_le _) (Nat.zero_le _) ⟨_, rfl, G_S46, F_S46⟩
      · refine zz_aload_n (x := 1077) rfl zd_5_5_42 ?_
        refine zz_ldcs (t := 26) (by decide +kernel) (by decide) zd_5_5_43 ?_
        refine zz_aload_n (x := zz_rf 6 p0) rfl zd_5_5_45 ?_
        refine zz_geti (z := S0 (zz_rf 6 p0) 7) zd_5_5_46 zf_Line_132 (zT_k6 (by omega)) rfl (zN_k6 hn (by omega)) (zz_rc fS41 (zP_k6 (by omega) rfl) (zQ_k6 (by omega) rfl) (fun h => h) (zz_rc fS27 (zP_k6 (by omega) rfl) (zQ_k6 (by omega) rfl) (fun h => h) rfl)) ?_
        refine zz_callVV [.ref (100 + 26), zi (S0 (zz_rf 6 p0) 7)] zd_5_5_49 zk_Line_83 zT_1077 (zz_ltn hn rfl) rfl rfl ⟨Nat.le_of_ble_eq_true rfl, Nat.le_of_ble_eq_true rfl⟩ ⟨rfl, rfl⟩ (Nat.zero_le _) (Nat.zero_le _) (zc_addNumbered_5_9 26 (S0 (zz_rf 6 p0) 7) S41 n hn G_S41 (by omega) (by omega)) (fun S48 hP => ?_)
        obtain ⟨G_S48, fS48⟩ := hP
        have F_S48 := zz_fr.trans F_S41 fS48 rfl zz_nv
        refine zz_aload_n (x := 1077) rfl zd_5_5_52 ?_
        refine zz_aload_n (x := zz_rf 6 p0) rfl zd_5_5_53 ?_
        have g50 := zz_G.r G_S0 (zz_rf 6 p0) 8 0 1 (zR_k6_8 (by omega)) (zB_k6 (by omega))
        refine zz_geti (z := S0 (zz_rf 6 p0) 8) zd_5_5_54 zf_Line_136 (zT_k6 (by omega)) rfl (zN_k6 hn (by omega)) (zz_rc fS48 (zP_k6 (by omega) rfl) (zQ_k6 (by omega) rfl) (fun h => h) (zz_rc fS41 (zP_k6 (by omega) rfl) (zQ_k6 (by omega) rfl) (fun h => h) (zz_rc fS27 (zP_k6 (by omega) rfl) (zQ_k6 (by omega) rfl) (fun h => h) rfl))) ?_
        refine zz_ldcs (t := 27) (by decide +kernel) (by decide) zd_5_5_57 ?_
        refine zz_callVV [zi (S0 (zz_rf 6 p0) 8), .ref (100 + 27)] zd_5_5_59 zk_Line_59 zT_1077 (zz_ltn hn rfl) rfl rfl ⟨Nat.le_of_ble_eq_true rfl, Nat.le_of_ble_eq_true rfl⟩ ⟨rfl, rfl⟩ (Nat.zero_le _) (Nat.zero_le _) (zc_addIf_5_7 (S0 (zz_rf 6 p0) 8) 27 S48 n hn G_S48 (by omega) (by omega)) (fun S51 hP => ?_)
        obtain ⟨G_S51, fS51⟩ := hP
        have F_S51 := zz_fr.trans F_S48 fS51 rfl zz_nv
        exact zz_vret zd_5_5_62 rfl (Nat.zero_le _) (Nat.zero_le _) ⟨_, rfl, G_S51, F_S51⟩
theorem zk_Line_122 : mm_Vl "TensorForge$Line" 122 10 1 zy_addOptions_5_5 := ⟨zyw_addOptions_5_5, (R_Line, F_Line, 2), rfl, mm_tb_1 1498 (by decide +kernel) rfl, mm_tb_1 1500 (by decide +kernel) rfl, mm_tb_s 76 (by decide +kernel) rfl⟩
theorem zd_5_4_160 : zz_D zy_writeLayer_5_4 160 (.aload_n 0) 1 161 := ⟨by decide +kernel, rfl⟩
theorem zd_5_4_161 : zz_D zy_writeLayer_5_4 161 (.bipush 10) 2 163 := ⟨by decide +kernel, rfl⟩
theorem zd_5_4_163 : zz_D zy_writeLayer_5_4 163 (.invokevirtual 69) 3 166 := ⟨by decide +kernel, rfl⟩
theorem zd_5_4_166 : zz_D zy_writeLayer_5_4 166 (.return_) 1 167 := ⟨by decide +kernel, rfl⟩
theorem zd_5_4_83 : zz_D zy_writeLayer_5_4 83 (.aload_n 0) 1 84 := ⟨by decide +kernel, rfl⟩
theorem zd_5_4_84 : zz_D zy_writeLayer_5_4 84 (.ldc 101) 2 86 := ⟨by decide +kernel, rfl⟩
theorem zd_5_4_86 : zz_D zy_writeLayer_5_4 86 (.aload_n 1) 1 87 := ⟨by decide +kernel, rfl⟩
theorem zd_5_4_87 : zz_D zy_writeLayer_5_4 87 (.getfield 80) 3 90 := ⟨by decide +kernel, rfl⟩
theorem zd_5_4_90 : zz_D zy_writeLayer_5_4 90 (.invokevirtual 83) 3 93 := ⟨by decide +kernel, rfl⟩
theorem zd_5_4_93 : zz_D zy_writeLayer_5_4 93 (.aload_n 0) 1 94 := ⟨by decide +kernel, rfl⟩
theorem zd_5_4_94 : zz_D zy_writeLayer_5_4 94 (.ldc 43) 2 96 := ⟨by decide +kernel, rfl⟩
theorem zd_5_4_96 : zz_D zy_writeLayer_5_4 96 (.aload_n 1) 1 97 := ⟨by decide +kernel, rfl⟩
theorem zd_5_4_97 : zz_D zy_writeLayer_5_4 97 (.getfield 87) 3 100 := ⟨by decide +kernel, rfl⟩
theorem zd_5_4_100 : zz_D zy_writeLayer_5_4 100 (.aload_n 1) 1 101 := ⟨by decide +kernel, rfl⟩
theorem zd_5_4_101 : zz_D zy_writeLayer_5_4 101 (.getfield 90) 3 104 := ⟨by decide +kernel, rfl⟩
theorem zd_5_4_104 : zz_D zy_writeLayer_5_4 104 (.invokevirtual 45) 3 107 := ⟨by decide +kernel, rfl⟩
theorem zd_5_4_107 : zz_B zy_writeLayer_5_4 107 Instr.goto 155 110 := ⟨48, by decide +kernel, rfl, rfl⟩
theorem zd_5_4_110 : zz_D zy_writeLayer_5_4 110 (.aload_n 0) 1 111 := ⟨by decide +kernel, rfl⟩
theorem zd_5_4_111 : zz_D zy_writeLayer_5_4 111 (.ldc 103) 2 113 := ⟨by decide +kernel, rfl⟩
theorem zd_5_4_113 : zz_D zy_writeLayer_5_4 113 (.aload_n 1) 1 114 := ⟨by decide +kernel, rfl⟩
theorem zd_5_4_114 : zz_D zy_writeLayer_5_4 114 (.getfield 80) 3 117 := ⟨by decide +kernel, rfl⟩
theorem zd_5_4_117 : zz_D zy_writeLayer_5_4 117 (.invokevirtual 83) 3 120 := ⟨by decide +kernel, rfl⟩
theorem zd_5_4_120 : zz_D zy_writeLayer_5_4 120 (.aload_n 0) 1 121 := ⟨by decide +kernel, rfl⟩
theorem zd_5_4_121 : zz_D zy_writeLayer_5_4 121 (.aload_n 1) 1 122 := ⟨by decide +kernel, rfl⟩
theorem zd_5_4_122 : zz_D zy_writeLayer_5_4 122 (.getfield 105) 3 125 := ⟨by decide +kernel, rfl⟩
theorem zf_Line_105 : mm_Fl "TensorForge$Line" 105 2 2 .int false := ⟨R_Layer, F_Layer, 15, t_Layer, rfl, i_Layer, by decide, mm_tb_1 66 (by decide +kernel) rfl, rfl, t_Layer_ok, n_Layer, rfl, by decide +kernel⟩
theorem zd_5_4_125 : zz_D zy_writeLayer_5_4 125 (.invokevirtual 108) 3 128 := ⟨by decide +kernel, rfl⟩
theorem zd_5_4_128 : zz_B zy_writeLayer_5_4 128 Instr.goto 155 131 := ⟨27, by decide +kernel, rfl, rfl⟩
theorem zd_5_4_131 : zz_D zy_writeLayer_5_4 131 (.aload_n 0) 1 132 := ⟨by decide +kernel, rfl⟩
theorem zd_5_4_132 : zz_D zy_writeLayer_5_4 132 (.ldc 112) 2 134 := ⟨by decide +kernel, rfl⟩
theorem zd_5_4_134 : zz_D zy_writeLayer_5_4 134 (.aload_n 1) 1 135 := ⟨by decide +kernel, rfl⟩
theorem zd_5_4_135 : zz_D zy_writeLayer_5_4 135 (.getfield 114) 3 138 := ⟨by decide +kernel, rfl⟩
theorem zf_Line_114 : mm_Fl "TensorForge$Line" 114 2 10 .int false := ⟨R_Layer, F_Layer, 15, t_Layer, rfl, i_Layer, by decide, mm_tb_1 96 (by decide +kernel) rfl, rfl, t_Layer_ok, n_Layer, rfl, by decide +kernel⟩
theorem zd_5_4_138 : zz_D zy_writeLayer_5_4 138 (.aload_n 1) 1 139 := ⟨by decide +kernel, rfl⟩
theorem zd_5_4_139 : zz_D zy_writeLayer_5_4 139 (.getfield 117) 3 142 := ⟨by decide +kernel, rfl⟩
theorem zf_Line_117 : mm_Fl "TensorForge$Line" 117 2 11 .int false := ⟨R_Layer, F_Layer, 15, t_Layer, rfl, i_Layer, by decide, mm_tb_1 100 (by decide +kernel) rfl, rfl, t_Layer_ok, n_Layer, rfl, by decide +kernel⟩
theorem zd_5_4_142 : zz_D zy_writeLayer_5_4 142 (.invokevirtual 45) 3 145 := ⟨by decide +kernel, rfl⟩
theorem zd_5_4_145 : zz_D zy_writeLayer_5_4 145 (.aload_n 0) 1 146 := ⟨by decide +kernel, rfl⟩
theorem zd_5_4_146 : zz_D zy_writeLayer_5_4 146 (.ldc 120) 2 148 := ⟨by decide +kernel, rfl⟩
theorem zd_5_4_148 : zz_D zy_writeLayer_5_4 148 (.aload_n 1) 1 149 := ⟨by decide +kernel, rfl⟩
theorem zd_5_4_149 : zz_D zy_writeLayer_5_4 149 (.getfield 95) 3 152 := ⟨by decide +kernel, rfl⟩
theorem zd_5_4_152 : zz_D zy_writeLayer_5_4 152 (.invokevirtual 83) 3 155 := ⟨by decide +kernel, rfl⟩
-- TensorForge$Line writeLayer (LTensorForge$Layer;)V
abbrev zr_writeLayer_5_4 : Room := { frames := 7, cells := 0, slots := 0, locals := 97 }
def zp_writeLayer_5_4 (p0 : Int) (S0 : zz_S) : zz_S → Prop := fun S => zz_G S ∧ zz_fr [(1077, 1)] [1078] (fun _ _ => False) S0 S
theorem zc_writeLayer_5_4 {g : mm_G} {l : Launch} (p0 : Int) (S0 : zz_S) (n : Nat) (hn : zz_end ≤ n) (G_S0 : zz_G S0) (hp0 : 0 ≤ p0 ∧ p0 ≤ 23) : mm_Met g l zy_writeLayer_5_4 zr_writeLayer_5_4 [.ref 1077, .ref (zz_rf 6 p0)] (zz_M S0 n) n (zz_QV n (zp_writeLayer_5_4 p0 S0)) := by
  refine zz_enter (by decide) (Nat.le_of_ble_eq_true rfl) (zz_less (ls1 := [some (.ref 1077), some (.ref (zz_rf 6 p0))]) ⟨rfl, ⟨rfl, trivial⟩⟩ ?_)
  have F_S0 : zz_fr [(1077, 1)] [1078] (fun _ _ => False) S0 S0 := zz_fr.refl
  have b_p0 := zz_rf6 (z := p0) (by omega)
  refine zz_aload_n (x := 1077) rfl zd_5_4_0 ?_
  refine zz_iconst zd_5_4_1 ?_
  refine zz_puti zd_5_4_2 zf_Line_15 zT_1077 rfl (zz_ltn hn rfl) (fun S1 qS1 => ?_)
  have G_S1 := zz_G.put G_S0 qS1 0 128 rfl (by omega)
  have F_S1 := zz_fr.puts F_S0 qS1 rfl
  refine zz_aload_n (x := zz_rf 6 p0) rfl zd_5_4_5 ?_
  have g2 := zz_G.r G_S0 (zz_rf 6 p0) 0 (-2147483648) 2147483647 (zR_k6_0 (by omega)) (zB_k6 (by omega))
  refine zz_geti (z := S0 (zz_rf 6 p0) 0) zd_5_4_6 zf_Line_73 (zT_k6 (by omega)) rfl (zN_k6 hn (by omega)) (zz_ro qS1 (fun h => absurd h.2 (by decide)) rfl) ?_
  by_cases c3 : S0 (zz_rf 6 p0) 0 = 1
  · refine zz_swIn 1 27 c3 (by decide) zd_5_4_9 rfl rfl ?_
    refine zz_aload_n (x := 1077) rfl zd_5_4_36 ?_
    refine zz_ldcs (t := 21) (by decide +kernel) (by decide) zd_5_4_37 ?_
    refine zz_aload_n (x := zz_rf 6 p0) rfl zd_5_4_39 ?_
    have g4 := zz_G.r G_S0 (zz_rf 6 p0) 1 (-2147483648) 2147483647 (zR_k6_1 (by omega)) (zB_k6 (by omega))
    refine zz_geti (z := S0 (zz_rf 6 p0) 1) zd_5_4_40 zf_Line_80 (zT_k6 (by omega)) rfl (zN_k6 hn (by omega)) (zz_ro qS1 (fun h => absurd h.1 (by have := zz_rf6 (z := p0) (by omega); omega)) rfl) ?_
    refine zz_callVV [.ref (100 + 21), zi (S0 (zz_rf 6 p0) 1)] zd_5_4_43 zk_Line_83 zT_1077 (zz_ltn hn rfl) rfl rfl ⟨Nat.le_of_ble_eq_true rfl, Nat.le_of_ble_eq_true rfl⟩ ⟨rfl, rfl⟩ (Nat.zero_le _) (Nat.zero_le _) (zc_addNumbered_5_9 21 (S0 (zz_rf 6 p0) 1) S1 n hn G_S1 (by omega) (by omega)) (fun S5 hP => ?_)
    obtain ⟨G_S5, fS5⟩ := hP
    have F_S5 := zz_fr.trans F_S1 fS5 rfl zz_nv
    refine zz_aload_n (x := 1077) rfl zd_5_4_46 ?_
    refine zz_ldcs (t := 11) (by decide +kernel) (by decide) zd_5_4_47 ?_
    refine zz_aload_n (x := zz_rf 6 p0) rfl zd_5_4_49 ?_
    have g7 := zz_G.r G_S0 (zz_rf 6 p0) 3 (-2147483648) 2147483647 (zR_k6_3 (by omega)) (zB_k6 (by omega))
    refine zz_geti (z := S0 (zz_rf 6 p0) 3) zd_5_4_50 zf_Line_87 (zT_k6 (by omega)) rfl (zN_k6 hn (by omega)) (zz_rc fS5 (zP_k6 (by omega) rfl) (zQ_k6 (by omega) rfl) (fun h => h) (zz_ro qS1 (fun h => absurd h.2 (by decide)) rfl)) ?_
    refine zz_aload_n (x := zz_rf 6 p0) rfl zd_5_4_53 ?_
    have g8 := zz_G.r G_S0 (zz_rf 6 p0) 4 (-2147483648) 2147483647 (zR_k6_4 (by omega)) (zB_k6 (by omega))
    refine zz_geti (z := S0 (zz_rf 6 p0) 4) zd_5_4_54 zf_Line_90 (zT_k6 (by omega)) rfl (zN_k6 hn (by omega)) (zz_rc fS5 (zP_k6 (by omega) rfl) (zQ_k6 (by omega) rfl) (fun h => h) (zz_ro qS1 (fun h => absurd h.2 (by decide)) rfl)) ?_
    refine zz_callVV [.ref (100 + 11), zi (S0 (zz_rf 6 p0) 3), zi (S0 (zz_rf 6 p0) 4)] zd_5_4_57 zk_Line_45 zT_1077 (zz_ltn hn rfl) rfl rfl ⟨Nat.le_of_ble_eq_true rfl, Nat.le_of_ble_eq_true rfl⟩ ⟨rfl, rfl⟩ (Nat.zero_le _) (Nat.zero_le _) (zc_addPair_5_8 11 (S0 (zz_rf 6 p0) 3) (S0 (zz_rf 6 p0) 4) S5 n hn G_S5 (by omega) (by omega) (by omega)) (fun S9 hP => ?_)
    obtain ⟨G_S9, fS9⟩ := hP
    have F_S9 := zz_fr.trans F_S5 fS9 rfl zz_nv
    refine zz_aload_n (x := 1077) rfl zd_5_4_60 ?_
    refine zz_ldcs (t := 24) (by decide +kernel) (by decide) zd_5_4_61 ?_
    refine zz_aload_n (x := zz_rf 6 p0) rfl zd_5_4_63 ?_
    have g11 := zz_G.r G_S0 (zz_rf 6 p0) 12 (-2147483648) 2147483647 (zR_k6_12 (by omega)) (zB_k6 (by omega))
    refine zz_geti (z := S0 (zz_rf 6 p0) 12) zd_5_4_64 zf_Line_95 (zT_k6 (by omega)) rfl (zN_k6 hn (by omega)) (zz_rc fS9 (zP_k6 (by omega) rfl) (zQ_k6 (by omega) rfl) (fun h => h) (zz_rc fS5 (zP_k6 (by omega) rfl) (zQ_k6 (by omega) rfl) (fun h => h) (zz_ro qS1 (fun h => absurd h.2 (by decide)) rfl))) ?_
    refine zz_callVV [.ref (100 + 24), zi (S0 (zz_rf 6 p0) 12)] zd_5_4_67 zk_Line_83 zT_1077 (zz_ltn hn rfl) rfl rfl ⟨Nat.le_of_ble_eq_true rfl, Nat.le_of_ble_eq_true rfl⟩ ⟨rfl, rfl⟩ (Nat.zero_le _) (Nat.zero_le _) (zc_addNumbered_5_9 24 (S0 (zz_rf 6 p0) 12) S9 n hn G_S9 (by omega) (by omega)) (fun S12 hP => ?_)
    obtain ⟨G_S12, fS12⟩ := hP
    have F_S12 := zz_fr.trans F_S9 fS12 rfl zz_nv
    refine zz_aload_n (x := 1077) rfl zd_5_4_70 ?_
    refine zz_ldcs (t := 10) (by decide +kernel) (by decide) zd_5_4_71 ?_
    refine zz_aload_n (x := zz_rf 6 p0) rfl zd_5_4_73 ?_
    have g14 := zz_G.r G_S0 (zz_rf 6 p0) 9 (-2147483648) 2147483647 (zR_k6_9 (by omega)) (zB_k6 (by omega))
    refine zz_geti (z := S0 (zz_rf 6 p0) 9) zd_5_4_74 zf_Line_98 (zT_k6 (by omega)) rfl (zN_k6 hn (by omega)) (zz_rc fS12 (zP_k6 (by omega) rfl) (zQ_k6 (by omega) rfl) (fun h => h) (zz_rc fS9 (zP_k6 (by omega) rfl) (zQ_k6 (by omega) rfl) (fun h => h) (zz_rc fS5 (zP_k6 (by omega) rfl) (zQ_k6 (by omega) rfl) (fun h => h) (zz_ro qS1 (fun h => absurd h.2 (by decide)) rfl)))) ?_
    refine zz_callVV [.ref (100 + 10), zi (S0 (zz_rf 6 p0) 9)] zd_5_4_77 zk_Line_83 zT_1077 (zz_ltn hn rfl) rfl rfl ⟨Nat.le_of_ble_eq_true rfl, Nat.le_of_ble_eq_true rfl⟩ ⟨rfl, rfl⟩ (Nat.zero_le _) (Nat.zero_le _) (zc_addNumbered_5_9 10 (S0 (zz_rf 6 p0) 9) S12 n hn G_S12 (by omega) (by omega)) (fun S15 hP => ?_)
    obtain ⟨G_S15, fS15⟩ := hP
    have F_S15 := zz_fr.trans F_S12 fS15 rfl zz_nv
    refine zz_goto zd_5_4_80 ?_
    refine zz_aload_n (x := 1077) rfl zd_5_4_155 ?_
    refine zz_aload_n (x := zz_rf 6 p0) rfl zd_5_4_156 ?_
    refine zz_callVV [.ref (zz_rf 6 p0)] zd_5_4_157 zk_Line_122 zT_1077 (zz_ltn hn rfl) rfl rfl ⟨Nat.le_of_ble_eq_true rfl, Nat.le_of_ble_eq_true rfl⟩ ⟨rfl, rfl⟩ (Nat.zero_le _) (Nat.zero_le _) (zc_addOptions_5_5 p0 S15 n hn G_S15 (by omega)) (fun S17 hP => ?_)
    obtain ⟨G_S17, fS17⟩ := hP
    have F_S17 := zz_fr.trans F_S15 fS17 rfl zz_nv
    refine zz_aload_n (x := 1077) rfl zd_5_4_160 ?_
    refine zz_bipush (by decide) zd_5_4_161 ?_
    refine zz_callVV [zi 10] zd_5_4_163 zk_Line_69 zT_1077 (zz_ltn hn rfl) rfl rfl ⟨Nat.le_of_ble_eq_true rfl, Nat.le_of_ble_eq_true rfl⟩ ⟨rfl, rfl⟩ (Nat.zero_le _) (Nat.zero_le _) (zc_addSign_5_12 10 S17 n hn G_S17 (by omega)) (fun S19 hP => ?_)
    obtain ⟨G_S19, fS19⟩ := hP
    have F_S19 := zz_fr.trans F_S17 fS19 rfl zz_nv
    exact zz_vret zd_5_4_166 rfl (Nat.zero_le _) (Nat.zero_le _) ⟨_, rfl, G_S19, F_S19⟩
  by_cases c21 : S0 (zz_rf 6 p0) 0 = 2
  · refine zz_swIn 2 74 c21 (by decide) zd_5_4_9 rfl rfl ?_
    refine zz_aload_n (x := 1077) rfl zd_5_4_83 ?_
    refine zz_ldcs (t := 22) (by decide +kernel) (by decide) zd_5_4_84 ?_
    refine zz_aload_n (x := zz_rf 6 p0) rfl zd_5_4_86 ?_
    have g22 := zz_G.r G_S0 (zz_rf 6 p0) 1 (-2147483648) 2147483647 (zR_k6_1 (by omega)) (zB_k6 (by omega))
    refine zz_geti (z := S0 (zz_rf 6 p0) 1) zd_5_4_87 zf_Line_80 (zT_k6 (by omega)) rfl (zN_k6 hn (by omega)) (zz_ro qS1 (fun h => absurd h.1 (by have := zz_rf6 (z := p0) (by omega); omega)) rfl) ?_
    refine zz_callVV [.ref (100 + 22), zi (S0 (zz_rf 6 p0) 1)] zd_5_4_90 zk_Line_83 zT_1077 (zz_ltn hn rfl) rfl rfl ⟨Nat.le_of_ble_eq_true rfl, Nat.le_of_ble_eq_true rfl⟩ ⟨rfl, rfl⟩ (Nat.zero_le _) (Nat.zero_le _) (zc_addNumbered_5_9 22 (S0 (zz_rf 6 p0) 1) S1 n hn G_S1 (by omega) (by omega)) (fun S23 hP => ?_)
    obtain ⟨G_S23, fS23⟩ := hP
    have F_S23 := zz_fr.trans F_S1 fS23 rfl zz_nv
    refine zz_aload_n (x := 1077) rfl zd_5_4_93 ?_
    refine zz_ldcs (t := 11) (by decide +kernel) (by decide) zd_5_4_94 ?_
    refine zz_aload_n (x := zz_rf 6 p0) rfl zd_5_4_96 ?_
    have g25 := zz_G.r G_S0 (zz_rf 6 p0) 3 (-2147483648) 2147483647 (zR_k6_3 (by omega)) (zB_k6 (by omega))
    refine zz_geti (z := S0 (zz_rf 6 p0) 3) zd_5_4_97 zf_Line_87 (zT_k6 (by omega)) rfl (zN_k6 hn (by omega)) (zz_rc fS23 (zP_k6 (by omega) rfl) (zQ_k6 (by omega) rfl) (fun h => h) (zz_ro qS1 (fun h => absurd h.2 (by decide)) rfl)) ?_
    refine zz_aload_n (x := zz_rf 6 p0) rfl zd_5_4_100 ?_
    have g26 := zz_G.r G_S0 (zz_rf 6 p0) 4 (-2147483648) 2147483647 (zR_k6_4 (by omega)) (zB_k6 (by omega))
    refine zz_geti (z := S0 (zz_rf 6 p0) 4) zd_5_4_101 zf_Line_90 (zT_k6 (by omega)) rfl (zN_k6 hn (by omega)) (zz_rc fS23 (zP_k6 (by omega) rfl) (zQ_k6 (by omega) rfl) (fun h => h) (zz_ro qS1 (fun h => absurd h.2 (by decide)) rfl)) ?_
    refine zz_callVV [.ref (100 + 11), zi (S0 (zz_rf 6 p0) 3), zi (S0 (zz_rf 6 p0) 4)] zd_5_4_104 zk_Line_45 zT_1077 (zz_ltn hn rfl) rfl rfl ⟨Nat.le_of_ble_eq_true rfl, Nat.le_of_ble_eq_true rfl⟩ ⟨rfl, rfl⟩ (Nat.zero_le _) (Nat.zero_le _) (zc_addPair_5_8 11 (S0 (zz_rf 6 p0) 3) (S0 (zz_rf 6 p0) 4) S23 n hn G_S23 (by omega) (by omega) (by omega)) (fun S27 hP => ?_)
    obtain ⟨G_S27, fS27⟩ := hP
    have F_S27 := zz_fr.trans F_S23 fS27 rfl zz_nv
    refine zz_goto zd_5_4_107 ?_
    refine zz_aload_n (x := 1077) rfl zd_5_4_155 ?_
    refine zz_aload_n (x := zz_rf 6 p0) rfl zd_5_4_156 ?_
    refine zz_callVV [.ref (zz_rf 6 p0)] zd_5_4_157 zk_Line_122 zT_1077 (zz_ltn hn rfl) rfl rfl ⟨Nat.le_of_ble_eq_true rfl, Nat.le_of_ble_eq_true rfl⟩ ⟨rfl, rfl⟩ (Nat.zero_le _) (Nat.zero_le _) (zc_addOptions_5_5 p0 S27 n hn G_S27 (by omega)) (fun S29 hP => ?_)
    obtain ⟨G_S29, fS29⟩ := hP
    have F_S29 := zz_fr.trans F_S27 fS29 rfl zz_nv
    refine zz_aload_n (x := 1077) rfl zd_5_4_160 ?_
    refine zz_bipush (by decide) zd_5_4_161 ?_
    refine zz_callVV [zi 10] zd_5_4_163 zk_Line_69 zT_1077 (zz_ltn hn rfl) rfl rfl ⟨Nat.le_of_ble_eq_true rfl, Nat.le_of_ble_eq_true rfl⟩ ⟨rfl, rfl⟩ (Nat.zero_le _) (Nat.zero_le _) (zc_addSign_5_12 10 S29 n hn G_S29 (by omega)) (fun S31 hP => ?_)
    obtain ⟨G_S31, fS31⟩ := hP
    have F_S31 := zz_fr.trans F_S29 fS31 rfl zz_nv
    exact zz_vret zd_5_4_166 rfl (Nat.zero_le _) (Nat.zero_le _) ⟨_, rfl, G_S31, F_S31⟩
  by_cases c33 : S0 (zz_rf 6 p0) 0 = 3
  · refine zz_swIn 3 101 c33 (by decide) zd_5_4_9 rfl rfl ?_
    refine zz_aload_n (x := 1077) rfl zd_5_4_110 ?_
    refine zz_ldcs (t := 23) (by decide +kernel) (by decide) zd_5_4_111 ?_
    refine zz_aload_n (x := zz_rf 6 p0) rfl zd_5_4_113 ?_
    have g34 := zz_G.r G_S0 (zz_rf 6 p0) 1 (-2147483648) 2147483647 (zR_k6_1 (by omega)) (zB_k6 (by omega))
    refine zz_geti (z := S0 (zz_rf 6 p0) 1) zd_5_4_114 zf_Line_80 (zT_k6 (by omega)) rfl (zN_k6 hn (by omega)) (zz_ro qS1 (fun h => absurd h.1 (by have := zz_rf6 (z := p0) (by omega); omega)) rfl) ?_
    refine zz_callVV [.ref (100 + 23), zi (S0 (zz_rf 6 p0) 1)] zd_5_4_117 zk_Line_83 zT_1077 (zz_ltn hn rfl) rfl rfl ⟨Nat.le_of_ble_eq_true rfl, Nat.le_of_ble_eq_true rfl⟩ ⟨rfl, rfl⟩ (Nat.zero_le _) (Nat.zero_le _) (zc_addNumbered_5_9 23 (S0 (zz_rf 6 p0) 1) S1 n hn G_S1 (by omega) (by omega)) (fun S35 hP => ?_)
    obtain ⟨G_S35, fS35⟩ := hP
    have F_S35 := zz_fr.trans F_S1 fS35 rfl zz_nv
    refine zz_aload_n (x := 1077) rfl zd_5_4_120 ?_
    refine zz_aload_n (x := zz_rf 6 p0) rfl zd_5_4_121 ?_
    have g37 := zz_G.r G_S0 (zz_rf 6 p0) 2 (-2147483648) 2147483647 (zR_k6_2 (by omega)) (zB_k6 (by omega))
    refine zz_geti (z := S0 (zz_rf 6 p0) 2) zd_5_4_122 zf_Line_105 (zT_k6 (by omega)) rfl (zN_k6 hn (by omega)) (zz_rc fS35 (zP_k6 (by omega) rfl) (zQ_k6 (by omega) rfl) (fun h => h) (zz_ro qS1 (fun h => absurd h.2 (by decide)) rfl)) ?_
    refine zz_callVV [zi (S0 (zz_rf 6 p0) 2)] zd_5_4_125 zk_Line_108 zT_1077 (zz_ltn hn rfl) rfl rfl ⟨Nat.le_of_ble_eq_true rfl, Nat.le_of_ble_eq_true rfl⟩ ⟨rfl, rfl⟩ (Nat.zero_le _) (Nat.zero_le _) (zc_addNumber_5_11 (S0 (zz_rf 6 p0) 2) S35 n hn G_S35 (by omega)) (fun S38 hP => ?_)
    obtain ⟨G_S38, fS38⟩ := hP
    have F_S38 := zz_fr.trans F_S35 fS38 rfl zz_nv
    refine zz_goto zd_5_4_128 ?_
    refine zz_aload_n (x := 1077) rfl zd_5_4_155 ?_
    refine zz_aload_n (x := zz_rf 6 p0) rfl zd_5_4_156 ?_
    refine zz_callVV [.ref (zz_rf 6 p0)] zd_5_4_157 zk_Line_122 zT_1077 (zz_ltn hn rfl) rfl rfl ⟨Nat.le_of_ble_eq_true rfl, Nat.le_of_ble_eq_true rfl⟩ ⟨rfl, rfl⟩ (Nat.zero_le _) (Nat.zero_le _) (zc_addOptions_5_5 p0 S38 n hn G_S38 (by omega)) (fun S40 hP => ?_)
    obtain ⟨G_S40, fS40⟩ := hP
    have F_S40 := zz_fr.trans F_S38 fS40 rfl zz_nv
    refine zz_aload_n (x := 1077) rfl zd_5_4_160 ?_
    refine zz_bipush (by decide) zd_5_4_161 ?_
    refine zz_callVV [zi 10] zd_5_4_163 zk_Line_69 zT_1077 (zz_ltn hn rfl) rfl rfl ⟨Nat.le_of_ble_eq_true rfl, Nat.le_of_ble_eq_true rfl⟩ ⟨rfl, rfl⟩ (Nat.zero_le _) (Nat.zero_le _) (zc_addSign_5_12 10 S40 n hn G_S40 (by omega)) (fun S42 hP => ?_)
    obtain ⟨G_S42, fS42⟩ := hP
    have F_S42 := zz_fr.trans F_S40 fS42 rfl zz_nv
    exact zz_vret zd_5_4_166 rfl (Nat.zero_le _) (Nat.zero_le _) ⟨_, rfl, G_S42, F_S42⟩
  refine zz_swOut (by omega) (by omega) zd_5_4_9 rfl ?_
  refine zz_aload_n (x := 1077) rfl zd_5_4_131 ?_
  refine zz_ldcs (t := 29) (by decide +kernel) (by decide) zd_5_4_132 ?_
  refine zz_aload_n (x := zz_rf 6 p0) rfl zd_5_4_134 ?_
  have g45 := zz_G.r G_S0 (zz_rf 6 p0) 10 (-2147483648) 2147483647 (zR_k6_10 (by omega)) (zB_k6 (by omega))
  refine zz_geti (z := S0 (zz_rf 6 p0) 10) zd_5_4_135 zf_Line_114 (zT_k6 (by omega)) rfl (zN_k6 hn (by omega)) (zz_ro qS1 (fun h => absurd h.2 (by decide)) rfl) ?_
  refine zz_aload_n (x := zz_rf 6 p0) rfl zd_5_4_138 ?_
  have g46 := zz_G.r G_S0 (zz_rf 6 p0) 11 (-2147483648) 2147483647 (zR_k6_11 (by omega)) (zB_k6 (by omega))
  refine zz_geti (z := S0 (zz_rf 6 p0) 11) zd_5_4_139 zf_Line_117 (zT_k6 (by omega)) rfl (zN_k6 hn (by omega)) (zz_ro qS1 (fun h => absurd h.2 (by decide)) rfl) ?_
  refine zz_callVV [.ref (100 + 29), zi (S0 (zz_rf 6 p0) 10), zi (S0 (zz_rf 6 p0) 11)] zd_5_4_142 zk_Line_45 zT_1077 (zz_ltn hn rfl) rfl rfl ⟨Nat.le_of_ble_eq_true rfl, Nat.le_of_ble_eq_true rfl⟩ ⟨rfl, rfl⟩ (Nat.zero_le _) (Nat.zero_le _) (zc_addPair_5_8 29 (S0 (zz_rf 6 p0) 10) (S0 (zz_rf 6 p0) 11) S1 n hn G_S1 (by omega) (by omega) (by omega)) (fun S47 hP => ?_)
  obtain ⟨G_S47, fS47⟩ := hP
  have F_S47 := zz_fr.trans F_S1 fS47 rfl zz_nv
  refine zz_aload_n (x := 1077) rfl zd_5_4_145 ?_
  refine zz_ldcs (t := 12) (by decide +kernel) (by decide) zd_5_4_146 ?_
  refine zz_aload_n (x := zz_rf 6 p0) rfl zd_5_4_148 ?_
  have g49 := zz_G.r G_S0 (zz_rf 6 p0) 12 (-2147483648) 2147483647 (zR_k6_12 (by omega)) (zB_k6 (by omega))
  refine zz_geti (z := S0 (zz_rf 6 p0) 12) zd_5_4_149 zf_Line_95 (zT_k6 (by omega)) rfl (zN_k6 hn (by omega)) (zz_rc fS47 (zP_k6 (by omega) rfl) (zQ_k6 (by omega) rfl) (fun h => h) (zz_ro qS1 (fun h => absurd h.2 (by decide)) rfl)) ?_
  refine zz_callVV [.ref (100 + 12), zi (S0 (zz_rf 6 p0) 12)] zd_5_4_152 zk_Line_83 zT_1077 (zz_ltn hn rfl) rfl rfl ⟨Nat.le_of_ble_eq_true rfl, Nat.le_of_ble_eq_true rfl⟩ ⟨rfl, rfl⟩ (Nat.zero_le _) (Nat.zero_le _) (zc_addNumbered_5_9 12 (S0 (zz_rf 6 p0) 12) S47 n hn G_S47 (by omega) (by omega)) (fun S50 hP => ?_)
  obtain ⟨G_S50, fS50⟩ := hP
  have F_S50 := zz_fr.trans F_S47 fS50 rfl zz_nv
  refine zz_aload_n (x := 1077) rfl zd_5_4_155 ?_
  refine zz_aload_n (x := zz_rf 6 p0) rfl zd_5_4_156 ?_
  refine zz_callVV [.ref (zz_rf 6 p0)] zd_5_4_157 zk_Line_122 zT_1077 (zz_ltn hn rfl) rfl rfl ⟨Nat.le_of_ble_eq_true rfl, Nat.le_of_ble_eq_true rfl⟩ ⟨rfl, rfl⟩ (Nat.zero_le _) (Nat.zero_le _) (zc_addOptions_5_5 p0 S50 n hn G_S50 (by omega)) (fun S52 hP => ?_)
  obtain ⟨G_S52, fS52⟩ := hP
  have F_S52 := zz_fr.trans F_S50 fS52 rfl zz_nv
  refine zz_aload_n (x := 1077) rfl zd_5_4_160 ?_
  refine zz_bipush (by decide) zd_5_4_161 ?_
  refine zz_callVV [zi 10] zd_5_4_163 zk_Line_69 zT_1077 (zz_ltn hn rfl) rfl rfl ⟨Nat.le_of_ble_eq_true rfl, Nat.le_of_ble_eq_true rfl⟩ ⟨rfl, rfl⟩ (Nat.zero_le _) (Nat.zero_le _) (zc_addSign_5_12 10 S52 n hn G_S52 (by omega)) (fun S54 hP => ?_)
  obtain ⟨G_S54, fS54⟩ := hP
  have F_S54 := zz_fr.trans F_S52 fS54 rfl zz_nv
  exact zz_vret zd_5_4_166 rfl (Nat.zero_le _) (Nat.zero_le _) ⟨_, rfl, G_S54, F_S54⟩
theorem zk_TF_301 : mm_Vl "TensorForge" 301 10 1 zy_writeLayer_5_4 := ⟨zyw_writeLayer_5_4, (R_Line, F_Line, 2), rfl, mm_tb_1 1489 (by decide +kernel) rfl, mm_tb_1 1490 (by decide +kernel) rfl, mm_tb_1 1491 (by decide +kernel) rfl⟩
theorem zd_1_26_42 : zz_D zy_networkSign_1_26 42 (.aload_n 0) 1 43 := ⟨by decide +kernel, rfl⟩
theorem zd_1_26_43 : zz_D zy_networkSign_1_26 43 (.getfield 83) 3 46 := ⟨by decide +kernel, rfl⟩
theorem zd_1_26_46 : zz_D zy_networkSign_1_26 46 (.iload_n 2) 1 47 := ⟨by decide +kernel, rfl⟩
theorem zd_1_26_47 : zz_D zy_networkSign_1_26 47 (.invokevirtual 178) 3 50 := ⟨by decide +kernel, rfl⟩
theorem zd_1_26_50 : zz_D zy_networkSign_1_26 50 (.ireturn) 1 51 := ⟨by decide +kernel, rfl⟩
-- TensorForge networkSign (II)I
abbrev zr_networkSign_1_26 : Room := { frames := 8, cells := 1, slots := 6, locals := 110 }
def zp_networkSign_1_26 (p0 : Int) (p1 : Int) (S0 : zz_S) : Int → zz_S → Prop := fun r S => zz_G S ∧ zz_fr [(1077, 1)] [1078] (fun _ _ => False) S0 S ∧ ((-2147483648) ≤ r ∧ r ≤ 2147483647)
def zx_networkSign_1_26 (p0 : Int) (p1 : Int) (S0 : zz_S) : Nat → zz_S → Prop := fun i S => zz_G S ∧ zz_fr [(1077, 1)] [1078] (fun _ _ => False) S0 S ∧ (i < 4) ∧ (i = 1)
theorem zc_networkSign_1_26 {g : mm_G} {l : Launch} (p0 : Int) (p1 : Int) (S0 : zz_S) (n : Nat) (hn : zz_end ≤ n) (hfl : l.flags = flags0) (G_S0 : zz_G S0) (hp0 : (-2147483648) ≤ p0 ∧ p0 ≤ 2147483647) (hp1 : (-2147483648) ≤ p1 ∧ p1 ≤ 2147483647) : mm_Met g l zy_networkSign_1_26 zr_networkSign_1_26 [.ref 1000, zi p0, zi p1] (zz_M S0 n) n (zz_XI n (zp_networkSign_1_26 p0 p1 S0) (zx_networkSign_1_26 p0 p1 S0)) := by
  refine zz_enter (by decide) (Nat.le_of_ble_eq_true rfl) (zz_less (ls1 := [some (.ref 1000), some (zi p0), some (zi p1)]) ⟨rfl, ⟨rfl, ⟨rfl, trivial⟩⟩⟩ ?_)
  have F_S0 : zz_fr [(1077, 1)] [1078] (fun _ _ => False) S0 S0 := zz_fr.refl
  refine zz_aload_n (x := 1000) rfl zd_1_26_0 ?_
  have g1 := zz_G.r G_S0 1000 7 0 1 rfl rfl
  refine zz_getr (kd := 1) (z := S0 1000 7) zd_1_26_1 zf_TF_10 zT_1000 rfl (zz_ltn hn rfl) rfl (by omega) (zz_rf 3 (S0 1000 7)) rfl ?_
  refine zz_iload_n (x := p0) rfl zd_1_26_4 ?_
  refine zz_callVI [zi p0] zd_1_26_5 zk_TF_251 (zT_k3 (by omega)) (zN_k3 hn (by omega)) rfl rfl ⟨Nat.le_of_ble_eq_true rfl, Nat.le_of_ble_eq_true rfl⟩ ⟨rfl, rfl⟩ (Nat.zero_le _) (Nat.zero_le _) (zc_has_7_5 (S0 1000 7) p0 S0 n hn G_S0 (by omega) (by omega)) (fun v3 S2 hP => ?_)
  obtain ⟨rfl, o4, o5⟩ := hP
  rcases (by omega : v3 = 0 ∨ v3 = 1) with rfl | rfl
  · refine zz_if_eq (by omega) zd_1_26_8 (fun c6 => ?_) (fun c6 => ?_)
    · exact zz_throwW (i := 1) hfl hn zt_1_26_15 zyw_networkSign_1_26 zxl_TF_101_299_105 (Nat.le_of_ble_eq_true rfl) (Nat.le_of_ble_eq_true rfl) ⟨Nat.le_of_ble_eq_true rfl, Nat.le_of_ble_eq_true rfl⟩ (Or.inr ⟨_, _, rfl, G_S0, F_S0, by omega, by omega⟩)
    · exfalso; omega
  · refine zz_if_eq (by omega) zd_1_26_8 (fun c7 => ?_) (fun c7 => ?_)
    · exfalso; omega
    · refine zz_iload_n (x := p1) rfl zd_1_26_11 ?_
      refine zz_if_ge (by omega) zd_1_26_12 (fun c8 => ?_) (fun c8 => ?_)
      · refine zz_aload_n (x := 1000) rfl zd_1_26_26 ?_
        refine zz_getr (kd := 0) (z := 1077) zd_1_26_27 zf_TF_83 zT_1000 rfl (zz_ltn hn rfl) (zz_G.eq G_S0 1000 6 1077 rfl rfl) (by decide) 1077 rfl ?_
        refine zz_aload_n (x := 1000) rfl zd_1_26_30 ?_
        refine zz_getr (kd := 1) (z := S0 1000 7) zd_1_26_31 zf_TF_10 zT_1000 rfl (zz_ltn hn rfl) rfl (by omega) (zz_rf 3 (S0 1000 7)) rfl ?_
        refine zz_getr (kd := 0) (z := ((zz_rf 3 (S0 1000 7) + 1 : Nat) : Int)) zd_1_26_34 zf_TF_258 (zT_k3 (by omega)) rfl (zN_k3 hn (by omega)) (zE_k3a G_S0 (by omega)) (Int.natCast_nonneg _) (zz_rf 3 (S0 1000 7) + 1) (Int.toNat_natCast _) ?_
        refine zz_iload_n (x := p0) rfl zd_1_26_37 ?_
        refine zz_aald (kd := 4) (z := 12 * (S0 1000 7) + p0) zd_1_26_38 (zT_k3a (by omega)) rfl (zN_k3a hn (by omega)) (by decide) (by omega) (zE_lay G_S0 (by omega) (by omega)) (by omega) (zz_rf 6 (12 * (S0 1000 7) + p0)) rfl ?_
        refine zz_callVV [.ref (zz_rf 6 (12 * (S0 1000 7) + p0))] zd_1_26_39 zk_TF_301 zT_1077 (zz_ltn hn rfl) rfl rfl ⟨Nat.le_of_ble_eq_true rfl, Nat.le_of_ble_eq_true rfl⟩ ⟨rfl, rfl⟩ (Nat.zero_le _) (Nat.zero_le _) (zc_writeLayer_5_4 (12 * (S0 1000 7) + p0) S0 n hn G_S0 (by omega)) (fun S9 hP => ?_)
        obtain ⟨G_S9, fS9⟩ := hP
        have F_S9 := zz_fr.trans F_S0 fS9 rfl zz_nv
        refine zz_aload_n (x := 1000) rfl zd_1_26_42 ?_
        refine zz_getr (kd := 0) (z := 1077) zd_1_26_43 zf_TF_83 zT_1000 rfl (zz_ltn hn rfl) (zz_G.eq G_S9 1000 6 1077 rfl rfl) (by decide) 1077 rfl ?_
        refine zz_iload_n (x := p1) rfl zd_1_26_46 ?_
        refine zz_callVI [zi p1] zd_1_26_47 zk_TF_178 zT_1077 (zz_ltn hn rfl) rfl rfl ⟨Nat.le_of_ble_eq_true rfl, Nat.le_of_ble_eq_true rfl⟩ ⟨rfl, rfl⟩ (Nat.zero_le _) (Nat.zero_le _) (zc_signAt_5_2 p1 S9 n hn G_S9 (by omega)) (fun v12 S11 hP => ?_)
        obtain ⟨rfl, o13⟩ := hP
        exact zz_iret zd_1_26_50 rfl (Nat.le_of_ble_eq_true rfl) (Nat.le_of_ble_eq_true rfl) (Or.inl ⟨_, _, rfl, G_S9, F_S9, by omega⟩)
      · exact zz_throwW (i := 1) hfl hn zt_1_26_15 zyw_networkSign_1_26 zxl_TF_101_299_105 (Nat.le_of_ble_eq_true rfl) (Nat.le_of_ble_eq_true rfl) ⟨Nat.le_of_ble_eq_true rfl, Nat.le_of_ble_eq_true rfl⟩ (Or.inr ⟨_, _, rfl, G_S0, F_S0, by omega, by omega⟩)
abbrev zy_place_1_27 : mm_Y := (⟨"TensorForge", "place", "()I"⟩, prog_1_method_27_code, 1, (some .int))
theorem zyw_place_1_27 : mm_Yw zy_place_1_27 0 := ⟨mm_tb_1 1511 (by decide +kernel) rfl, mm_tb_1 1 (by decide +kernel) rfl, ⟨by decide, by decide⟩, by decide +kernel⟩
theorem zd_1_27_0 : zz_D zy_place_1_27 0 (.aload_n 0) 1 1 := ⟨by decide +kernel, rfl⟩
theorem zd_1_27_1 : zz_D zy_place_1_27 1 (.getfield 10) 3 4 := ⟨by decide +kernel, rfl⟩
theorem zd_1_27_4 : zz_D zy_place_1_27 4 (.invokevirtual 305) 3 7 := ⟨by decide +kernel, rfl⟩
abbrev zy_findSpots_7_10 : mm_Y := (⟨"TensorForge$Network", "findSpots", "()Z"⟩, prog_7_method_10_code, 2, (some .boolean))
theorem zyw_findSpots_7_10 : mm_Yw zy_findSpots_7_10 0 := ⟨mm_tb_1 1515 (by decide +kernel) rfl, mm_tb_1 2 (by decide +kernel) rfl, ⟨by decide, by decide⟩, by decide +kernel⟩
theorem zd_7_10_0 : zz_D zy_findSpots_7_10 0 (.aload_n 0) 1 1 := ⟨by decide +kernel, rfl⟩
theorem zd_7_10_1 : zz_D zy_findSpots_7_10 1 (.getfield 11) 3 4 := ⟨by decide +kernel, rfl⟩
theorem zd_7_10_4 : zz_D zy_findSpots_7_10 4 (.iconst 0) 1 5 := ⟨by decide +kernel, rfl⟩
theorem zd_7_10_5 : zz_D zy_findSpots_7_10 5 (.aaload) 1 6 := ⟨by decide +kernel, rfl⟩
theorem zd_7_10_6 : zz_D zy_findSpots_7_10 6 (.iconst 0) 1 7 := ⟨by decide +kernel, rfl⟩
theorem zd_7_10_7 : zz_D zy_findSpots_7_10 7 (.putfield 76) 3 10 := ⟨by decide +kernel, rfl⟩
theorem zf_Network_76 : mm_Fl "TensorForge$Network" 76 2 14 .int false := ⟨R_Layer, F_Layer, 15, t_Layer, rfl, i_Layer, by decide, mm_tb_1 111 (by decide +kernel) rfl, rfl, t_Layer_ok, n_Layer, rfl, by decide +kernel⟩
theorem zd_7_10_10 : zz_D zy_findSpots_7_10 10 (.iconst 1) 1 11 := ⟨by decide +kernel, rfl⟩
theorem zd_7_10_11 : zz_D zy_findSpots_7_10 11 (.istore_n 1) 1 12 := ⟨by decide +kernel, rfl⟩
theorem zd_7_10_12 : zz_D zy_findSpots_7_10 12 (.iload_n 1) 1 13 := ⟨by decide +kernel, rfl⟩
theorem zd_7_10_13 : zz_D zy_findSpots_7_10 13 (.aload_n 0) 1 14 := ⟨by decide +kernel, rfl⟩
theorem zd_7_10_14 : zz_D zy_findSpots_7_10 14 (.getfield 16) 3 17 := ⟨by decide +kernel, rfl⟩
theorem zd_7_10_17 : zz_B zy_findSpots_7_10 17 (Instr.if_icmp .ge) 67 20 := ⟨50, by decide +kernel, rfl, rfl⟩
theorem zd_7_10_67 : zz_D zy_findSpots_7_10 67 (.iconst 1) 1 68 := ⟨by decide +kernel, rfl⟩
theorem zd_7_10_68 : zz_D zy_findSpots_7_10 68 (.ireturn) 1 69 := ⟨by decide +kernel, rfl⟩
theorem zd_7_10_20 : zz_D zy_findSpots_7_10 20 (.aload_n 0) 1 21 := ⟨by decide +kernel, rfl⟩
theorem zd_7_10_21 : zz_D zy_findSpots_7_10 21 (.getfield 11) 3 24 := ⟨by decide +kernel, rfl⟩
theorem zd_7_10_24 : zz_D zy_findSpots_7_10 24 (.iload_n 1) 1 25 := ⟨by decide +kernel, rfl⟩
theorem zd_7_10_25 : zz_D zy_findSpots_7_10 25 (.aaload) 1 26 := ⟨by decide +kernel, rfl⟩
theorem zd_7_10_26 : zz_D zy_findSpots_7_10 26 (.aload_n 0) 1 27 := ⟨by decide +kernel, rfl⟩
theorem zd_7_10_27 : zz_D zy_findSpots_7_10 27 (.iload_n 1) 1 28 := ⟨by decide +kernel, rfl⟩
theorem zd_7_10_28 : zz_D zy_findSpots_7_10 28 (.invokevirtual 79) 3 31 := ⟨by decide +kernel, rfl⟩
abbrev zy_leastSpot_7_12 : mm_Y := (⟨"TensorForge$Network", "leastSpot", "(I)I"⟩, prog_7_method_12_code, 7, (some .int))
theorem zyw_leastSpot_7_12 : mm_Yw zy_leastSpot_7_12 1 := ⟨mm_tb_1 1519 (by decide +kernel) rfl, mm_tb_1 2 (by decide +kernel) rfl, ⟨by decide, by decide⟩, by decide +kernel⟩
theorem zd_7_12_0 : zz_D zy_leastSpot_7_12 0 (.iconst 0) 1 1 := ⟨by decide +kernel, rfl⟩
theorem zd_7_12_1 : zz_D zy_leastSpot_7_12 1 (.istore_n 2) 1 2 := ⟨by decide +kernel, rfl⟩
theorem zd_7_12_2 : zz_D zy_leastSpot_7_12 2 (.aload_n 0) 1 3 := ⟨by decide +kernel, rfl⟩
theorem zd_7_12_3 : zz_D zy_leastSpot_7_12 3 (.getfield 11) 3 6 := ⟨by decide +kernel, rfl⟩
theorem zd_7_12_6 : zz_D zy_leastSpot_7_12 6 (.iload_n 1) 1 7 := ⟨by decide +kernel, rfl⟩
theorem zd_7_12_7 : zz_D zy_leastSpot_7_12 7 (.aaload) 1 8 := ⟨by decide +kernel, rfl⟩
theorem zd_7_12_8 : zz_D zy_leastSpot_7_12 8 (.invokevirtual 60) 3 11 := ⟨by decide +kernel, rfl⟩
theorem zd_7_12_11 : zz_D zy_leastSpot_7_12 11 (.istore_n 3) 1 12 := ⟨by decide +kernel, rfl⟩
theorem zd_7_12_12 : zz_D zy_leastSpot_7_12 12 (.iconst 0) 1 13 := ⟨by decide +kernel, rfl⟩
theorem zd_7_12_13 : zz_D zy_leastSpot_7_12 13 (.istore 4) 2 15 := ⟨by decide +kernel, rfl⟩
theorem zd_7_12_15 : zz_D zy_leastSpot_7_12 15 (.iload 4) 2 17 := ⟨by decide +kernel, rfl⟩
theorem zd_7_12_17 : zz_D zy_leastSpot_7_12 17 (.iload_n 1) 1 18 := ⟨by decide +kernel, rfl⟩
theorem zd_7_12_18 : zz_B zy_leastSpot_7_12 18 (Instr.if_icmp .ge) 100 21 := ⟨82, by decide +kernel, rfl, rfl⟩
theorem zd_7_12_100 : zz_D zy_leastSpot_7_12 100 (.iload_n 2) 1 101 := ⟨by decide +kernel, rfl⟩
theorem zd_7_12_101 : zz_D zy_leastSpot_7_12 101 (.ireturn) 1 102 := ⟨by decide +kernel, rfl⟩
theorem zd_7_12_21 : zz_D zy_leastSpot_7_12 21 (.iconst 0) 1 22 := ⟨by decide +kernel, rfl⟩
theorem zd_7_12_22 : zz_D zy_leastSpot_7_12 22 (.istore 5) 2 24 := ⟨by decide +kernel, rfl⟩
theorem zd_7_12_24 : zz_D zy_leastSpot_7_12 24 (.iload 5) 2 26 := ⟨by decide +kernel, rfl⟩
theorem zd_7_12_26 : zz_D zy_leastSpot_7_12 26 (.iload_n 1) 1 27 := ⟨by decide +kernel, rfl⟩
theorem zd_7_12_27 : zz_B zy_leastSpot_7_12 27 (Instr.if_icmp .ge) 94 30 := ⟨67, by decide +kernel, rfl, rfl⟩
theorem zd_7_12_30 : zz_D zy_leastSpot_7_12 30 (.aload_n 0) 1 31 := ⟨by decide +kernel, rfl⟩
theorem zd_7_12_31 : zz_D zy_leastSpot_7_12 31 (.getfield 11) 3 34 := ⟨by decide +kernel, rfl⟩
theorem zd_7_12_34 : zz_D zy_leastSpot_7_12 34 (.iload 5) 2 36 := ⟨by decide +kernel, rfl⟩
theorem zd_7_12_36 : zz_D zy_leastSpot_7_12 36 (.aaload) 1 37 := ⟨by decide +kernel, rfl⟩
theorem zd_7_12_37 : zz_D zy_leastSpot_7_12 37 (.getfield 76) 3 40 := ⟨by decide +kernel, rfl⟩
theorem zd_7_12_40 : zz_D zy_leastSpot_7_12 40 (.aload_n 0) 1 41 := ⟨by decide +kernel, rfl⟩
theorem zd_7_12_41 : zz_D zy_leastSpot_7_12 41 (.getfield 11) 3 44 := ⟨by decide +kernel, rfl⟩
theorem zd_7_12_44 : zz_D zy_leastSpot_7_12 44 (.iload 5) 2 46 := ⟨by decide +kernel, rfl⟩
theorem zd_7_12_46 : zz_D zy_leastSpot_7_12 46 (.aaload) 1 47 := ⟨by decide +kernel, rfl⟩
theorem zd_7_12_47 : zz_D zy_leastSpot_7_12 47 (.invokevirtual 60) 3 50 := ⟨by decide +kernel, rfl⟩
theorem zd_7_12_50 : zz_D zy_leastSpot_7_12 50 (.iadd) 1 51 := ⟨by decide +kernel, rfl⟩
theorem zd_7_12_51 : zz_D zy_leastSpot_7_12 51 (.istore 6) 2 53 := ⟨by decide +kernel, rfl⟩
theorem zd_7_12_53 : zz_D zy_leastSpot_7_12 53 (.iload_n 2) 1 54 := ⟨by decide +kernel, rfl⟩
theorem zd_7_12_54 : zz_D zy_leastSpot_7_12 54 (.iload 6) 2 56 := ⟨by decide +kernel, rfl⟩
theorem zd_7_12_56 : zz_B zy_leastSpot_7_12 56 (Instr.if_icmp .ge) 88 59 := ⟨32, by decide +kernel, rfl, rfl⟩
theorem zd_7_12_88 : zz_D zy_leastSpot_7_12 88 (.iinc 5 1) 3 91 := ⟨by decide +kernel, rfl⟩
theorem zd_7_12_91 : zz_B zy_leastSpot_7_12 91 Instr.goto 24 94 := ⟨(-67), by decide +kernel, rfl, rfl⟩
theorem zd_7_12_59 : zz_D zy_leastSpot_7_12 59 (.aload_n 0) 1 60 := ⟨by decide +kernel, rfl⟩
theorem zd_7_12_60 : zz_D zy_leastSpot_7_12 60 (.getfield 11) 3 63 := ⟨by decide +kernel, rfl⟩
theorem zd_7_12_63 : zz_D zy_leastSpot_7_12 63 (.iload 5) 2 65 := ⟨by decide +kernel, rfl⟩
theorem zd_7_12_65 : zz_D zy_leastSpot_7_12 65 (.aaload) 1 66 := ⟨by decide +kernel, rfl⟩
theorem zd_7_12_66 : zz_D zy_leastSpot_7_12 66 (.getfield 76) 3 69 := ⟨by decide +kernel, rfl⟩
theorem zd_7_12_69 : zz_D zy_leastSpot_7_12 69 (.iload_n 2) 1 70 := ⟨by decide +kernel, rfl⟩
theorem zd_7_12_70 : zz_D zy_leastSpot_7_12 70 (.iload_n 3) 1 71 := ⟨by decide +kernel, rfl⟩
theorem zd_7_12_71 : zz_D zy_leastSpot_7_12 71 (.iadd) 1 72 := ⟨by decide +kernel, rfl⟩
theorem zd_7_12_72 : zz_B zy_leastSpot_7_12 72 (Instr.if_icmp .ge) 88 75 := ⟨16, by decide +kernel, rfl, rfl⟩
theorem zd_7_12_75 : zz_D zy_leastSpot_7_12 75 (.aload_n 0) 1 76 := ⟨by decide +kernel, rfl⟩
theorem zd_7_12_76 : zz_D zy_leastSpot_7_12 76 (.iload 5) 2 78 := ⟨by decide +kernel, rfl⟩
theorem zd_7_12_78 : zz_D zy_leastSpot_7_12 78 (.iload_n 1) 1 79 := ⟨by decide +kernel, rfl⟩
theorem zd_7_12_79 : zz_D zy_leastSpot_7_12 79 (.invokevirtual 83) 3 82 := ⟨by decide +kernel, rfl⟩
abbrev zy_isNeeded_7_13 : mm_Y := (⟨"TensorForge$Network", "isNeeded", "(II)Z"⟩, prog_7_method_13_code, 5, (some .boolean))
theorem zyw_isNeeded_7_13 : mm_Yw zy_isNeeded_7_13 2 := ⟨mm_tb_1 1523 (by decide +kernel) rfl, mm_tb_1 2 (by decide +kernel) rfl, ⟨by decide, by decide⟩, by decide +kernel⟩
theorem zd_7_13_0 : zz_D zy_isNeeded_7_13 0 (.iconst 0) 1 1 := ⟨by decide +kernel, rfl⟩
theorem zd_7_13_1 : zz_D zy_isNeeded_7_13 1 (.istore_n 3) 1 2 := ⟨by decide +kernel, rfl⟩
theorem zd_7_13_2 : zz_D zy_isNeeded_7_13 2 (.iconst 1) 1 3 := ⟨by decide +kernel, rfl⟩
theorem zd_7_13_3 : zz_D zy_isNeeded_7_13 3 (.istore 4) 2 5 := ⟨by decide +kernel, rfl⟩
theorem zd_7_13_5 : zz_D zy_isNeeded_7_13 5 (.iload 4) 2 7 := ⟨by decide +kernel, rfl⟩
theorem zd_7_13_7 : zz_D zy_isNeeded_7_13 7 (.aload_n 0) 1 8 := ⟨by decide +kernel, rfl⟩
theorem zd_7_13_8 : zz_D zy_isNeeded_7_13 8 (.getfield 16) 3 11 := ⟨by decide +kernel, rfl⟩
theorem zd_7_13_11 : zz_B zy_isNeeded_7_13 11 (Instr.if_icmp .ge) 44 14 := ⟨33, by decide +kernel, rfl, rfl⟩
theorem zd_7_13_44 : zz_D zy_isNeeded_7_13 44 (.iload_n 3) 1 45 := ⟨by decide +kernel, rfl⟩
theorem zd_7_13_45 : zz_B zy_isNeeded_7_13 45 (Instr.ifCond .ne) 52 48 := ⟨7, by decide +kernel, rfl, rfl⟩
theorem zd_7_13_48 : zz_D zy_isNeeded_7_13 48 (.iconst 1) 1 49 := ⟨by decide +kernel, rfl⟩
theorem zd_7_13_49 : zz_B zy_isNeeded_7_13 49 Instr.goto 53 52 := ⟨4, by decide +kernel, rfl, rfl⟩
theorem zd_7_13_53 : zz_D zy_isNeeded_7_13 53 (.ireturn) 1 54 := ⟨by decide +kernel, rfl⟩
theorem zd_7_13_14 : zz_D zy_isNeeded_7_13 14 (.aload_n 0) 1 15 := ⟨by decide +kernel, rfl⟩
theorem zd_7_13_15 : zz_D zy_isNeeded_7_13 15 (.getfield 11) 3 18 := ⟨by decide +kernel, rfl⟩
theorem zd_7_13_18 : zz_D zy_isNeeded_7_13 18 (.iload 4) 2 20 := ⟨by decide +kernel, rfl⟩
theorem zd_7_13_20 : zz_D zy_isNeeded_7_13 20 (.aaload) 1 21 := ⟨by decide +kernel, rfl⟩
theorem zd_7_13_21 : zz_D zy_isNeeded_7_13 21 (.iload_n 1) 1 22 := ⟨by decide +kernel, rfl⟩
theorem zd_7_13_22 : zz_D zy_isNeeded_7_13 22 (.invokevirtual 87) 3 25 := ⟨by decide +kernel, rfl⟩
abbrev zy_takes_4_8 : mm_Y := (⟨"TensorForge$Layer", "takes", "(I)Z"⟩, prog_4_method_8_code, 2, (some .boolean))
theorem zyw_takes_4_8 : mm_Yw zy_takes_4_8 1 := ⟨mm_tb_1 1527 (by decide +kernel) rfl, mm_tb_1 3 (by decide +kernel) rfl, ⟨by decide, by decide⟩, by decide +kernel⟩
theorem zd_4_8_0 : zz_D zy_takes_4_8 0 (.aload_n 0) 1 1 := ⟨by decide +kernel, rfl⟩
theorem zd_4_8_1 : zz_D zy_takes_4_8 1 (.getfield 13) 3 4 := ⟨by decide +kernel, rfl⟩
theorem zd_4_8_4 : zz_B zy_takes_4_8 4 (Instr.ifCond .eq) 27 7 := ⟨23, by decide +kernel, rfl, rfl⟩
theorem zd_4_8_27 : zz_D zy_takes_4_8 27 (.iconst 0) 1 28 := ⟨by decide +kernel, rfl⟩
theorem zd_4_8_28 : zz_D zy_takes_4_8 28 (.ireturn) 1 29 := ⟨by decide +kernel, rfl⟩
theorem zd_4_8_7 : zz_D zy_takes_4_8 7 (.aload_n 0) 1 8 := ⟨by decide +kernel, rfl⟩
theorem zd_4_8_8 : zz_D zy_takes_4_8 8 (.getfield 17) 3 11 := ⟨by decide +kernel, rfl⟩
theorem zd_4_8_11 : zz_D zy_takes_4_8 11 (.iload_n 1) 1 12 := ⟨by decide +kernel, rfl⟩
theorem zd_4_8_12 : zz_B zy_takes_4_8 12 (Instr.if_icmp .eq) 23 15 := ⟨11, by decide +kernel, rfl, rfl⟩
theorem zd_4_8_23 : zz_D zy_takes_4_8 23 (.iconst 1) 1 24 := ⟨by decide +kernel, rfl⟩
theorem zd_4_8_24 : zz_B zy_takes_4_8 24 Instr.goto 28 27 := ⟨4, by decide +kernel, rfl, rfl⟩
theorem zd_4_8_15 : zz_D zy_takes_4_8 15 (.aload_n 0) 1 16 := ⟨by decide +kernel, rfl⟩
theorem zd_4_8_16 : zz_D zy_takes_4_8 16 (.getfield 20) 3 19 := ⟨by decide +kernel, rfl⟩
theorem zd_4_8_19 : zz_D zy_takes_4_8 19 (.iload_n 1) 1 20 := ⟨by decide +kernel, rfl⟩
theorem zd_4_8_20 : zz_B zy_takes_4_8 20 (Instr.if_icmp .ne) 27 23 := ⟨7, by decide +kernel, rfl, rfl⟩
-- TensorForge$Layer takes (I)Z
abbrev zr_takes_4_8 : Room := { frames := 0, cells := 0, slots := 0, locals := 0 }
def zp_takes_4_8 (t : Int) (p0 : Int) (S0 : zz_S) : Int → zz_S → Prop := fun r S => S0 = S ∧ (0 ≤ r ∧ r ≤ 1)
theorem zc_takes_4_8 {g : mm_G} {l : Launch} (t : Int) (p0 : Int) (S0 : zz_S) (n : Nat) (hn : zz_end ≤ n) (G_S0 : zz_G S0) (ht : 0 ≤ t ∧ t ≤ 23) (hp0 : (-2147483648) ≤ p0 ∧ p0 ≤ 2147483647) : mm_Met g l zy_takes_4_8 zr_takes_4_8 [.ref (zz_rf 6 t), zi p0] (zz_M S0 n) n (zz_QI n (zp_takes_4_8 t p0 S0)) := by
  refine zz_enter (by decide) (Nat.le_of_ble_eq_true rfl) (zz_less (ls1 := [some (.ref (zz_rf 6 t)), some (zi p0)]) ⟨rfl, ⟨rfl, trivial⟩⟩ ?_)
  have b_t := zz_rf6 (z := t) (by omega)
  refine zz_aload_n (x := zz_rf 6 t) rfl zd_4_8_0 ?_
  have g1 := zz_G.r G_S0 (zz_rf 6 t) 0 (-2147483648) 2147483647 (zR_k6_0 (by omega)) (zB_k6 (by omega))
  refine zz_geti (z := S0 (zz_rf 6 t) 0) zd_4_8_1 zf_Layer_13 (zT_k6 (by omega)) rfl (zN_k6 hn (by omega)) rfl ?_
  refine zz_if_eq (by omega) zd_4_8_4 (fun c2 => ?_) (fun c2 => ?_)
  · refine zz_iconst zd_4_8_27 ?_
    exact zz_zret zd_4_8_28 rfl (by omega) (Nat.zero_le _) (Nat.zero_le _) ⟨_, _, rfl, rfl, by omega⟩
  · refine zz_aload_n (x := zz_rf 6 t) rfl zd_4_8_7 ?_
    have g3 := zz_G.r G_S0 (zz_rf 6 t) 1 (-2147483648) 2147483647 (zR_k6_1 (by omega)) (zB_k6 (by omega))
    refine zz_geti (z := S0 (zz_rf 6 t) 1) zd_4_8_8 zf_Layer_17 (zT_k6 (by omega)) rfl (zN_k6 hn (by omega)) rfl ?_
    refine zz_iload_n (x := p0) rfl zd_4_8_11 ?_
    refine zz_icmp_eq (by omega) (by omega) zd_4_8_12 (fun c4 => ?_) (fun c4 => ?_)
    · refine zz_iconst zd_4_8_23 ?_
      refine zz_goto zd_4_8_24 ?_
      exact zz_zret zd_4_8_28 rfl (by omega) (Nat.zero_le _) (Nat.zero_le _) ⟨_, _, rfl, rfl, by omega⟩
    · refine zz_aload_n (x := zz_rf 6 t) rfl zd_4_8_15 ?_
      have g5 := zz_G.r G_S0 (zz_rf 6 t) 2 (-2147483648) 2147483647 (zR_k6_2 (by omega)) (zB_k6 (by omega))
      refine zz_geti (z := S0 (zz_rf 6 t) 2) zd_4_8_16 zf_Layer_20 (zT_k6 (by omega)) rfl (zN_k6 hn (by omega)) rfl ?_
      refine zz_iload_n (x := p0) rfl zd_4_8_19 ?_
      refine zz_icmp_ne (by omega) (by omega) zd_4_8_20 (fun c6 => ?_) (fun c6 => ?_)
      · refine zz_iconst zd_4_8_27 ?_
        exact zz_zret zd_4_8_28 rfl (by omega) (Nat.zero_le _) (Nat.zero_le _) ⟨_, _, rfl, rfl, by omega⟩
      · refine zz_iconst zd_4_8_23 ?_
        refine zz_goto zd_4_8_24 ?_
        exact zz_zret zd_4_8_28 rfl (by omega) (Nat.zero_le _) (Nat.zero_le _) ⟨_, _, rfl, rfl, by omega⟩
theorem zk_Network_87 : mm_Vl "TensorForge$Network" 87 2 1 zy_takes_4_8 := ⟨zyw_takes_4_8, (R_Layer, F_Layer, 15), rfl, mm_tb_1 1524 (by decide +kernel) rfl, mm_tb_1 1525 (by decide +kernel) rfl, mm_tb_1 1526 (by decide +kernel) rfl⟩
theorem zd_7_13_25 : zz_B zy_isNeeded_7_13 25 (Instr.ifCond .eq) 38 28 := ⟨13, by decide +kernel, rfl, rfl⟩
theorem zd_7_13_38 : zz_D zy_isNeeded_7_13 38 (.iinc 4 1) 3 41 := ⟨by decide +kernel, rfl⟩
theorem zd_7_13_41 : zz_B zy_isNeeded_7_13 41 Instr.goto 5 44 := ⟨(-36), by decide +kernel, rfl, rfl⟩
theorem zd_7_13_28 : zz_D zy_isNeeded_7_13 28 (.iconst 1) 1 29 := ⟨by decide +kernel, rfl⟩
theorem zd_7_13_29 : zz_D zy_isNeeded_7_13 29 (.istore_n 3) 1 30 := ⟨by decide +kernel, rfl⟩
theorem zd_7_13_30 : zz_D zy_isNeeded_7_13 30 (.iload 4) 2 32 := ⟨by decide +kernel, rfl⟩
theorem zd_7_13_32 : zz_D zy_isNeeded_7_13 32 (.iload_n 2) 1 33 := ⟨by decide +kernel, rfl⟩
theorem zd_7_13_33 : zz_B zy_isNeeded_7_13 33 (Instr.if_icmp .lt) 38 36 := ⟨5, by decide +kernel, rfl, rfl⟩
theorem zd_7_13_36 : zz_D zy_isNeeded_7_13 36 (.iconst 1) 1 37 := ⟨by decide +kernel, rfl⟩
theorem zd_7_13_37 : zz_D zy_isNeeded_7_13 37 (.ireturn) 1 38 := ⟨by decide +kernel, rfl⟩
theorem zd_7_13_52 : zz_D zy_isNeeded_7_13 52 (.iconst 0) 1 53 := ⟨by decide +kernel, rfl⟩
-- TensorForge$Network isNeeded (II)Z
abbrev zr_isNeeded_7_13 : Room := { frames := 1, cells := 0, slots := 0, locals := 13 }
def zp_isNeeded_7_13 (t : Int) (p0 : Int) (p1 : Int) (S0 : zz_S) : Int → zz_S → Prop := fun r S => S0 = S ∧ (0 ≤ r ∧ r ≤ 1)
theorem zb_isNeeded_7_13_5 {g : mm_G} {l : Launch} (t : Int) (p0 : Int) (p1 : Int) (S0 : zz_S) (n : Nat) (hn : zz_end ≤ n) (G_S0 : zz_G S0) (ht : 0 ≤ t ∧ t ≤ 1) (hp0 : (-2147483648) ≤ p0 ∧ p0 ≤ 2147483647) (hp1 : (-2147483648) ≤ p1 ∧ p1 ≤ 2147483647) (x3 : Int) (x4 : Int) (S : zz_S) (G_S : zz_G S) (F_S : zz_fr [] [] (fun _ _ => False) S0 S) (i5_0 : 0 ≤ x3 ∧ x3 ≤ 1) (i5_1 : 1 ≤ x4 ∧ x4 ≤ 11) (R : Nat) (hR : (S (zz_rf 3 t) 1 - x4).toNat = R) (k5 : ∀ (x3 : Int) (x4 : Int) (S : zz_S), zz_G S → zz_fr [] [] (fun _ _ => False) S0 S → (0 ≤ x3 ∧ x3 ≤ 1) → (1 ≤ x4 ∧ x4 ≤ 11) → (S (zz_rf 3 t) 1 - x4).toNat < R → zz_E g l zy_isNeeded_7_13 zr_isNeeded_7_13 (zz_QI n (zp_isNeeded_7_13 t p0 p1 S0)) S n 5 [some (.ref (zz_rf 3 t)), some (zi p0), some (zi p1), some (zi x3), some (zi x4)] [] 0 0) : zz_E g l zy_isNeeded_7_13 zr_isNeeded_7_13 (zz_QI n (zp_isNeeded_7_13 t p0 p1 S0)) S n 5 [some (.ref (zz_rf 3 t)), some (zi p0), some (zi p1), some (zi x3), some (zi x4)] [] 0 0 := by
  have b_t := zz_rf3 (z := t) (by omega)
  refine zz_iload (x := x4) rfl zd_7_13_5 ?_
  refine zz_aload_n (x := zz_rf 3 t) rfl zd_7_13_7 ?_
  have g1 := zz_G.r G_S0 (zz_rf 3 t) 1 1 11 (zR_k3_1 (by omega)) (zB_k3 (by omega))
  refine zz_geti (z := S0 (zz_rf 3 t) 1) zd_7_13_8 zf_Network_16 (zT_k3 (by omega)) rfl (zN_k3 hn (by omega)) (zz_rc F_S (zP_k3 (by omega) rfl) (zQ_k3 (by omega) rfl) (fun h => h) rfl) ?_
  refine zz_icmp_ge (by omega) (by omega) zd_7_13_11 (fun c2 => ?_) (fun c2 => ?_)
  · refine zz_iload_n (x := x3) rfl zd_7_13_44 ?_
    refine zz_if_ne (by omega) zd_7_13_45 (fun c3 => ?_) (fun c3 => ?_)
    · refine zz_iconst zd_7_13_52 ?_
      exact zz_zret zd_7_13_53 rfl (by omega) (Nat.zero_le _) (Nat.zero_le _) ⟨_, _, rfl, zz_fr.eq F_S, by omega⟩
    · refine zz_iconst zd_7_13_48 ?_
      refine zz_goto zd_7_13_49 ?_
      exact zz_zret zd_7_13_53 rfl (by omega) (Nat.zero_le _) (Nat.zero_le _) ⟨_, _, rfl, zz_fr.eq F_S, by omega⟩
  · refine zz_aload_n (x := zz_rf 3 t) rfl zd_7_13_14 ?_
    refine zz_getr (kd := 0) (z := ((zz_rf 3 t + 1 : Nat) : Int)) zd_7_13_15 zf_Network_11 (zT_k3 (by omega)) rfl (zN_k3 hn (by omega)) (zE_k3a G_S (by omega)) (Int.natCast_nonneg _) (zz_rf 3 t + 1) (Int.toNat_natCast _) ?_
    refine zz_iload (x := x4) rfl zd_7_13_18 ?_
    refine zz_aald (kd := 4) (z := 12 * t + x4) zd_7_13_20 (zT_k3a (by omega)) rfl (zN_k3a hn (by omega)) (by decide) (by omega) (zE_lay G_S (by omega) (by omega)) (by omega) (zz_rf 6 (12 * t + x4)) rfl ?_
    refine zz_iload_n (x := p0) rfl zd_7_13_21 ?_
    refine zz_callVI [zi p0] zd_7_13_22 zk_Network_87 (zT_k6 (by omega)) (zN_k6 hn (by omega)) rfl rfl ⟨Nat.le_of_ble_eq_true rfl, Nat.le_of_ble_eq_true rfl⟩ ⟨rfl, rfl⟩ (Nat.zero_le _) (Nat.zero_le _) (zc_takes_4_8 (12 * t + x4) p0 S n hn G_S (by omega) (by omega)) (fun v5 S4 hP => ?_)
    obtain ⟨rfl, o6⟩ := hP
    rcases (by omega : v5 = 0 ∨ v5 = 1) with rfl | rfl
    · refine zz_if_eq (by omega) zd_7_13_25 (fun c7 => ?_) (fun c7 => ?_)
      · refine zz_iinc [some (.ref (zz_rf 3 t)), some (zi p0), some (zi p1), some (zi x3), some (zi (x4 + 1))] zd_7_13_38 rfl rfl ?_
        refine zz_goto zd_7_13_41 ?_
        have e8 : S (zz_rf 3 t) 1 = S0 (zz_rf 3 t) 1 := (zz_rc F_S (zP_k3 (by omega) rfl) (zQ_k3 (by omega) rfl) (fun h => h) rfl)
        refine zz_less (ls1 := [some (.ref (zz_rf 3 t)), some (zi p0), some (zi p1), some (zi x3), some (zi (x4 + 1))]) ⟨rfl, ⟨rfl, ⟨rfl, ⟨rfl, ⟨rfl, trivial⟩⟩⟩⟩⟩ ?_
        exact k5 x3 (x4 + 1) S G_S F_S (by omega) (by omega) (by omega)
      · exfalso; omega
    · refine zz_if_eq (by omega) zd_7_13_25 (fun c9 => ?_) (fun c9 => ?_)
      · exfalso; omega
      · refine zz_iconst zd_7_13_28 ?_
        refine zz_istore_n [some (.ref (zz_rf 3 t)), some (zi p0), some (zi p1), some (zi 1), some (zi x4)] zd_7_13_29 (by decide) rfl ?_
        refine zz_iload (x := x4) rfl zd_7_13_30 ?_
        refine zz_iload_n (x := p1) rfl zd_7_13_32 ?_
        refine zz_icmp_lt (by omega) (by omega) zd_7_13_33 (fun c10 => ?_) (fun c10 => ?_)
        · refine zz_iinc [some (.ref (zz_rf 3 t)), some (zi p0), some (zi p1), some (zi 1), some (zi (x4 + 1))] zd_7_13_38 rfl rfl ?_
          refine zz_goto zd_7_13_41 ?_
          have e11 : S (zz_rf 3 t) 1 = S0 (zz_rf 3 t) 1 := (zz_rc F_S (zP_k3 (by omega) rfl) (zQ_k3 (by omega) rfl) (fun h => h) rfl)
          refine zz_less (ls1 := [some (.ref (zz_rf 3 t)), some (zi p0), some (zi p1), some (zi 1), some (zi (x4 + 1))]) ⟨rfl, ⟨rfl, ⟨rfl, ⟨rfl, ⟨rfl, trivial⟩⟩⟩⟩⟩ ?_
          exact k5 1 (x4 + 1) S G_S F_S (by omega) (by omega) (by omega)
        · refine zz_iconst zd_7_13_36 ?_
          exact zz_zret zd_7_13_37 rfl (by omega) (Nat.zero_le _) (Nat.zero_le _) ⟨_, _, rfl, zz_fr.eq F_S, by omega⟩
theorem zi_isNeeded_7_13 {g : mm_G} {l : Launch} (t : Int) (p0 : Int) (p1 : Int) (S0 : zz_S) (n : Nat) (hn : zz_end ≤ n) (G_S0 : zz_G S0) (ht : 0 ≤ t ∧ t ≤ 1) (hp0 : (-2147483648) ≤ p0 ∧ p0 ≤ 2147483647) (hp1 : (-2147483648) ≤ p1 ∧ p1 ≤ 2147483647) : ∀ N : Nat, (∀ (x3 : Int) (x4 : Int) (S : zz_S), zz_G S → zz_fr [] [] (fun _ _ => False) S0 S → (0 ≤ x3 ∧ x3 ≤ 1) → (1 ≤ x4 ∧ x4 ≤ 11) → (S (zz_rf 3 t) 1 - x4).toNat < N → zz_E g l zy_isNeeded_7_13 zr_isNeeded_7_13 (zz_QI n (zp_isNeeded_7_13 t p0 p1 S0)) S n 5 [some (.ref (zz_rf 3 t)), some (zi p0), some (zi p1), some (zi x3), some (zi x4)] [] 0 0) := by
  intro N
  induction N with
  | zero => exact fun x3 x4 S _ _ _ _ h => absurd h (Nat.not_lt_zero _)
  | succ N ih =>
    exact fun x3 x4 S a b j0 j1 hR => zb_isNeeded_7_13_5 t p0 p1 S0 n hn G_S0 ht hp0 hp1 x3 x4 S a b j0 j1 _ rfl (fun x3 x4 S a b j0 j1 h => ih x3 x4 S a b j0 j1 (Nat.lt_of_lt_of_le h (Nat.le_of_lt_succ hR)))
theorem zc_isNeeded_7_13 {g : mm_G} {l : Launch} (t : Int) (p0 : Int) (p1 : Int) (S0 : zz_S) (n : Nat) (hn : zz_end ≤ n) (G_S0 : zz_G S0) (ht : 0 ≤ t ∧ t ≤ 1) (hp0 : (-2147483648) ≤ p0 ∧ p0 ≤ 2147483647) (hp1 : (-2147483648) ≤ p1 ∧ p1 ≤ 2147483647) : mm_Met g l zy_isNeeded_7_13 zr_isNeeded_7_13 [.ref (zz_rf 3 t), zi p0, zi p1] (zz_M S0 n) n (zz_QI n (zp_isNeeded_7_13 t p0 p1 S0)) := by
  refine zz_enter (by decide) (Nat.le_of_ble_eq_true rfl) (zz_less (ls1 := [some (.ref (zz_rf 3 t)), some (zi p0), some (zi p1)]) ⟨rfl, ⟨rfl, ⟨rfl, trivial⟩⟩⟩ ?_)
  have F_S0 : zz_fr [] [] (fun _ _ => False) S0 S0 := zz_fr.refl
  have k5 : ∀ (x3 : Int) (x4 : Int) (S : zz_S), zz_G S → zz_fr [] [] (fun _ _ => False) S0 S → (0 ≤ x3 ∧ x3 ≤ 1) → (1 ≤ x4 ∧ x4 ≤ 11) → zz_E g l zy_isNeeded_7_13 zr_isNeeded_7_13 (zz_QI n (zp_isNeeded_7_13 t p0 p1 S0)) S n 5 [some (.ref (zz_rf 3 t)), some (zi p0), some (zi p1), some (zi x3), some (zi x4)] [] 0 0 := fun x3 x4 S a b j0 j1 => (zi_isNeeded_7_13 (g := g) (l := l) t p0 p1 S0 n hn G_S0 ht hp0 hp1 _) x3 x4 S a b j0 j1 (Nat.lt_succ_self _)
  have b_t := zz_rf3 (z := t) (by omega)
  refine zz_iconst zd_7_13_0 ?_
  refine zz_istore_n [some (.ref (zz_rf 3 t)), some (zi p0), some (zi p1), some (zi 0)] zd_7_13_1 (by decide) rfl ?_
  refine zz_iconst zd_7_13_2 ?_
  refine zz_istore [some (.ref (zz_rf 3 t)), some (zi p0), some (zi p1), some (zi 0), some (zi 1)] zd_7_13_3 (by decide) rfl ?_
  refine zz_less (ls1 := [some (.ref (zz_rf 3 t)), some (zi p0), some (zi p1), some (zi 0), some (zi 1)]) ⟨rfl, ⟨rfl, ⟨rfl, ⟨rfl, ⟨rfl, trivial⟩⟩⟩⟩⟩ ?_
  exact k5 0 1 S0 G_S0 F_S0 (by omega) (by omega)
theorem zk_Network_83 : mm_Vl "TensorForge$Network" 83 1 2 zy_isNeeded_7_13 := ⟨zyw_isNeeded_7_13, (R_Network, F_Network, 2), rfl, mm_tb_1 1520 (by decide +kernel) rfl, mm_tb_1 1522 (by decide +kernel) rfl, mm_tb_s 78 (by decide +kernel) rfl⟩
theorem zd_7_12_82 : zz_B zy_leastSpot_7_12 82 (Instr.ifCond .eq) 88 85 := ⟨6, by decide +kernel, rfl, rfl⟩
theorem zd_7_12_85 : zz_D zy_leastSpot_7_12 85 (.iload 6) 2 87 := ⟨by decide +kernel, rfl⟩
theorem zd_7_12_87 : zz_D zy_leastSpot_7_12 87 (.istore_n 2) 1 88 := ⟨by decide +kernel, rfl⟩
theorem zd_7_12_94 : zz_D zy_leastSpot_7_12 94 (.iinc 4 1) 3 97 := ⟨by decide +kernel, rfl⟩
theorem zd_7_12_97 : zz_B zy_leastSpot_7_12 97 Instr.goto 15 100 := ⟨(-82), by decide +kernel, rfl, rfl⟩
-- TensorForge$Network leastSpot (I)I
abbrev zr_leastSpot_7_12 : Room := { frames := 2, cells := 0, slots := 0, locals := 29 }
def zp_leastSpot_7_12 (t : Int) (p0 : Int) (S0 : zz_S) : Int → zz_S → Prop := fun r S => S0 = S ∧ ((-2147483648) ≤ r ∧ r ≤ 2147483647)
theorem zb_leastSpot_7_12_15 {g : mm_G} {l : Launch} (t : Int) (p0 : Int) (S0 : zz_S) (n : Nat) (hn : zz_end ≤ n) (G_S0 : zz_G S0) (ht : 0 ≤ t ∧ t ≤ 1) (hp0 : 0 ≤ p0 ∧ p0 ≤ 11) (x2 : Int) (x3 : Int) (x4 : Int) (S : zz_S) (G_S : zz_G S) (F_S : zz_fr [] [] (fun _ _ => False) S0 S) (i15_0 : 0 ≤ x2 ∧ x2 ≤ 2147483647) (i15_1 : (-2147483648) ≤ x3 ∧ x3 ≤ 2147483647) (i15_2 : 0 ≤ x4 ∧ x4 ≤ 13) (R : Nat) (hR : (34359738368 + (p0 - x4).toNat) * 1099511627776 + 1099511627775 = R) (k24 : ∀ (x2 : Int) (x3 : Int) (x4 : Int) (x5 : Int) (S : zz_S), zz_G S → zz_fr [] [] (fun _ _ => False) S0 S → (0 ≤ x2 ∧ x2 ≤ 2147483647) → ((-2147483648) ≤ x3 ∧ x3 ≤ 2147483647) → (0 ≤ x4 ∧ x4 ≤ 12) → (0 ≤ x5 ∧ x5 ≤ 11) → (0 ≤ x4 ∧ x4 ≤ 13) → (x4 < p0) → (1 ≤ p0 ∧ p0 ≤ 11) → (34359738368 + (p0 - x4).toNat) * 1099511627776 + (17179869184 + (p0 - x5).toNat) < R → zz_E g l zy_leastSpot_7_12 zr_leastSpot_7_12 (zz_QI n (zp_leastSpot_7_12 t p0 S0)) S n 24 [some (.ref (zz_rf 3 t)), some (zi p0), some (zi x2), some (zi x3), some (zi x4), some (zi x5)] [] 0 0) : zz_E g l zy_leastSpot_7_12 zr_leastSpot_7_12 (zz_QI n (zp_leastSpot_7_12 t p0 S0)) S n 15 [some (.ref (zz_rf 3 t)), some (zi p0), some (zi x2), some (zi x3), some (zi x4)] [] 0 0 := by
  have b_t := zz_rf3 (z := t) (by omega)
  refine zz_iload (x := x4) rfl zd_7_12_15 ?_
  refine zz_iload_n (x := p0) rfl zd_7_12_17 ?_
  refine zz_icmp_ge (by omega) (by omega) zd_7_12_18 (fun c4 => ?_) (fun c4 => ?_)
  · refine zz_iload_n (x := x2) rfl zd_7_12_100 ?_
    exact zz_iret zd_7_12_101 rfl (Nat.zero_le _) (Nat.zero_le _) ⟨_, _, rfl, zz_fr.eq F_S, by omega⟩
  · refine zz_iconst zd_7_12_21 ?_
    refine zz_istore [some (.ref (zz_rf 3 t)), some (zi p0), some (zi x2), some (zi x3), some (zi x4), some (zi 0)] zd_7_12_22 (by decide) rfl ?_
    refine zz_less (ls1 := [some (.ref (zz_rf 3 t)), some (zi p0), some (zi x2), some (zi x3), some (zi x4), some (zi 0)]) ⟨rfl, ⟨rfl, ⟨rfl, ⟨rfl, ⟨rfl, ⟨rfl, trivial⟩⟩⟩⟩⟩⟩ ?_
    exact k24 x2 x3 x4 0 S G_S F_S (by omega) (by omega) (by omega) (by omega) (by omega) (by omega) (by omega) (by omega)
theorem zb_leastSpot_7_12_24 {g : mm_G} {l : Launch} (t : Int) (p0 : Int) (S0 : zz_S) (n : Nat) (hn : zz_end ≤ n) (G_S0 : zz_G S0) (ht : 0 ≤ t ∧ t ≤ 1) (hp0 : 0 ≤ p0 ∧ p0 ≤ 11) (x2 : Int) (x3 : Int) (x4 : Int) (x5 : Int) (S : zz_S) (G_S : zz_G S) (F_S : zz_fr [] [] (fun _ _ => False) S0 S) (i24_0 : 0 ≤ x2 ∧ x2 ≤ 2147483647) (i24_1 : (-2147483648) ≤ x3 ∧ x3 ≤ 2147483647) (i24_2 : 0 ≤ x4 ∧ x4 ≤ 12) (i24_3 : 0 ≤ x5 ∧ x5 ≤ 11) (i24_4 : 0 ≤ x4 ∧ x4 ≤ 13) (i24_5 : x4 < p0) (i24_6 : 1 ≤ p0 ∧ p0 ≤ 11) (R : Nat) (hR : (34359738368 + (p0 - x4).toNat) * 1099511627776 + (17179869184 + (p0 - x5).toNat) = R) (k15 : ∀ (x2 : Int) (x3 : Int) (x4 : Int) (S : zz_S), zz_G S → zz_fr [] [] (fun _ _ => False) S0 S → (0 ≤ x2 ∧ x2 ≤ 2147483647) → ((-2147483648) ≤ x3 ∧ x3 ≤ 2147483647) → (0 ≤ x4 ∧ x4 ≤ 13) → (34359738368 + (p0 - x4).toNat) * 1099511627776 + 1099511627775 < R → zz_E g l zy_leastSpot_7_12 zr_leastSpot_7_12 (zz_QI n (zp_leastSpot_7_12 t p0 S0)) S n 15 [some (.ref (zz_rf 3 t)), some (zi p0), some (zi x2), some (zi x3), some (zi x4)] [] 0 0) (k24 : ∀ (x2 : Int) (x3 : Int) (x4 : Int) (x5 : Int) (S : zz_S), zz_G S → zz_fr [] [] (fun _ _ => False) S0 S → (0 ≤ x2 ∧ x2 ≤ 2147483647) → ((-2147483648) ≤ x3 ∧ x3 ≤ 2147483647) → (0 ≤ x4 ∧ x4 ≤ 12) → (0 ≤ x5 ∧ x5 ≤ 11) → (0 ≤ x4 ∧ x4 ≤ 13) → (x4 < p0) → (1 ≤ p0 ∧ p0 ≤ 11) → (34359738368 + (p0 - x4).toNat) * 1099511627776 + (17179869184 + (p0 - x5).toNat) < R → zz_E g l zy_leastSpot_7_12 zr_leastSpot_7_12 (zz_QI n (zp_leastSpot_7_12 t p0 S0)) S n 24 [some (.ref (zz_rf 3 t)), some (zi p0), some (zi x2), some (zi x3), some (zi x4), some (zi x5)] [] 0 0) : zz_E g l zy_leastSpot_7_12 zr_leastSpot_7_12 (zz_QI n (zp_leastSpot_7_12 t p0 S0)) S n 24 [some (.ref (zz_rf 3 t)), some (zi p0), some (zi x2), some (zi x3), some (zi x4), some (zi x5)] [] 0 0 := by
  have b_t := zz_rf3 (z := t) (by omega)
  refine zz_iload (x := x5) rfl zd_7_12_24 ?_
  refine zz_iload_n (x := p0) rfl zd_7_12_26 ?_
  refine zz_icmp_ge (by omega) (by omega) zd_7_12_27 (fun c5 => ?_) (fun c5 => ?_)
  · refine zz_iinc [some (.ref (zz_rf 3 t)), some (zi p0), some (zi x2), some (zi x3), some (zi (x4 + 1)), some (zi x5)] zd_7_12_94 rfl rfl ?_
    refine zz_goto zd_7_12_97 ?_
    refine zz_less (ls1 := [some (.ref (zz_rf 3 t)), some (zi p0), some (zi x2), some (zi x3), some (zi (x4 + 1))]) ⟨rfl, ⟨rfl, ⟨rfl, ⟨rfl, ⟨rfl, trivial⟩⟩⟩⟩⟩ ?_
    exact k15 x2 x3 (x4 + 1) S G_S F_S (by omega) (by omega) (by omega) (by omega)
  · refine zz_aload_n (x := zz_rf 3 t) rfl zd_7_12_30 ?_
    refine zz_getr (kd := 0) (z := ((zz_rf 3 t + 1 : Nat) : Int)) zd_7_12_31 zf_Network_11 (zT_k3 (by omega)) rfl (zN_k3 hn (by omega)) (zE_k3a G_S (by omega)) (Int.natCast_nonneg _) (zz_rf 3 t + 1) (Int.toNat_natCast _) ?_
    refine zz_iload (x := x5) rfl zd_7_12_34 ?_
    refine zz_aald (kd := 4) (z := 12 * t + x5) zd_7_12_36 (zT_k3a (by omega)) rfl (zN_k3a hn (by omega)) (by decide) (by omega) (zE_lay G_S (by omega) (by omega)) (by omega) (zz_rf 6 (12 * t + x5)) rfl ?_
    have g6 := zz_G.r G_S0 (zz_rf 6 (12 * t + x5)) 14 (-2147483648) 2147483647 (zR_k6_14 (by omega)) (zB_k6 (by omega))
    refine zz_geti (z := S0 (zz_rf 6 (12 * t + x5)) 14) zd_7_12_37 zf_Network_76 (zT_k6 (by omega)) rfl (zN_k6 hn (by omega)) (zz_rc F_S (zP_k6 (by omega) rfl) (zQ_k6 (by omega) rfl) (fun h => h) rfl) ?_
    refine zz_aload_n (x := zz_rf 3 t) rfl zd_7_12_40 ?_
    refine zz_getr (kd := 0) (z := ((zz_rf 3 t + 1 : Nat) : Int)) zd_7_12_41 zf_Network_11 (zT_k3 (by omega)) rfl (zN_k3 hn (by omega)) (zE_k3a G_S (by omega)) (Int.natCast_nonneg _) (zz_rf 3 t + 1) (Int.toNat_natCast _) ?_
    refine zz_iload (x := x5) rfl zd_7_12_44 ?_
    refine zz_aald (kd := 4) (z := 12 * t + x5) zd_7_12_46 (zT_k3a (by omega)) rfl (zN_k3a hn (by omega)) (by decide) (by omega) (zE_lay G_S (by omega) (by omega)) (by omega) (zz_rf 6 (12 * t + x5)) rfl ?_
    refine zz_callVI [] zd_7_12_47 zk_Network_60 (zT_k6 (by omega)) (zN_k6 hn (by omega)) rfl rfl ⟨Nat.le_of_ble_eq_true rfl, Nat.le_of_ble_eq_true rfl⟩ ⟨rfl, rfl⟩ (Nat.zero_le _) (Nat.zero_le _) (zc_size_4_7 (12 * t + x5) S n hn G_S (by omega)) (fun v8 S7 hP => ?_)
    obtain ⟨rfl, o9⟩ := hP
    refine zz_iadd zd_7_12_50 ?_
    refine zz_nrm (fun v10 hv10 ev10 => ?_)
    refine zz_istore [some (.ref (zz_rf 3 t)), some (zi p0), some (zi x2), some (zi x3), some (zi x4), some (zi x5), some (zi v10)] zd_7_12_51 (by decide) rfl ?_
    refine zz_iload_n (x := x2) rfl zd_7_12_53 ?_
    refine zz_iload (x := v10) rfl zd_7_12_54 ?_
    refine zz_icmp_ge (by omega) (by omega) zd_7_12_56 (fun c11 => ?_) (fun c11 => ?_)
    · refine zz_iinc [some (.ref (zz_rf 3 t)), some (zi p0), some (zi x2), some (zi x3), some (zi x4), some (zi (x5 + 1)), some (zi v10)] zd_7_12_88 rfl rfl ?_
      refine zz_goto zd_7_12_91 ?_
      refine zz_less (ls1 := [some (.ref (zz_rf 3 t)), some (zi p0), some (zi x2), some (zi x3), some (zi x4), some (zi (x5 + 1))]) ⟨rfl, ⟨rfl, ⟨rfl, ⟨rfl, ⟨rfl, ⟨rfl, trivial⟩⟩⟩⟩⟩⟩ ?_
      exact k24 x2 x3 x4 (x5 + 1) S G_S F_S (by omega) (by omega) (by omega) (by omega) (by omega) (by omega) (by omega) (by omega)
    · refine zz_aload_n (x := zz_rf 3 t) rfl zd_7_12_59 ?_
      refine zz_getr (kd := 0) (z := ((zz_rf 3 t + 1 : Nat) : Int)) zd_7_12_60 zf_Network_11 (zT_k3 (by omega)) rfl (zN_k3 hn (by omega)) (zE_k3a G_S (by omega)) (Int.natCast_nonneg _) (zz_rf 3 t + 1) (Int.toNat_natCast _) ?_
      refine zz_iload (x := x5) rfl zd_7_12_63 ?_
      refine zz_aald (kd := 4) (z := 12 * t + x5) zd_7_12_65 (zT_k3a (by omega)) rfl (zN_k3a hn (by omega)) (by decide) (by omega) (zE_lay G_S (by omega) (by omega)) (by omega) (zz_rf 6 (12 * t + x5)) rfl ?_
      refine zz_geti (z := S0 (zz_rf 6 (12 * t + x5)) 14) zd_7_12_66 zf_Network_76 (zT_k6 (by omega)) rfl (zN_k6 hn (by omega)) (zz_rc F_S (zP_k6 (by omega) rfl) (zQ_k6 (by omega) rfl) (fun h => h) rfl) ?_
      refine zz_iload_n (x := x2) rfl zd_7_12_69 ?_
      refine zz_iload_n (x := x3) rfl zd_7_12_70 ?_
      refine zz_iadd zd_7_12_71 ?_
      refine zz_nrm (fun v12 hv12 ev12 => ?_)
      refine zz_icmp_ge (by omega) (by omega) zd_7_12_72 (fun c13 => ?_) (fun c13 => ?_)
      · refine zz_iinc [some (.ref (zz_rf 3 t)), some (zi p0), some (zi x2), some (zi x3), some (zi x4), some (zi (x5 + 1)), some (zi v10)] zd_7_12_88 rfl rfl ?_
        refine zz_goto zd_7_12_91 ?_
        refine zz_less (ls1 := [some (.ref (zz_rf 3 t)), some (zi p0), some (zi x2), some (zi x3), some (zi x4), some (zi (x5 + 1))]) ⟨rfl, ⟨rfl, ⟨rfl, ⟨rfl, ⟨rfl, ⟨rfl, trivial⟩⟩⟩⟩⟩⟩ ?_
        exact k24 x2 x3 x4 (x5 + 1) S G_S F_S (by omega) (by omega) (by omega) (by omega) (by omega) (by omega) (by omega) (by omega)
      · refine zz_aload_n (x := zz_rf 3 t) rfl zd_7_12_75 ?_
        refine zz_iload (x := x5) rfl zd_7_12_76 ?_
        refine zz_iload_n (x := p0) rfl zd_7_12_78 ?_
        refine zz_callVI [zi x5, zi p0] zd_7_12_79 zk_Network_83 (zT_k3 (by omega)) (zN_k3 hn (by omega)) rfl rfl ⟨Nat.le_of_ble_eq_true rfl, Nat.le_of_ble_eq_true rfl⟩ ⟨rfl, rfl⟩ (Nat.zero_le _) (Nat.zero_le _) (zc_isNeeded_7_13 t x5 p0 S n hn G_S (by omega) (by omega) (by omega)) (fun v15 S14 hP => ?_)
        obtain ⟨rfl, o16⟩ := hP
        rcases (by omega : v15 = 0 ∨ v15 = 1) with rfl | rfl
        · refine zz_if_eq (by omega) zd_7_12_82 (fun c17 => ?_) (fun c17 => ?_)
          · refine zz_iinc [some (.ref (zz_rf 3 t)), some (zi p0), some (zi x2), some (zi x3), some (zi x4), some (zi (x5 + 1)), some (zi v10)] zd_7_12_88 rfl rfl ?_
            refine zz_goto zd_7_12_91 ?_
            refine zz_less (ls1 := [some (.ref (zz_rf 3 t)), some (zi p0), some (zi x2), some (zi x3), some (zi x4), some (zi (x5 + 1))]) ⟨rfl, ⟨rfl, ⟨rfl, ⟨rfl, ⟨rfl, ⟨rfl, trivial⟩⟩⟩⟩⟩⟩ ?_
            exact k24 x2 x3 x4 (x5 + 1) S G_S F_S (by omega) (by omega) (by omega) (by omega) (by omega) (by omega) (by omega) (by omega)
          · exfalso; omega
        · refine zz_if_eq (by omega) zd_7_12_82 (fun c18 => ?_) (fun c18 => ?_)
          · exfalso; omega
          · refine zz_iload (x := v10) rfl zd_7_12_85 ?_
            refine zz_istore_n [some (.ref (zz_rf 3 t)), some (zi p0), some (zi v10), some (zi x3), some (zi x4), some (zi x5), some (zi v10)] zd_7_12_87 (by decide) rfl ?_
            refine zz_iinc [some (.ref (zz_rf 3 t)), some (zi p0), some (zi v10), some (zi x3), some (zi x4), some (zi (x5 + 1)), some (zi v10)] zd_7_12_88 rfl rfl ?_
            refine zz_goto zd_7_12_91 ?_
            refine zz_less (ls1 := [some (.ref (zz_rf 3 t)), some (zi p0), some (zi v10), some (zi x3), some (zi x4), some (zi (x5 + 1))]) ⟨rfl, ⟨rfl, ⟨rfl, ⟨rfl, ⟨rfl, ⟨rfl, trivial⟩⟩⟩⟩⟩⟩ ?_
            exact k24 v10 x3 x4 (x5 + 1) S G_S F_S (by omega) (by omega) (by omega) (by omega) (by omega) (by omega) (by omega) (by omega)
theorem zi_leastSpot_7_12 {g : mm_G} {l : Launch} (t : Int) (p0 : Int) (S0 : zz_S) (n : Nat) (hn : zz_end ≤ n) (G_S0 : zz_G S0) (ht : 0 ≤ t ∧ t ≤ 1) (hp0 : 0 ≤ p0 ∧ p0 ≤ 11) : ∀ N : Nat, (∀ (x2 : Int) (x3 : Int) (x4 : Int) (S : zz_S), zz_G S → zz_fr [] [] (fun _ _ => False) S0 S → (0 ≤ x2 ∧ x2 ≤ 2147483647) → ((-2147483648) ≤ x3 ∧ x3 ≤ 2147483647) → (0 ≤ x4 ∧ x4 ≤ 13) → (34359738368 + (p0 - x4).toNat) * 1099511627776 + 1099511627775 < N → zz_E g l zy_leastSpot_7_12 zr_leastSpot_7_12 (zz_QI n (zp_leastSpot_7_12 t p0 S0)) S n 15 [some (.ref (zz_rf 3 t)), some (zi p0), some (zi x2), some (zi x3), some (zi x4)] [] 0 0) ∧ (∀ (x2 : Int) (x3 : Int) (x4 : Int) (x5 : Int) (S : zz_S), zz_G S → zz_fr [] [] (fun _ _ => False) S0 S → (0 ≤ x2 ∧ x2 ≤ 2147483647) → ((-2147483648) ≤ x3 ∧ x3 ≤ 2147483647) → (0 ≤ x4 ∧ x4 ≤ 12) → (0 ≤ x5 ∧ x5 ≤ 11) → (0 ≤ x4 ∧ x4 ≤ 13) → (x4 < p0) → (1 ≤ p0 ∧ p0 ≤ 11) → (34359738368 + (p0 - x4).toNat) * 1099511627776 + (17179869184 + (p0 - x5).toNat) < N → zz_E g l zy_leastSpot_7_12 zr_leastSpot_7_12 (zz_QI n (zp_leastSpot_7_12 t p0 S0)) S n 24 [some (.ref (zz_rf 3 t)), some (zi p0), some (zi x2), some (zi x3), some (zi x4), some (zi x5)] [] 0 0) := by
  intro N
  induction N with
  | zero => exact ⟨fun x2 x3 x4 S _ _ _ _ _ h => absurd h (Nat.not_lt_zero _), fun x2 x3 x4 x5 S _ _ _ _ _ _ _ _ _ h => absurd h (Nat.not_lt_zero _)⟩
  | succ N ih =>
    exact ⟨fun x2 x3 x4 S a b j0 j1 j2 hR => zb_leastSpot_7_12_15 t p0 S0 n hn G_S0 ht hp0 x2 x3 x4 S a b j0 j1 j2 _ rfl (fun x2 x3 x4 x5 S a b j0 j1 j2 j3 j4 j5 j6 h => ih.2 x2 x3 x4 x5 S a b j0 j1 j2 j3 j4 j5 j6 (Nat.lt_of_lt_of_le h (Nat.le_of_lt_succ hR))),
      fun x2 x3 x4 x5 S a b j0 j1 j2 j3 j4 j5 j6 hR => zb_leastSpot_7_12_24 t p0 S0 n hn G_S0 ht hp0 x2 x3 x4 x5 S a b j0 j1 j2 j3 j4 j5 j6 _ rfl (fun x2 x3 x4 S a b j0 j1 j2 h => ih.1 x2 x3 x4 S a b j0 j1 j2 (Nat.lt_of_lt_of_le h (Nat.le_of_lt_succ hR))) (fun x2 x3 x4 x5 S a b j0 j1 j2 j3 j4 j5 j6 h => ih.2 x2 x3 x4 x5 S a b j0 j1 j2 j3 j4 j5 j6 (Nat.lt_of_lt_of_le h (Nat.le_of_lt_succ hR)))⟩
theorem zc_leastSpot_7_12 {g : mm_G} {l : Launch} (t : Int) (p0 : Int) (S0 : zz_S) (n : Nat) (hn : zz_end ≤ n) (G_S0 : zz_G S0) (ht : 0 ≤ t ∧ t ≤ 1) (hp0 : 0 ≤ p0 ∧ p0 ≤ 11) : mm_Met g l zy_leastSpot_7_12 zr_leastSpot_7_12 [.ref (zz_rf 3 t), zi p0] (zz_M S0 n) n (zz_QI n (zp_leastSpot_7_12 t p0 S0)) := by
  refine zz_enter (by decide) (Nat.le_of_ble_eq_true rfl) (zz_less (ls1 := [some (.ref (zz_rf 3 t)), some (zi p0)]) ⟨rfl, ⟨rfl, trivial⟩⟩ ?_)
  have F_S0 : zz_fr [] [] (fun _ _ => False) S0 S0 := zz_fr.refl
  have k15 : ∀ (x2 : Int) (x3 : Int) (x4 : Int) (S : zz_S), zz_G S → zz_fr [] [] (fun _ _ => False) S0 S → (0 ≤ x2 ∧ x2 ≤ 2147483647) → ((-2147483648) ≤ x3 ∧ x3 ≤ 2147483647) → (0 ≤ x4 ∧ x4 ≤ 13) → zz_E g l zy_leastSpot_7_12 zr_leastSpot_7_12 (zz_QI n (zp_leastSpot_7_12 t p0 S0)) S n 15 [some (.ref (zz_rf 3 t)), some (zi p0), some (zi x2), some (zi x3), some (zi x4)] [] 0 0 := fun x2 x3 x4 S a b j0 j1 j2 => (zi_leastSpot_7_12 (g := g) (l := l) t p0 S0 n hn G_S0 ht hp0 _).1 x2 x3 x4 S a b j0 j1 j2 (Nat.lt_succ_self _)
  have b_t := zz_rf3 (z := t) (by omega)
  refine zz_iconst zd_7_12_0 ?_
  refine zz_istore_n [some (.ref (zz_rf 3 t)), some (zi p0), some (zi 0)] zd_7_12_1 (by decide) rfl ?_
  refine zz_aload_n (x := zz_rf 3 t) rfl zd_7_12_2 ?_
  refine zz_getr (kd := 0) (z := ((zz_rf 3 t + 1 : Nat) : Int)) zd_7_12_3 zf_Network_11 (zT_k3 (by omega)) rfl (zN_k3 hn (by omega)) (zE_k3a G_S0 (by omega)) (Int.natCast_nonneg _) (zz_rf 3 t + 1) (Int.toNat_natCast _) ?_
  refine zz_iload_n (x := p0) rfl zd_7_12_6 ?_
  refine zz_aald (kd := 4) (z := 12 * t + p0) zd_7_12_7 (zT_k3a (by omega)) rfl (zN_k3a hn (by omega)) (by decide) (by omega) (zE_lay G_S0 (by omega) (by omega)) (by omega) (zz_rf 6 (12 * t + p0)) rfl ?_
  refine zz_callVI [] zd_7_12_8 zk_Network_60 (zT_k6 (by omega)) (zN_k6 hn (by omega)) rfl rfl ⟨Nat.le_of_ble_eq_true rfl, Nat.le_of_ble_eq_true rfl⟩ ⟨rfl, rfl⟩ (Nat.zero_le _) (Nat.zero_le _) (zc_size_4_7 (12 * t + p0) S0 n hn G_S0 (by omega)) (fun v2 S1 hP => ?_)
  obtain ⟨rfl, o3⟩ := hP
  refine zz_istore_n [some (.ref (zz_rf 3 t)), some (zi p0), some (zi 0), some (zi v2)] zd_7_12_11 (by decide) rfl ?_
  refine zz_iconst zd_7_12_12 ?_
  refine zz_istore [some (.ref (zz_rf 3 t)), some (zi p0), some (zi 0), some (zi v2), some (zi 0)] zd_7_12_13 (by decide) rfl ?_
  refine zz_less (ls1 := [some (.ref (zz_rf 3 t)), some (zi p0), some (zi 0), some (zi v2), some (zi 0)]) ⟨rfl, ⟨rfl, ⟨rfl, ⟨rfl, ⟨rfl, trivial⟩⟩⟩⟩⟩ ?_
  exact k15 0 v2 0 S0 G_S0 F_S0 (by omega) (by omega) (by omega)
theorem zk_Network_79 : mm_Vl "TensorForge$Network" 79 1 1 zy_leastSpot_7_12 := ⟨zyw_leastSpot_7_12, (R_Network, F_Network, 2), rfl, mm_tb_1 1516 (by decide +kernel) rfl, mm_tb_1 1518 (by decide +kernel) rfl, mm_tb_s 77 (by decide +kernel) rfl⟩
theorem zd_7_10_31 : zz_D zy_findSpots_7_10 31 (.putfield 76) 3 34 := ⟨by decide +kernel, rfl⟩
theorem zd_7_10_34 : zz_D zy_findSpots_7_10 34 (.aload_n 0) 1 35 := ⟨by decide +kernel, rfl⟩
theorem zd_7_10_35 : zz_D zy_findSpots_7_10 35 (.getfield 11) 3 38 := ⟨by decide +kernel, rfl⟩
theorem zd_7_10_38 : zz_D zy_findSpots_7_10 38 (.iload_n 1) 1 39 := ⟨by decide +kernel, rfl⟩
theorem zd_7_10_39 : zz_D zy_findSpots_7_10 39 (.aaload) 1 40 := ⟨by decide +kernel, rfl⟩
theorem zd_7_10_40 : zz_D zy_findSpots_7_10 40 (.getfield 76) 3 43 := ⟨by decide +kernel, rfl⟩
theorem zd_7_10_43 : zz_D zy_findSpots_7_10 43 (.aload_n 0) 1 44 := ⟨by decide +kernel, rfl⟩
theorem zd_7_10_44 : zz_D zy_findSpots_7_10 44 (.getfield 11) 3 47 := ⟨by decide +kernel, rfl⟩
theorem zd_7_10_47 : zz_D zy_findSpots_7_10 47 (.iload_n 1) 1 48 := ⟨by decide +kernel, rfl⟩
theorem zd_7_10_48 : zz_D zy_findSpots_7_10 48 (.aaload) 1 49 := ⟨by decide +kernel, rfl⟩
theorem zd_7_10_49 : zz_D zy_findSpots_7_10 49 (.invokevirtual 60) 3 52 := ⟨by decide +kernel, rfl⟩
theorem zd_7_10_52 : zz_D zy_findSpots_7_10 52 (.iadd) 1 53 := ⟨by decide +kernel, rfl⟩
theorem zd_7_10_53 : zz_D zy_findSpots_7_10 53 (.sipush 2048) 3 56 := ⟨by decide +kernel, rfl⟩
theorem zd_7_10_56 : zz_B zy_findSpots_7_10 56 (Instr.if_icmp .le) 61 59 := ⟨5, by decide +kernel, rfl, rfl⟩
theorem zd_7_10_61 : zz_D zy_findSpots_7_10 61 (.iinc 1 1) 3 64 := ⟨by decide +kernel, rfl⟩
theorem zd_7_10_64 : zz_B zy_findSpots_7_10 64 Instr.goto 12 67 := ⟨(-52), by decide +kernel, rfl, rfl⟩
theorem zd_7_10_59 : zz_D zy_findSpots_7_10 59 (.iconst 0) 1 60 := ⟨by decide +kernel, rfl⟩
theorem zd_7_10_60 : zz_D zy_findSpots_7_10 60 (.ireturn) 1 61 := ⟨by decide +kernel, rfl⟩
-- TensorForge$Network findSpots ()Z
abbrev zr_findSpots_7_10 : Room := { frames := 3, cells := 0, slots := 0, locals := 48 }
def zp_findSpots_7_10 (t : Int) (S0 : zz_S) : Int → zz_S → Prop := fun r S => zz_G S ∧ zz_fr [(1003, 14), (1004, 14), (1005, 14), (1006, 14), (1007, 14), (1008, 14), (1009, 14), (1010, 14), (1011, 14), (1012, 14), (1013, 14), (1014, 14), (1017, 14), (1018, 14), (1019, 14), (1020, 14), (1021, 14), (1022, 14), (1023, 14), (1024, 14), (1025, 14), (1026, 14), (1027, 14), (1028, 14)] [] (fun a i => (a = zz_rf 6 (12 * t + 0) ∧ i = 14)) S0 S ∧ (0 ≤ r ∧ r ≤ 1)
theorem zb_findSpots_7_10_12 {g : mm_G} {l : Launch} (t : Int) (S0 : zz_S) (n : Nat) (hn : zz_end ≤ n) (G_S0 : zz_G S0) (ht : 0 ≤ t ∧ t ≤ 1) (x1 : Int) (S : zz_S) (G_S : zz_G S) (F_S : zz_fr [(1003, 14), (1004, 14), (1005, 14), (1006, 14), (1007, 14), (1008, 14), (1009, 14), (1010, 14), (1011, 14), (1012, 14), (1013, 14), (1014, 14), (1017, 14), (1018, 14), (1019, 14), (1020, 14), (1021, 14), (1022, 14), (1023, 14), (1024, 14), (1025, 14), (1026, 14), (1027, 14), (1028, 14)] [] (fun a i => (a = zz_rf 6 (12 * t + 0) ∧ i = 14)) S0 S) (i12_0 : 1 ≤ x1 ∧ x1 ≤ 11) (R : Nat) (hR : (S (zz_rf 3 t) 1 - x1).toNat = R) (k12 : ∀ (x1 : Int) (S : zz_S), zz_G S → zz_fr [(1003, 14), (1004, 14), (1005, 14), (1006, 14), (1007, 14), (1008, 14), (1009, 14), (1010, 14), (1011, 14), (1012, 14), (1013, 14), (1014, 14), (1017, 14), (1018, 14), (1019, 14), (1020, 14), (1021, 14), (1022, 14), (1023, 14), (1024, 14), (1025, 14), (1026, 14), (1027, 14), (1028, 14)] [] (fun a i => (a = zz_rf 6 (12 * t + 0) ∧ i = 14)) S0 S → (1 ≤ x1 ∧ x1 ≤ 11) → (S (zz_rf 3 t) 1 - x1).toNat < R → zz_E g l zy_findSpots_7_10 zr_findSpots_7_10 (zz_QI n (zp_findSpots_7_10 t S0)) S n 12 [some (.ref (zz_rf 3 t)), some (zi x1)] [] 0 0) : zz_E g l zy_findSpots_7_10 zr_findSpots_7_10 (zz_QI n (zp_findSpots_7_10 t S0)) S n 12 [some (.ref (zz_rf 3 t)), some (zi x1)] [] 0 0 := by
  have b_t := zz_rf3 (z := t) (by omega)
  refine zz_iload_n (x := x1) rfl zd_7_10_12 ?_
  refine zz_aload_n (x := zz_rf 3 t) rfl zd_7_10_13 ?_
  have g3 := zz_G.r G_S0 (zz_rf 3 t) 1 1 11 (zR_k3_1 (by omega)) (zB_k3 (by omega))
  refine zz_geti (z := S0 (zz_rf 3 t) 1) zd_7_10_14 zf_Network_16 (zT_k3 (by omega)) rfl (zN_k3 hn (by omega)) (zz_rc F_S (zP_k3 (by omega) rfl) (zQ_k3 (by omega) rfl) (by omega) rfl) ?_
  refine zz_icmp_ge (by omega) (by omega) zd_7_10_17 (fun c4 => ?_) (fun c4 => ?_)
  · refine zz_iconst zd_7_10_67 ?_
    exact zz_zret zd_7_10_68 rfl (by omega) (Nat.zero_le _) (Nat.zero_le _) ⟨_, _, rfl, G_S, F_S, by omega⟩
  · refine zz_aload_n (x := zz_rf 3 t) rfl zd_7_10_20 ?_
    refine zz_getr (kd := 0) (z := ((zz_rf 3 t + 1 : Nat) : Int)) zd_7_10_21 zf_Network_11 (zT_k3 (by omega)) rfl (zN_k3 hn (by omega)) (zE_k3a G_S (by omega)) (Int.natCast_nonneg _) (zz_rf 3 t + 1) (Int.toNat_natCast _) ?_
    refine zz_iload_n (x := x1) rfl zd_7_10_24 ?_
    refine zz_aald (kd := 4) (z := 12 * t + x1) zd_7_10_25 (zT_k3a (by omega)) rfl (zN_k3a hn (by omega)) (by decide) (by omega) (zE_lay G_S (by omega) (by omega)) (by omega) (zz_rf 6 (12 * t + x1)) rfl ?_
    refine zz_aload_n (x := zz_rf 3 t) rfl zd_7_10_26 ?_
    refine zz_iload_n (x := x1) rfl zd_7_10_27 ?_
    refine zz_callVI [zi x1] zd_7_10_28 zk_Network_79 (zT_k3 (by omega)) (zN_k3 hn (by omega)) rfl rfl ⟨Nat.le_of_ble_eq_true rfl, Nat.le_of_ble_eq_true rfl⟩ ⟨rfl, rfl⟩ (Nat.zero_le _) (Nat.zero_le _) (zc_leastSpot_7_12 t x1 S n hn G_S (by omega) (by omega)) (fun v6 S5 hP => ?_)
    obtain ⟨rfl, o7⟩ := hP
    refine zz_puti zd_7_10_31 zf_Network_76 (zT_k6 (by omega)) rfl (zN_k6 hn (by omega)) (fun S8 qS8 => ?_)
    have G_S8 := zz_G.put G_S qS8 (-2147483648) 2147483647 (zR_k6_14 (by omega)) (by omega)
    have F_S8 := zz_fr.puts F_S qS8 (zMs_k6 (by omega) rfl)
    refine zz_aload_n (x := zz_rf 3 t) rfl zd_7_10_34 ?_
    refine zz_getr (kd := 0) (z := ((zz_rf 3 t + 1 : Nat) : Int)) zd_7_10_35 zf_Network_11 (zT_k3 (by omega)) rfl (zN_k3 hn (by omega)) (zE_k3a G_S8 (by omega)) (Int.natCast_nonneg _) (zz_rf 3 t + 1) (Int.toNat_natCast _) ?_
    refine zz_iload_n (x := x1) rfl zd_7_10_38 ?_
    refine zz_aald (kd := 4) (z := 12 * t + x1) zd_7_10_39 (zT_k3a (by omega)) rfl (zN_k3a hn (by omega)) (by decide) (by omega) (zE_lay G_S8 (by omega) (by omega)) (by omega) (zz_rf 6 (12 * t + x1)) rfl ?_
    refine zz_geti (z := v6) zd_7_10_40 zf_Network_76 (zT_k6 (by omega)) rfl (zN_k6 hn (by omega)) (zz_rs qS8) ?_
    refine zz_aload_n (x := zz_rf 3 t) rfl zd_7_10_43 ?_
    refine zz_getr (kd := 0) (z := ((zz_rf 3 t + 1 : Nat) : Int)) zd_7_10_44 zf_Network_11 (zT_k3 (by omega)) rfl (zN_k3 hn (by omega)) (zE_k3a G_S8 (by omega)) (Int.natCast_nonneg _) (zz_rf 3 t + 1) (Int.toNat_natCast _) ?_
    refine zz_iload_n (x := x1) rfl zd_7_10_47 ?_
    refine zz_aald (kd := 4) (z := 12 * t + x1) zd_7_10_48 (zT_k3a (by omega)) rfl (zN_k3a hn (by omega)) (by decide) (by omega) (zE_lay G_S8 (by omega) (by omega)) (by omega) (zz_rf 6 (12 * t + x1)) rfl ?_
    refine zz_callVI [] zd_7_10_49 zk_Network_60 (zT_k6 (by omega)) (zN_k6 hn (by omega)) rfl rfl ⟨Nat.le_of_ble_eq_true rfl, Nat.le_of_ble_eq_true rfl⟩ ⟨rfl, rfl⟩ (Nat.zero_le _) (Nat.zero_le _) (zc_size_4_7 (12 * t + x1) S8 n hn G_S8 (by omega)) (fun v10 S9 hP => ?_)
    obtain ⟨rfl, o11⟩ := hP
    refine zz_iadd zd_7_10_52 ?_
    refine zz_nrm (fun v12 hv12 ev12 => ?_)
    refine zz_sipush (by decide) zd_7_10_53 ?_
    refine zz_icmp_le (by omega) (by omega) zd_7_10_56 (fun c13 => ?_) (fun c13 => ?_)
    · refine zz_iinc [some (.ref (zz_rf 3 t)), some (zi (x1 + 1))] zd_7_10_61 rfl rfl ?_
      refine zz_goto zd_7_10_64 ?_
      have e14 : S8 (zz_rf 3 t) 1 = S0 (zz_rf 3 t) 1 := (zz_ro qS8 (fun h => absurd h.2 (by decide)) (zz_rc F_S (zP_k3 (by omega) rfl) (zQ_k3 (by omega) rfl) (by omega) rfl))
      refine zz_less (ls1 := [some (.ref (zz_rf 3 t)), some (zi (x1 + 1))]) ⟨rfl, ⟨rfl, trivial⟩⟩ ?_
      exact k12 (x1 + 1) S8 G_S8 F_S8 (by omega) (by omega)
    · refine zz_iconst zd_7_10_59 ?_
      exact zz_zret zd_7_10_60 rfl (by omega) (Nat.zero_le _) (Nat.zero_le _) ⟨_, _, rfl, G_S8, F_S8, by omega⟩
theorem zi_findSpots_7_10 {g : mm_G} {l : Launch} (t : Int) (S0 : zz_S) (n : Nat) (hn : zz_end ≤ n) (G_S0 : zz_G S0) (ht : 0 ≤ t ∧ t ≤ 1) : ∀ N : Nat, (∀ (x1 : Int) (S : zz_S), zz_G S → zz_fr [(1003, 14), (1004, 14), (1005, 14), (1006, 14), (1007, 14), (1008, 14), (1009, 14), (1010, 14), (1011, 14), (1012, 14), (1013, 14), (1014, 14), (1017, 14), (1018, 14), (1019, 14), (1020, 14), (1021, 14), (1022, 14), (1023, 14), (1024, 14), (1025, 14), (1026, 14), (1027, 14), (1028, 14)] [] (fun a i => (a = zz_rf 6 (12 * t + 0) ∧ i = 14)) S0 S → (1 ≤ x1 ∧ x1 ≤ 11) → (S (zz_rf 3 t) 1 - x1).toNat < N → zz_E g l zy_findSpots_7_10 zr_findSpots_7_10 (zz_QI n (zp_findSpots_7_10 t S0)) S n 12 [some (.ref (zz_rf 3 t)), some (zi x1)] [] 0 0) := by
  intro N
  induction N with
  | zero => exact fun x1 S _ _ _ h => absurd h (Nat.not_lt_zero _)
  | succ N ih =>
    exact fun x1 S a b j0 hR => zb_findSpots_7_10_12 t S0 n hn G_S0 ht x1 S a b j0 _ rfl (fun x1 S a b j0 h => ih x1 S a b j0 (Nat.lt_of_lt_of_le h (Nat.le_of_lt_succ hR)))
theorem zc_findSpots_7_10 {g : mm_G} {l : Launch} (t : Int) (S0 : zz_S) (n : Nat) (hn : zz_end ≤ n) (G_S0 : zz_G S0) (ht : 0 ≤ t ∧ t ≤ 1) : mm_Met g l zy_findSpots_7_10 zr_findSpots_7_10 [.ref (zz_rf 3 t)] (zz_M S0 n) n (zz_QI n (zp_findSpots_7_10 t S0)) := by
  refine zz_enter (by decide) (Nat.le_of_ble_eq_true rfl) (zz_less (ls1 := [some (.ref (zz_rf 3 t))]) ⟨rfl, trivial⟩ ?_)
  have F_S0 : zz_fr [(1003, 14), (1004, 14), (1005, 14), (1006, 14), (1007, 14), (1008, 14), (1009, 14), (1010, 14), (1011, 14), (1012, 14), (1013, 14), (1014, 14), (1017, 14), (1018, 14), (1019, 14), (1020, 14), (1021, 14), (1022, 14), (1023, 14), (1024, 14), (1025, 14), (1026, 14), (1027, 14), (1028, 14)] [] (fun a i => (a = zz_rf 6 (12 * t + 0) ∧ i = 14)) S0 S0 := zz_fr.refl
  have k12 : ∀ (x1 : Int) (S : zz_S), zz_G S → zz_fr [(1003, 14), (1004, 14), (1005, 14), (1006, 14), (1007, 14), (1008, 14), (1009, 14), (1010, 14), (1011, 14), (1012, 14), (1013, 14), (1014, 14), (1017, 14), (1018, 14), (1019, 14), (1020, 14), (1021, 14), (1022, 14), (1023, 14), (1024, 14), (1025, 14), (1026, 14), (1027, 14), (1028, 14)] [] (fun a i => (a = zz_rf 6 (12 * t + 0) ∧ i = 14)) S0 S → (1 ≤ x1 ∧ x1 ≤ 11) → zz_E g l zy_findSpots_7_10 zr_findSpots_7_10 (zz_QI n (zp_findSpots_7_10 t S0)) S n 12 [some (.ref (zz_rf 3 t)), some (zi x1)] [] 0 0 := fun x1 S a b j0 => (zi_findSpots_7_10 (g := g) (l := l) t S0 n hn G_S0 ht _) x1 S a b j0 (Nat.lt_succ_self _)
  have b_t := zz_rf3 (z := t) (by omega)
  refine zz_aload_n (x := zz_rf 3 t) rfl zd_7_10_0 ?_
  refine zz_getr (kd := 0) (z := ((zz_rf 3 t + 1 : Nat) : Int)) zd_7_10_1 zf_Network_11 (zT_k3 (by omega)) rfl (zN_k3 hn (by omega)) (zE_k3a G_S0 (by omega)) (Int.natCast_nonneg _) (zz_rf 3 t + 1) (Int.toNat_natCast _) ?_
  refine zz_iconst zd_7_10_4 ?_
  refine zz_aald (kd := 4) (z := 12 * t + 0) zd_7_10_5 (zT_k3a (by omega)) rfl (zN_k3a hn (by omega)) (by decide) (by omega) (zE_lay G_S0 (by omega) (by omega)) (by omega) (zz_rf 6 (12 * t + 0)) rfl ?_
  refine zz_iconst zd_7_10_6 ?_
  refine zz_puti zd_7_10_7 zf_Network_76 (zT_k6 (by omega)) rfl (zN_k6 hn (by omega)) (fun S1 qS1 => ?_)
  have G_S1 := zz_G.put G_S0 qS1 (-2147483648) 2147483647 (zR_k6_14 (by omega)) (by omega)
  have F_S1 := zz_fr.putv F_S0 qS1 (⟨rfl, rfl⟩)
  refine zz_iconst zd_7_10_10 ?_
  refine zz_istore_n [some (.ref (zz_rf 3 t)), some (zi 1)] zd_7_10_11 (by decide) rfl ?_
  have e2 : S1 (zz_rf 3 t) 1 = S0 (zz_rf 3 t) 1 := (zz_ro qS1 (fun h => absurd h.2 (by decide)) rfl)
  refine zz_less (ls1 := [some (.ref (zz_rf 3 t)), some (zi 1)]) ⟨rfl, ⟨rfl, trivial⟩⟩ ?_
  exact k12 1 S1 G_S1 F_S1 (by omega)
theorem zk_TF_305 : mm_Vl "TensorForge" 305 1 0 zy_findSpots_7_10 := ⟨zyw_findSpots_7_10, (R_Network, F_Network, 2), rfl, mm_tb_1 1512 (by decide +kernel) rfl, mm_tb_1 1513 (by decide +kernel) rfl, mm_tb_1 1514 (by decide +kernel) rfl⟩
theorem zd_1_27_7 : zz_B zy_place_1_27 7 (Instr.ifCond .ne) 21 10 := ⟨14, by decide +kernel, rfl, rfl⟩
theorem zt_1_27_10 : zz_ThrW zy_place_1_27 10 126 309 130 := ⟨by decide +kernel, by decide +kernel, by decide +kernel, by decide +kernel, by decide +kernel⟩
theorem zxl_TF_126_309_130 : mm_Xl "TensorForge" 126 309 130 2 := ⟨mm_tb_1 1176 (by decide +kernel) rfl, mm_tb_1 1177 (by decide +kernel) rfl, mm_tb_1 19 (by decide +kernel) rfl, ⟨57, by decide +kernel⟩, zxa_TF_130⟩
theorem zd_1_27_21 : zz_D zy_place_1_27 21 (.aload_n 0) 1 22 := ⟨by decide +kernel, rfl⟩
theorem zd_1_27_22 : zz_D zy_place_1_27 22 (.getfield 10) 3 25 := ⟨by decide +kernel, rfl⟩
theorem zd_1_27_25 : zz_D zy_place_1_27 25 (.invokevirtual 311) 3 28 := ⟨by decide +kernel, rfl⟩
abbrev zy_takeSpots_7_11 : mm_Y := (⟨"TensorForge$Network", "takeSpots", "()V"⟩, prog_7_method_11_code, 2, none)
theorem zyw_takeSpots_7_11 : mm_Yw zy_takeSpots_7_11 0 := ⟨mm_tb_1 1532 (by decide +kernel) rfl, mm_tb_1 2 (by decide +kernel) rfl, ⟨by decide, by decide⟩, by decide +kernel⟩
theorem zd_7_11_0 : zz_D zy_takeSpots_7_11 0 (.iconst 0) 1 1 := ⟨by decide +kernel, rfl⟩
theorem zd_7_11_1 : zz_D zy_takeSpots_7_11 1 (.istore_n 1) 1 2 := ⟨by decide +kernel, rfl⟩
theorem zd_7_11_2 : zz_D zy_takeSpots_7_11 2 (.iload_n 1) 1 3 := ⟨by decide +kernel, rfl⟩
theorem zd_7_11_3 : zz_D zy_takeSpots_7_11 3 (.aload_n 0) 1 4 := ⟨by decide +kernel, rfl⟩
theorem zd_7_11_4 : zz_D zy_takeSpots_7_11 4 (.getfield 16) 3 7 := ⟨by decide +kernel, rfl⟩
theorem zd_7_11_7 : zz_B zy_takeSpots_7_11 7 (Instr.if_icmp .ge) 34 10 := ⟨27, by decide +kernel, rfl, rfl⟩
theorem zd_7_11_10 : zz_D zy_takeSpots_7_11 10 (.aload_n 0) 1 11 := ⟨by decide +kernel, rfl⟩
theorem zd_7_11_11 : zz_D zy_takeSpots_7_11 11 (.getfield 11) 3 14 := ⟨by decide +kernel, rfl⟩
theorem zd_7_11_14 : zz_D zy_takeSpots_7_11 14 (.iload_n 1) 1 15 := ⟨by decide +kernel, rfl⟩
theorem zd_7_11_15 : zz_D zy_takeSpots_7_11 15 (.aaload) 1 16 := ⟨by decide +kernel, rfl⟩
theorem zd_7_11_16 : zz_D zy_takeSpots_7_11 16 (.aload_n 0) 1 17 := ⟨by decide +kernel, rfl⟩
theorem zd_7_11_17 : zz_D zy_takeSpots_7_11 17 (.getfield 11) 3 20 := ⟨by decide +kernel, rfl⟩
theorem zd_7_11_20 : zz_D zy_takeSpots_7_11 20 (.iload_n 1) 1 21 := ⟨by decide +kernel, rfl⟩
theorem zd_7_11_21 : zz_D zy_takeSpots_7_11 21 (.aaload) 1 22 := ⟨by decide +kernel, rfl⟩
theorem zd_7_11_22 : zz_D zy_takeSpots_7_11 22 (.getfield 76) 3 25 := ⟨by decide +kernel, rfl⟩
theorem zd_7_11_25 : zz_D zy_takeSpots_7_11 25 (.putfield 63) 3 28 := ⟨by decide +kernel, rfl⟩
theorem zd_7_11_28 : zz_D zy_takeSpots_7_11 28 (.iinc 1 1) 3 31 := ⟨by decide +kernel, rfl⟩
theorem zd_7_11_31 : zz_B zy_takeSpots_7_11 31 Instr.goto 2 34 := ⟨(-29), by decide +kernel, rfl, rfl⟩
theorem zd_7_11_34 : zz_D zy_takeSpots_7_11 34 (.return_) 1 35 := ⟨by decide +kernel, rfl⟩
-- TensorForge$Network takeSpots ()V
abbrev zr_takeSpots_7_11 : Room := { frames := 0, cells := 0, slots := 0, locals := 0 }
def zp_takeSpots_7_11 (t : Int) (S0 : zz_S) : zz_S → Prop := fun S => zz_G S ∧ zz_fr [(1003, 13), (1004, 13), (1005, 13), (1006, 13), (1007, 13), (1008, 13), (1009, 13), (1010, 13), (1011, 13), (1012, 13), (1013, 13), (1014, 13), (1017, 13), (1018, 13), (1019, 13), (1020, 13), (1021, 13), (1022, 13), (1023, 13), (1024, 13), (1025, 13), (1026, 13), (1027, 13), (1028, 13)] [] (fun _ _ => False) S0 S
theorem zb_takeSpots_7_11_2 {g : mm_G} {l : Launch} (t : Int) (S0 : zz_S) (n : Nat) (hn : zz_end ≤ n) (G_S0 : zz_G S0) (ht : 0 ≤ t ∧ t ≤ 1) (x1 : Int) (S : zz_S) (G_S : zz_G S) (F_S : zz_fr [(1003, 13), (1004, 13), (1005, 13), (1006, 13), (1007, 13), (1008, 13), (1009, 13), (1010, 13), (1011, 13), (1012, 13), (1013, 13), (1014, 13), (1017, 13), (1018, 13), (1019, 13), (1020, 13), (1021, 13), (1022, 13), (1023, 13), (1024, 13), (1025, 13), (1026, 13), (1027, 13), (1028, 13)] [] (fun _ _ => False) S0 S) (i2_0 : 0 ≤ x1 ∧ x1 ≤ 11) (R : Nat) (hR : (S (zz_rf 3 t) 1 - x1).toNat = R) (k2 : ∀ (x1 : Int) (S : zz_S), zz_G S → zz_fr [(1003, 13), (1004, 13), (1005, 13), (1006, 13), (1007, 13), (1008, 13), (1009, 13), (1010, 13), (1011, 13), (1012, 13), (1013, 13), (1014, 13), (1017, 13), (1018, 13), (1019, 13), (1020, 13), (1021, 13), (1022, 13), (1023, 13), (1024, 13), (1025, 13), (1026, 13), (1027, 13), (1028, 13)] [] (fun _ _ => False) S0 S → (0 ≤ x1 ∧ x1 ≤ 11) → (S (zz_rf 3 t) 1 - x1).toNat < R → zz_E g l zy_takeSpots_7_11 zr_takeSpots_7_11 (zz_QV n (zp_takeSpots_7_11 t S0)) S n 2 [some (.ref (zz_rf 3 t)), some (zi x1)] [] 0 0) : zz_E g l zy_takeSpots_7_11 zr_takeSpots_7_11 (zz_QV n (zp_takeSpots_7_11 t S0)) S n 2 [some (.ref (zz_rf 3 t)), some (zi x1)] [] 0 0 := by
  have b_t := zz_rf3 (z := t) (by omega)
  refine zz_iload_n (x := x1) rfl zd_7_11_2 ?_
  refine zz_aload_n (x := zz_rf 3 t) rfl zd_7_11_3 ?_
  have g1 := zz_G.r G_S0 (zz_rf 3 t) 1 1 11 (zR_k3_1 (by omega)) (zB_k3 (by omega))
  refine zz_geti (z := S0 (zz_rf 3 t) 1) zd_7_11_4 zf_Network_16 (zT_k3 (by omega)) rfl (zN_k3 hn (by omega)) (zz_rc F_S (zP_k3 (by omega) rfl) (zQ_k3 (by omega) rfl) (fun h => h) rfl) ?_
  refine zz_icmp_ge (by omega) (by omega) zd_7_11_7 (fun c2 => ?_) (fun c2 => ?_)
  · exact zz_vret zd_7_11_34 rfl (Nat.zero_le _) (Nat.zero_le _) ⟨_, rfl, G_S, F_S⟩
  · refine zz_aload_n (x := zz_rf 3 t) rfl zd_7_11_10 ?_
    refine zz_getr (kd := 0) (z := ((zz_rf 3 t + 1 : Nat) : Int)) zd_7_11_11 zf_Network_11 (zT_k3 (by omega)) rfl (zN_k3 hn (by omega)) (zE_k3a G_S (by omega)) (Int.natCast_nonneg _) (zz_rf 3 t + 1) (Int.toNat_natCast _) ?_
    refine zz_iload_n (x := x1) rfl zd_7_11_14 ?_
    refine zz_aald (kd := 4) (z := 12 * t + x1) zd_7_11_15 (zT_k3a (by omega)) rfl (zN_k3a hn (by omega)) (by decide) (by omega) (zE_lay G_S (by omega) (by omega)) (by omega) (zz_rf 6 (12 * t + x1)) rfl ?_
    refine zz_aload_n (x := zz_rf 3 t) rfl zd_7_11_16 ?_
    refine zz_getr (kd := 0) (z := ((zz_rf 3 t + 1 : Nat) : Int)) zd_7_11_17 zf_Network_11 (zT_k3 (by omega)) rfl (zN_k3 hn (by omega)) (zE_k3a G_S (by omega)) (Int.natCast_nonneg _) (zz_rf 3 t + 1) (Int.toNat_natCast _) ?_
    refine zz_iload_n (x := x1) rfl zd_7_11_20 ?_
    refine zz_aald (kd := 4) (z := 12 * t + x1) zd_7_11_21 (zT_k3a (by omega)) rfl (zN_k3a hn (by omega)) (by decide) (by omega) (zE_lay G_S (by omega) (by omega)) (by omega) (zz_rf 6 (12 * t + x1)) rfl ?_
    have g3 := zz_G.r G_S (zz_rf 6 (12 * t + x1)) 14 (-2147483648) 2147483647 (zR_k6_14 (by omega)) (zB_k6 (by omega))
    refine zz_geti (z := S (zz_rf 6 (12 * t + x1)) 14) zd_7_11_22 zf_Network_76 (zT_k6 (by omega)) rfl (zN_k6 hn (by omega)) rfl ?_
    refine zz_puti zd_7_11_25 zf_Network_63 (zT_k6 (by omega)) rfl (zN_k6 hn (by omega)) (fun S4 qS4 => ?_)
    have G_S4 := zz_G.put G_S qS4 (-2147483648) 2147483647 (zR_k6_13 (by omega)) (by omega)
    have F_S4 := zz_fr.puts F_S qS4 (zMs_k6 (by omega) rfl)
    refine zz_iinc [some (.ref (zz_rf 3 t)), some (zi (x1 + 1))] zd_7_11_28 rfl rfl ?_
    refine zz_goto zd_7_11_31 ?_
    have e5 : S4 (zz_rf 3 t) 1 = S0 (zz_rf 3 t) 1 := (zz_ro qS4 (fun h => absurd h.2 (by decide)) (zz_rc F_S (zP_k3 (by omega) rfl) (zQ_k3 (by omega) rfl) (fun h => h) rfl))
    refine zz_less (ls1 := [some (.ref (zz_rf 3 t)), some (zi (x1 + 1))]) ⟨rfl, ⟨rfl, trivial⟩⟩ ?_
    exact k2 (x1 + 1) S4 G_S4 F_S4 (by omega) (by omega)
theorem zi_takeSpots_7_11 {g : mm_G} {l : Launch} (t : Int) (S0 : zz_S) (n : Nat) (hn : zz_end ≤ n) (G_S0 : zz_G S0) (ht : 0 ≤ t ∧ t ≤ 1) : ∀ N : Nat, (∀ (x1 : Int) (S : zz_S), zz_G S → zz_fr [(1003, 13), (1004, 13), (1005, 13), (1006, 13), (1007, 13), (1008, 13), (1009, 13), (1010, 13), (1011, 13), (1012, 13), (1013, 13), (1014, 13), (1017, 13), (1018, 13), (1019, 13), (1020, 13), (1021, 13), (1022, 13), (1023, 13), (1024, 13), (1025, 13), (1026, 13), (1027, 13), (1028, 13)] [] (fun _ _ => False) S0 S → (0 ≤ x1 ∧ x1 ≤ 11) → (S (zz_rf 3 t) 1 - x1).toNat < N → zz_E g l zy_takeSpots_7_11 zr_takeSpots_7_11 (zz_QV n (zp_takeSpots_7_11 t S0)) S n 2 [some (.ref (zz_rf 3 t)), some (zi x1)] [] 0 0) := by
  intro N
  induction N with
  | zero => exact fun x1 S _ _ _ h => absurd h (Nat.not_lt_zero _)
  | succ N ih =>
    exact fun x1 S a b j0 hR => zb_takeSpots_7_11_2 t S0 n hn G_S0 ht x1 S a b j0 _ rfl (fun x1 S a b j0 h => ih x1 S a b j0 (Nat.lt_of_lt_of_le h (Nat.le_of_lt_succ hR)))
theorem zc_takeSpots_7_11 {g : mm_G} {l : Launch} (t : Int) (S0 : zz_S) (n : Nat) (hn : zz_end ≤ n) (G_S0 : zz_G S0) (ht : 0 ≤ t ∧ t ≤ 1) : mm_Met g l zy_takeSpots_7_11 zr_takeSpots_7_11 [.ref (zz_rf 3 t)] (zz_M S0 n) n (zz_QV n (zp_takeSpots_7_11 t S0)) := by
  refine zz_enter (by decide) (Nat.le_of_ble_eq_true rfl) (zz_less (ls1 := [some (.ref (zz_rf 3 t))]) ⟨rfl, trivial⟩ ?_)
  have F_S0 : zz_fr [(1003, 13), (1004, 13), (1005, 13), (1006, 13), (1007, 13), (1008, 13), (1009, 13), (1010, 13), (1011, 13), (1012, 13), (1013, 13), (1014, 13), (1017, 13), (1018, 13), (1019, 13), (1020, 13), (1021, 13), (1022, 13), (1023, 13), (1024, 13), (1025, 13), (1026, 13), (1027, 13), (1028, 13)] [] (fun _ _ => False) S0 S0 := zz_fr.refl
  have k2 : ∀ (x1 : Int) (S : zz_S), zz_G S → zz_fr [(1003, 13), (1004, 13), (1005, 13), (1006, 13), (1007, 13), (1008, 13), (1009, 13), (1010, 13), (1011, 13), (1012, 13), (1013, 13), (1014, 13), (1017, 13), (1018, 13), (1019, 13), (1020, 13), (1021, 13), (1022, 13), (1023, 13), (1024, 13), (1025, 13), (1026, 13), (1027, 13), (1028, 13)] [] (fun _ _ => False) S0 S → (0 ≤ x1 ∧ x1 ≤ 11) → zz_E g l zy_takeSpots_7_11 zr_takeSpots_7_11 (zz_QV n (zp_takeSpots_7_11 t S0)) S n 2 [some (.ref (zz_rf 3 t)), some (zi x1)] [] 0 0 := fun x1 S a b j0 => (zi_takeSpots_7_11 (g := g) (l := l) t S0 n hn G_S0 ht _) x1 S a b j0 (Nat.lt_succ_self _)
  have b_t := zz_rf3 (z := t) (by omega)
  refine zz_iconst zd_7_11_0 ?_
  refine zz_istore_n [some (.ref (zz_rf 3 t)), some (zi 0)] zd_7_11_1 (by decide) rfl ?_
  refine zz_less (ls1 := [some (.ref (zz_rf 3 t)), some (zi 0)]) ⟨rfl, ⟨rfl, trivial⟩⟩ ?_
  exact k2 0 S0 G_S0 F_S0 (by omega)
theorem zk_TF_311 : mm_Vl "TensorForge" 311 1 0 zy_takeSpots_7_11 := ⟨zyw_takeSpots_7_11, (R_Network, F_Network, 2), rfl, mm_tb_1 1529 (by decide +kernel) rfl, mm_tb_1 1530 (by decide +kernel) rfl, mm_tb_1 1531 (by decide +kernel) rfl⟩
theorem zd_1_27_28 : zz_D zy_place_1_27 28 (.aload_n 0) 1 29 := ⟨by decide +kernel, rfl⟩
theorem zd_1_27_29 : zz_D zy_place_1_27 29 (.getfield 10) 3 32 := ⟨by decide +kernel, rfl⟩
theorem zd_1_27_32 : zz_D zy_place_1_27 32 (.invokevirtual 314) 3 35 := ⟨by decide +kernel, rfl⟩
theorem zk_TF_314 : mm_Vl "TensorForge" 314 1 0 zy_endOfAll_7_8 := ⟨zyw_endOfAll_7_8, (R_Network, F_Network, 2), rfl, mm_tb_1 1533 (by decide +kernel) rfl, mm_tb_1 1010 (by decide +kernel) rfl, mm_tb_1 1011 (by decide +kernel) rfl⟩
theorem zd_1_27_35 : zz_D zy_place_1_27 35 (.ireturn) 1 36 := ⟨by decide +kernel, rfl⟩
-- TensorForge place ()I
abbrev zr_place_1_27 : Room := { frames := 6, cells := 1, slots := 6, locals := 82 }
def zp_place_1_27  (S0 : zz_S) : Int → zz_S → Prop := fun r S => zz_G S ∧ zz_fr [(1003, 13), (1003, 14), (1004, 13), (1004, 14), (1005, 13), (1005, 14), (1006, 13), (1006, 14), (1007, 13), (1007, 14), (1008, 13), (1008, 14), (1009, 13), (1009, 14), (1010, 13), (1010, 14), (1011, 13), (1011, 14), (1012, 13), (1012, 14), (1013, 13), (1013, 14), (1014, 13), (1014, 14), (1017, 13), (1017, 14), (1018, 13), (1018, 14), (1019, 13), (1019, 14), (1020, 13), (1020, 14), (1021, 13), (1021, 14), (1022, 13), (1022, 14), (1023, 13), (1023, 14), (1024, 13), (1024, 14), (1025, 13), (1025, 14), (1026, 13), (1026, 14), (1027, 13), (1027, 14), (1028, 13), (1028, 14)] [] (fun a i => (a = zz_rf 6 (12 * (S0 1000 7) + 0) ∧ i = 14)) S0 S ∧ ((-2147483648) ≤ r ∧ r ≤ 2147483647)
def zx_place_1_27  (S0 : zz_S) : Nat → zz_S → Prop := fun i S => zz_G S ∧ zz_fr [(1003, 13), (1003, 14), (1004, 13), (1004, 14), (1005, 13), (1005, 14), (1006, 13), (1006, 14), (1007, 13), (1007, 14), (1008, 13), (1008, 14), (1009, 13), (1009, 14), (1010, 13), (1010, 14), (1011, 13), (1011, 14), (1012, 13), (1012, 14), (1013, 13), (1013, 14), (1014, 13), (1014, 14), (1017, 13), (1017, 14), (1018, 13), (1018, 14), (1019, 13), (1019, 14), (1020, 13), (1020, 14), (1021, 13), (1021, 14), (1022, 13), (1022, 14), (1023, 13), (1023, 14), (1024, 13), (1024, 14), (1025, 13), (1025, 14), (1026, 13), (1026, 14), (1027, 13), (1027, 14), (1028, 13), (1028, 14)] [] (fun a i => (a = zz_rf 6 (12 * (S0 1000 7) + 0) ∧ i = 14)) S0 S ∧ (i < 4) ∧ (i = 2)
theorem zc_place_1_27 {g : mm_G} {l : Launch}  (S0 : zz_S) (n : Nat) (hn : zz_end ≤ n) (hfl : l.flags = flags0) (G_S0 : zz_G S0)  : mm_Met g l zy_place_1_27 zr_place_1_27 [.ref 1000] (zz_M S0 n) n (zz_XI n (zp_place_1_27  S0) (zx_place_1_27  S0)) := by
  refine zz_enter (by decide) (Nat.le_of_ble_eq_true rfl) (zz_less (ls1 := [some (.ref 1000)]) ⟨rfl, trivial⟩ ?_)
  have F_S0 : zz_fr [(1003, 13), (1003, 14), (1004, 13), (1004, 14), (1005, 13), (1005, 14), (1006, 13), (1006, 14), (1007, 13), (1007, 14), (1008, 13), (1008, 14), (1009, 13), (1009, 14), (1010, 13), (1010, 14), (1011, 13), (1011, 14), (1012, 13), (1012, 14), (1013, 13), (1013, 14), (1014, 13), (1014, 14), (1017, 13), (1017, 14), (1018, 13), (1018, 14), (1019, 13), (1019, 14), (1020, 13), (1020, 14), (1021, 13), (1021, 14), (1022, 13), (1022, 14), (1023, 13), (1023, 14), (1024, 13), (1024, 14), (1025, 13), (1025, 14), (1026, 13), (1026, 14), (1027, 13), (1027, 14), (1028, 13), (1028, 14)] [] (fun a i => (a = zz_rf 6 (12 * (S0 1000 7) + 0) ∧ i = 14)) S0 S0 := zz_fr.refl
  refine zz_aload_n (x := 1000) rfl zd_1_27_0 ?_
  have g1 := zz_G.r G_S0 1000 7 0 1 rfl rfl
  refine zz_getr (kd := 1) (z := S0 1000 7) zd_1_27_1 zf_TF_10 zT_1000 rfl (zz_ltn hn rfl) rfl (by omega) (zz_rf 3 (S0 1000 7)) rfl ?_
  refine zz_callVI [] zd_1_27_4 zk_TF_305 (zT_k3 (by omega)) (zN_k3 hn (by omega)) rfl rfl ⟨Nat.le_of_ble_eq_true rfl, Nat.le_of_ble_eq_true rfl⟩ ⟨rfl, rfl⟩ (Nat.zero_le _) (Nat.zero_le _) (zc_findSpots_7_10 (S0 1000 7) S0 n hn G_S0 (by omega)) (fun v3 S2 hP => ?_)
  obtain ⟨G_S2, fS2, o4⟩ := hP
  have g5 := zz_G.r G_S0 1000 7 0 1 rfl rfl
  have F_S2 := zz_fr.trans F_S0 fS2 rfl (fun a i h => Or.inr (Or.inr (h)))
  have b6 := zz_rf6 (z := (12 * (S0 1000 7) + 0)) (by omega)
  rcases (by omega : v3 = 0 ∨ v3 = 1) with rfl | rfl
  · refine zz_if_ne (by omega) zd_1_27_7 (fun c7 => ?_) (fun c7 => ?_)
    · exfalso; omega
    · exact zz_throwW (i := 2) hfl hn zt_1_27_10 zyw_place_1_27 zxl_TF_126_309_130 (Nat.le_of_ble_eq_true rfl) (Nat.le_of_ble_eq_true rfl) ⟨Nat.le_of_ble_eq_true rfl, Nat.le_of_ble_eq_true rfl⟩ (Or.inr ⟨_, _, rfl, G_S2, F_S2, by omega, by omega⟩)
  · refine zz_if_ne (by omega) zd_1_27_7 (fun c8 => ?_) (fun c8 => ?_)
    · refine zz_aload_n (x := 1000) rfl zd_1_27_21 ?_
      refine zz_getr (kd := 1) (z := S0 1000 7) zd_1_27_22 zf_TF_10 zT_1000 rfl (zz_ltn hn rfl) (zz_rc fS2 rfl rfl (by omega) rfl) (by omega) (zz_rf 3 (S0 1000 7)) rfl ?_
      refine zz_callVV [] zd_1_27_25 zk_TF_311 (zT_k3 (by omega)) (zN_k3 hn (by omega)) rfl rfl ⟨Nat.le_of_ble_eq_true rfl, Nat.le_of_ble_eq_true rfl⟩ ⟨rfl, rfl⟩ (Nat.zero_le _) (Nat.zero_le _) (zc_takeSpots_7_11 (S0 1000 7) S2 n hn G_S2 (by omega)) (fun S9 hP => ?_)
      obtain ⟨G_S9, fS9⟩ := hP
      have F_S9 := zz_fr.trans F_S2 fS9 rfl zz_nv
      refine zz_aload_n (x := 1000) rfl zd_1_27_28 ?_
      refine zz_getr (kd := 1) (z := S0 1000 7) zd_1_27_29 zf_TF_10 zT_1000 rfl (zz_ltn hn rfl) (zz_rc fS9 rfl rfl (fun h => h) (zz_rc fS2 rfl rfl (by omega) rfl)) (by omega) (zz_rf 3 (S0 1000 7)) rfl ?_
      refine zz_callVI [] zd_1_27_32 zk_TF_314 (zT_k3 (by omega)) (zN_k3 hn (by omega)) rfl rfl ⟨Nat.le_of_ble_eq_true rfl, Nat.le_of_ble_eq_true rfl⟩ ⟨rfl, rfl⟩ (Nat.zero_le _) (Nat.zero_le _) (zc_endOfAll_7_8 (S0 1000 7) S9 n hn G_S9 (by omega)) (fun v12 S11 hP => ?_)
      obtain ⟨rfl, o13⟩ := hP
      exact zz_iret zd_1_27_35 rfl (Nat.le_of_ble_eq_true rfl) (Nat.le_of_ble_eq_true rfl) (Or.inl ⟨_, _, rfl, G_S9, F_S9, by omega⟩)
    · exfalso; omega
abbrev zy_under_1_28 : mm_Y := (⟨"TensorForge", "under", "(II)I"⟩, prog_1_method_28_code, 3, (some .int))
theorem zyw_under_1_28 : mm_Yw zy_under_1_28 2 := ⟨mm_tb_1 1540 (by decide +kernel) rfl, mm_tb_1 1 (by decide +kernel) rfl, ⟨by decide, by decide⟩, by decide +kernel⟩
theorem zd_1_28_0 : zz_D zy_under_1_28 0 (.aload_n 0) 1 1 := ⟨by decide +kernel, rfl⟩
theorem zd_1_28_1 : zz_D zy_under_1_28 1 (.invokevirtual 191) 3 4 := ⟨by decide +kernel, rfl⟩
theorem zd_1_28_4 : zz_D zy_under_1_28 4 (.aload_n 0) 1 5 := ⟨by decide +kernel, rfl⟩
theorem zd_1_28_5 : zz_D zy_under_1_28 5 (.iload_n 1) 1 6 := ⟨by decide +kernel, rfl⟩
theorem zd_1_28_6 : zz_D zy_under_1_28 6 (.iload_n 2) 1 7 := ⟨by decide +kernel, rfl⟩
theorem zd_1_28_7 : zz_D zy_under_1_28 7 (.invokevirtual 317) 3 10 := ⟨by decide +kernel, rfl⟩
abbrev zy_needUnitAndCycle_1_33 : mm_Y := (⟨"TensorForge", "needUnitAndCycle", "(II)V"⟩, prog_1_method_33_code, 3, none)
theorem zyw_needUnitAndCycle_1_33 : mm_Yw zy_needUnitAndCycle_1_33 2 := ⟨mm_tb_1 1544 (by decide +kernel) rfl, mm_tb_1 1 (by decide +kernel) rfl, ⟨by decide, by decide⟩, by decide +kernel⟩
theorem zd_1_33_0 : zz_D zy_needUnitAndCycle_1_33 0 (.iload_n 1) 1 1 := ⟨by decide +kernel, rfl⟩
theorem zd_1_33_1 : zz_B zy_needUnitAndCycle_1_33 1 (Instr.ifCond .lt) 13 4 := ⟨12, by decide +kernel, rfl, rfl⟩
theorem zt_1_33_13 : zz_ThrW zy_needUnitAndCycle_1_33 13 87 338 91 := ⟨by decide +kernel, by decide +kernel, by decide +kernel, by decide +kernel, by decide +kernel⟩
theorem zxl_TF_87_338_91 : mm_Xl "TensorForge" 87 338 91 0 := ⟨mm_tb_1 1048 (by decide +kernel) rfl, mm_tb_1 1049 (by decide +kernel) rfl, mm_tb_1 16 (by decide +kernel) rfl, ⟨58, by decide +kernel⟩, zxa_TF_91⟩
theorem zd_1_33_4 : zz_D zy_needUnitAndCycle_1_33 4 (.iload_n 1) 1 5 := ⟨by decide +kernel, rfl⟩
theorem zd_1_33_5 : zz_D zy_needUnitAndCycle_1_33 5 (.iconst 3) 1 6 := ⟨by decide +kernel, rfl⟩
theorem zd_1_33_6 : zz_B zy_needUnitAndCycle_1_33 6 (Instr.if_icmp .ge) 13 9 := ⟨7, by decide +kernel, rfl, rfl⟩
theorem zd_1_33_9 : zz_D zy_needUnitAndCycle_1_33 9 (.iload_n 2) 1 10 := ⟨by decide +kernel, rfl⟩
theorem zd_1_33_10 : zz_B zy_needUnitAndCycle_1_33 10 (Instr.ifCond .ge) 24 13 := ⟨14, by decide +kernel, rfl, rfl⟩
theorem zd_1_33_24 : zz_D zy_needUnitAndCycle_1_33 24 (.return_) 1 25 := ⟨by decide +kernel, rfl⟩
-- TensorForge needUnitAndCycle (II)V
abbrev zr_needUnitAndCycle_1_33 : Room := { frames := 6, cells := 1, slots := 6, locals := 82 }
def zp_needUnitAndCycle_1_33 (p0 : Int) (p1 : Int) (S0 : zz_S) : zz_S → Prop := fun S => S0 = S
def zx_needUnitAndCycle_1_33 (p0 : Int) (p1 : Int) (S0 : zz_S) : Nat → zz_S → Prop := fun i S => S0 = S ∧ (i < 4) ∧ (i = 0)
theorem zc_needUnitAndCycle_1_33 {g : mm_G} {l : Launch} (p0 : Int) (p1 : Int) (S0 : zz_S) (n : Nat) (hn : zz_end ≤ n) (hfl : l.flags = flags0) (G_S0 : zz_G S0) (hp0 : (-2147483648) ≤ p0 ∧ p0 ≤ 2147483647) (hp1 : (-2147483648) ≤ p1 ∧ p1 ≤ 2147483647) : mm_Met g l zy_needUnitAndCycle_1_33 zr_needUnitAndCycle_1_33 [.ref 1000, zi p0, zi p1] (zz_M S0 n) n (zz_XV n (zp_needUnitAndCycle_1_33 p0 p1 S0) (zx_needUnitAndCycle_1_33 p0 p1 S0)) := by
  refine zz_enter (by decide) (Nat.le_of_ble_eq_true rfl) (zz_less (ls1 := [some (.ref 1000), some (zi p0), some (zi p1)]) ⟨rfl, ⟨rfl, ⟨rfl, trivial⟩⟩⟩ ?_)
  refine zz_iload_n (x := p0) rfl zd_1_33_0 ?_
  refine zz_if_lt (by omega) zd_1_33_1 (fun c1 => ?_) (fun c1 => ?_)
  · exact zz_throwW (i := 0) hfl hn zt_1_33_13 zyw_needUnitAndCycle_1_33 zxl_TF_87_338_91 (Nat.le_of_ble_eq_true rfl) (Nat.le_of_ble_eq_true rfl) ⟨Nat.le_of_ble_eq_true rfl, Nat.le_of_ble_eq_true rfl⟩ (Or.inr ⟨_, _, rfl, rfl, by omega, by omega⟩)
  · refine zz_iload_n (x := p0) rfl zd_1_33_4 ?_
    refine zz_iconst zd_1_33_5 ?_
    refine zz_icmp_ge (by omega) (by omega) zd_1_33_6 (fun c2 => ?_) (fun c2 => ?_)
    · exact zz_throwW (i := 0) hfl hn zt_1_33_13 zyw_needUnitAndCycle_1_33 zxl_TF_87_338_91 (Nat.le_of_ble_eq_true rfl) (Nat.le_of_ble_eq_true rfl) ⟨Nat.le_of_ble_eq_true rfl, Nat.le_of_ble_eq_true rfl⟩ (Or.inr ⟨_, _, rfl, rfl, by omega, by omega⟩)
    · refine zz_iload_n (x := p1) rfl zd_1_33_9 ?_
      refine zz_if_ge (by omega) zd_1_33_10 (fun c3 => ?_) (fun c3 => ?_)
      · exact zz_vret zd_1_33_24 rfl (Nat.le_of_ble_eq_true rfl) (Nat.le_of_ble_eq_true rfl) (Or.inl ⟨_, rfl, rfl⟩)
      · exact zz_throwW (i := 0) hfl hn zt_1_33_13 zyw_needUnitAndCycle_1_33 zxl_TF_87_338_91 (Nat.le_of_ble_eq_true rfl) (Nat.le_of_ble_eq_true rfl) ⟨Nat.le_of_ble_eq_true rfl, Nat.le_of_ble_eq_true rfl⟩ (Or.inr ⟨_, _, rfl, rfl, by omega, by omega⟩)
theorem zk_TF_317 : mm_Vl "TensorForge" 317 0 2 zy_needUnitAndCycle_1_33 := ⟨zyw_needUnitAndCycle_1_33, (R_TF, F_TF, 12), rfl, mm_tb_1 1541 (by decide +kernel) rfl, mm_tb_1 1543 (by decide +kernel) rfl, mm_tb_s 79 (by decide +kernel) rfl⟩
theorem zd_1_28_10 : zz_D zy_under_1_28 10 (.aload_n 0) 1 11 := ⟨by decide +kernel, rfl⟩
theorem zd_1_28_11 : zz_D zy_under_1_28 11 (.getfield 42) 3 14 := ⟨by decide +kernel, rfl⟩
theorem zd_1_28_14 : zz_D zy_under_1_28 14 (.iload_n 1) 1 15 := ⟨by decide +kernel, rfl⟩
theorem zd_1_28_15 : zz_D zy_under_1_28 15 (.iload_n 2) 1 16 := ⟨by decide +kernel, rfl⟩
theorem zd_1_28_16 : zz_D zy_under_1_28 16 (.invokevirtual 320) 3 19 := ⟨by decide +kernel, rfl⟩
abbrev zy_underWayAt_10_24 : mm_Y := (⟨"TensorForge$Run", "underWayAt", "(II)I"⟩, prog_10_method_24_code, 4, (some .int))
theorem zyw_underWayAt_10_24 : mm_Yw zy_underWayAt_10_24 2 := ⟨mm_tb_1 1549 (by decide +kernel) rfl, mm_tb_1 6 (by decide +kernel) rfl, ⟨by decide, by decide⟩, by decide +kernel⟩
theorem zd_10_24_0 : zz_D zy_underWayAt_10_24 0 (.iconst 0) 1 1 := ⟨by decide +kernel, rfl⟩
theorem zd_10_24_1 : zz_D zy_underWayAt_10_24 1 (.istore_n 3) 1 2 := ⟨by decide +kernel, rfl⟩
theorem zd_10_24_2 : zz_D zy_underWayAt_10_24 2 (.iload_n 3) 1 3 := ⟨by decide +kernel, rfl⟩
theorem zd_10_24_3 : zz_D zy_underWayAt_10_24 3 (.aload_n 0) 1 4 := ⟨by decide +kernel, rfl⟩
theorem zd_10_24_4 : zz_D zy_underWayAt_10_24 4 (.getfield 46) 3 7 := ⟨by decide +kernel, rfl⟩
theorem zd_10_24_7 : zz_B zy_underWayAt_10_24 7 (Instr.if_icmp .ge) 49 10 := ⟨42, by decide +kernel, rfl, rfl⟩
theorem zd_10_24_49 : zz_D zy_underWayAt_10_24 49 (.iconst (-1)) 1 50 := ⟨by decide +kernel, rfl⟩
theorem zd_10_24_50 : zz_D zy_underWayAt_10_24 50 (.ireturn) 1 51 := ⟨by decide +kernel, rfl⟩
theorem zd_10_24_10 : zz_D zy_underWayAt_10_24 10 (.aload_n 0) 1 11 := ⟨by decide +kernel, rfl⟩
theorem zd_10_24_11 : zz_D zy_underWayAt_10_24 11 (.getfield 19) 3 14 := ⟨by decide +kernel, rfl⟩
theorem zd_10_24_14 : zz_D zy_underWayAt_10_24 14 (.iload_n 3) 1 15 := ⟨by decide +kernel, rfl⟩
theorem zd_10_24_15 : zz_D zy_underWayAt_10_24 15 (.laload) 1 16 := ⟨by decide +kernel, rfl⟩
theorem zd_10_24_16 : zz_D zy_underWayAt_10_24 16 (.invokestatic 107) 3 19 := ⟨by decide +kernel, rfl⟩
theorem zd_10_24_19 : zz_D zy_underWayAt_10_24 19 (.iload_n 1) 1 20 := ⟨by decide +kernel, rfl⟩
theorem zd_10_24_20 : zz_B zy_underWayAt_10_24 20 (Instr.if_icmp .ne) 43 23 := ⟨23, by decide +kernel, rfl, rfl⟩
theorem zd_10_24_43 : zz_D zy_underWayAt_10_24 43 (.iinc 3 1) 3 46 := ⟨by decide +kernel, rfl⟩
theorem zd_10_24_46 : zz_B zy_underWayAt_10_24 46 Instr.goto 2 49 := ⟨(-44), by decide +kernel, rfl, rfl⟩
theorem zd_10_24_23 : zz_D zy_underWayAt_10_24 23 (.aload_n 0) 1 24 := ⟨by decide +kernel, rfl⟩
theorem zd_10_24_24 : zz_D zy_underWayAt_10_24 24 (.iload_n 3) 1 25 := ⟨by decide +kernel, rfl⟩
theorem zd_10_24_25 : zz_D zy_underWayAt_10_24 25 (.iload_n 2) 1 26 := ⟨by decide +kernel, rfl⟩
theorem zd_10_24_26 : zz_D zy_underWayAt_10_24 26 (.invokevirtual 176) 3 29 := ⟨by decide +kernel, rfl⟩
abbrev zy_hadBegun_10_22 : mm_Y := (⟨"TensorForge$Run", "hadBegun", "(II)Z"⟩, prog_10_method_22_code, 3, (some .boolean))
theorem zyw_hadBegun_10_22 : mm_Yw zy_hadBegun_10_22 2 := ⟨mm_tb_1 1553 (by decide +kernel) rfl, mm_tb_1 6 (by decide +kernel) rfl, ⟨by decide, by decide⟩, by decide +kernel⟩
theorem zd_10_22_0 : zz_D zy_hadBegun_10_22 0 (.aload_n 0) 1 1 := ⟨by decide +kernel, rfl⟩
theorem zd_10_22_1 : zz_D zy_hadBegun_10_22 1 (.getfield 23) 3 4 := ⟨by decide +kernel, rfl⟩
theorem zd_10_22_4 : zz_D zy_hadBegun_10_22 4 (.iload_n 1) 1 5 := ⟨by decide +kernel, rfl⟩
theorem zd_10_22_5 : zz_D zy_hadBegun_10_22 5 (.iaload) 1 6 := ⟨by decide +kernel, rfl⟩
theorem zd_10_22_6 : zz_D zy_hadBegun_10_22 6 (.iconst (-1)) 1 7 := ⟨by decide +kernel, rfl⟩
theorem zd_10_22_7 : zz_B zy_hadBegun_10_22 7 (Instr.if_icmp .eq) 24 10 := ⟨17, by decide +kernel, rfl, rfl⟩
theorem zd_10_22_24 : zz_D zy_hadBegun_10_22 24 (.iconst 0) 1 25 := ⟨by decide +kernel, rfl⟩
theorem zd_10_22_25 : zz_D zy_hadBegun_10_22 25 (.ireturn) 1 26 := ⟨by decide +kernel, rfl⟩
theorem zd_10_22_10 : zz_D zy_hadBegun_10_22 10 (.aload_n 0) 1 11 := ⟨by decide +kernel, rfl⟩
theorem zd_10_22_11 : zz_D zy_hadBegun_10_22 11 (.getfield 23) 3 14 := ⟨by decide +kernel, rfl⟩
theorem zd_10_22_14 : zz_D zy_hadBegun_10_22 14 (.iload_n 1) 1 15 := ⟨by decide +kernel, rfl⟩
theorem zd_10_22_15 : zz_D zy_hadBegun_10_22 15 (.iaload) 1 16 := ⟨by decide +kernel, rfl⟩
theorem zd_10_22_16 : zz_D zy_hadBegun_10_22 16 (.iload_n 2) 1 17 := ⟨by decide +kernel, rfl⟩
theorem zd_10_22_17 : zz_B zy_hadBegun_10_22 17 (Instr.if_icmp .gt) 24 20 := ⟨7, by decide +kernel, rfl, rfl⟩
theorem zd_10_22_20 : zz_D zy_hadBegun_10_22 20 (.iconst 1) 1 21 := ⟨by decide +kernel, rfl⟩
theorem zd_10_22_21 : zz_B zy_hadBegun_10_22 21 Instr.goto 25 24 := ⟨4, by decide +kernel, rfl, rfl⟩
-- TensorForge$Run hadBegun (II)Z
abbrev zr_hadBegun_10_22 : Room := { frames := 0, cells := 0, slots := 0, locals := 0 }
def zp_hadBegun_10_22 (p0 : Int) (p1 : Int) (S0 : zz_S) : Int → zz_S → Prop := fun r S => S0 = S ∧ (0 ≤ r ∧ r ≤ 1)
theorem zc_hadBegun_10_22 {g : mm_G} {l : Launch} (p0 : Int) (p1 : Int) (S0 : zz_S) (n : Nat) (hn : zz_end ≤ n) (G_S0 : zz_G S0) (hp0 : 0 ≤ p0 ∧ p0 ≤ 599) (hp1 : (-2147483648) ≤ p1 ∧ p1 ≤ 2147483647) : mm_Met g l zy_hadBegun_10_22 zr_hadBegun_10_22 [.ref 1042, zi p0, zi p1] (zz_M S0 n) n (zz_QI n (zp_hadBegun_10_22 p0 p1 S0)) := by
  refine zz_enter (by decide) (Nat.le_of_ble_eq_true rfl) (zz_less (ls1 := [some (.ref 1042), some (zi p0), some (zi p1)]) ⟨rfl, ⟨rfl, ⟨rfl, trivial⟩⟩⟩ ?_)
  refine zz_aload_n (x := 1042) rfl zd_10_22_0 ?_
  refine zz_getr (kd := 0) (z := 1045) zd_10_22_1 zf_Run_23 zT_1042 rfl (zz_ltn hn rfl) (zz_G.eq G_S0 1042 3 1045 rfl rfl) (by decide) 1045 rfl ?_
  refine zz_iload_n (x := p0) rfl zd_10_22_4 ?_
  have g1 := zz_G.r G_S0 1045 p0.toNat (-2147483648) 2147483647 rfl rfl
  refine zz_iald (z := S0 1045 p0.toNat) zd_10_22_5 zT_1045 rfl (zz_ltn hn rfl) (by decide) (by omega) rfl ?_
  refine zz_iconst zd_10_22_6 ?_
  refine zz_icmp_eq (by omega) (by omega) zd_10_22_7 (fun c2 => ?_) (fun c2 => ?_)
  · refine zz_iconst zd_10_22_24 ?_
    exact zz_zret zd_10_22_25 rfl (by omega) (Nat.zero_le _) (Nat.zero_le _) ⟨_, _, rfl, rfl, by omega⟩
  · refine zz_aload_n (x := 1042) rfl zd_10_22_10 ?_
    refine zz_getr (kd := 0) (z := 1045) zd_10_22_11 zf_Run_23 zT_1042 rfl (zz_ltn hn rfl) (zz_G.eq G_S0 1042 3 1045 rfl rfl) (by decide) 1045 rfl ?_
    refine zz_iload_n (x := p0) rfl zd_10_22_14 ?_
    refine zz_iald (z := S0 1045 p0.toNat) zd_10_22_15 zT_1045 rfl (zz_ltn hn rfl) (by decide) (by omega) rfl ?_
    refine zz_iload_n (x := p1) rfl zd_10_22_16 ?_
    refine zz_icmp_gt (by omega) (by omega) zd_10_22_17 (fun c3 => ?_) (fun c3 => ?_)
    · refine zz_iconst zd_10_22_24 ?_
      exact zz_zret zd_10_22_25 rfl (by omega) (Nat.zero_le _) (Nat.zero_le _) ⟨_, _, rfl, rfl, by omega⟩
    · refine zz_iconst zd_10_22_20 ?_
      refine zz_goto zd_10_22_21 ?_
      exact zz_zret zd_10_22_25 rfl (by omega) (Nat.zero_le _) (Nat.zero_le _) ⟨_, _, rfl, rfl, by omega⟩
theorem zk_Run_176 : mm_Vl "TensorForge$Run" 176 5 2 zy_hadBegun_10_22 := ⟨zyw_hadBegun_10_22, (R_Run, F_Run, 10), rfl, mm_tb_1 1550 (by decide +kernel) rfl, mm_tb_1 1552 (by decide +kernel) rfl, mm_tb_s 80 (by decide +kernel) rfl⟩
theorem zd_10_24_29 : zz_B zy_underWayAt_10_24 29 (Instr.ifCond .eq) 43 32 := ⟨14, by decide +kernel, rfl, rfl⟩
theorem zd_10_24_32 : zz_D zy_underWayAt_10_24 32 (.aload_n 0) 1 33 := ⟨by decide +kernel, rfl⟩
theorem zd_10_24_33 : zz_D zy_underWayAt_10_24 33 (.iload_n 3) 1 34 := ⟨by decide +kernel, rfl⟩
theorem zd_10_24_34 : zz_D zy_underWayAt_10_24 34 (.iload_n 2) 1 35 := ⟨by decide +kernel, rfl⟩
theorem zd_10_24_35 : zz_D zy_underWayAt_10_24 35 (.invokevirtual 180) 3 38 := ⟨by decide +kernel, rfl⟩
abbrev zy_hadEnded_10_23 : mm_Y := (⟨"TensorForge$Run", "hadEnded", "(II)Z"⟩, prog_10_method_23_code, 3, (some .boolean))
theorem zyw_hadEnded_10_23 : mm_Yw zy_hadEnded_10_23 2 := ⟨mm_tb_1 1557 (by decide +kernel) rfl, mm_tb_1 6 (by decide +kernel) rfl, ⟨by decide, by decide⟩, by decide +kernel⟩
theorem zd_10_23_0 : zz_D zy_hadEnded_10_23 0 (.aload_n 0) 1 1 := ⟨by decide +kernel, rfl⟩
theorem zd_10_23_1 : zz_D zy_hadEnded_10_23 1 (.getfield 26) 3 4 := ⟨by decide +kernel, rfl⟩
theorem zd_10_23_4 : zz_D zy_hadEnded_10_23 4 (.iload_n 1) 1 5 := ⟨by decide +kernel, rfl⟩
theorem zd_10_23_5 : zz_D zy_hadEnded_10_23 5 (.iaload) 1 6 := ⟨by decide +kernel, rfl⟩
theorem zd_10_23_6 : zz_D zy_hadEnded_10_23 6 (.iconst (-1)) 1 7 := ⟨by decide +kernel, rfl⟩
theorem zd_10_23_7 : zz_B zy_hadEnded_10_23 7 (Instr.if_icmp .eq) 24 10 := ⟨17, by decide +kernel, rfl, rfl⟩
theorem zd_10_23_24 : zz_D zy_hadEnded_10_23 24 (.iconst 0) 1 25 := ⟨by decide +kernel, rfl⟩
theorem zd_10_23_25 : zz_D zy_hadEnded_10_23 25 (.ireturn) 1 26 := ⟨by decide +kernel, rfl⟩
theorem zd_10_23_10 : zz_D zy_hadEnded_10_23 10 (.aload_n 0) 1 11 := ⟨by decide +kernel, rfl⟩
theorem zd_10_23_11 : zz_D zy_hadEnded_10_23 11 (.getfield 26) 3 14 := ⟨by decide +kernel, rfl⟩
theorem zd_10_23_14 : zz_D zy_hadEnded_10_23 14 (.iload_n 1) 1 15 := ⟨by decide +kernel, rfl⟩
theorem zd_10_23_15 : zz_D zy_hadEnded_10_23 15 (.iaload) 1 16 := ⟨by decide +kernel, rfl⟩
theorem zd_10_23_16 : zz_D zy_hadEnded_10_23 16 (.iload_n 2) 1 17 := ⟨by decide +kernel, rfl⟩
theorem zd_10_23_17 : zz_B zy_hadEnded_10_23 17 (Instr.if_icmp .gt) 24 20 := ⟨7, by decide +kernel, rfl, rfl⟩
theorem zd_10_23_20 : zz_D zy_hadEnded_10_23 20 (.iconst 1) 1 21 := ⟨by decide +kernel, rfl⟩
theorem zd_10_23_21 : zz_B zy_hadEnded_10_23 21 Instr.goto 25 24 := ⟨4, by decide +kernel, rfl, rfl⟩
-- TensorForge$Run hadEnded (II)Z
abbrev zr_hadEnded_10_23 : Room := { frames := 0, cells := 0, slots := 0, locals := 0 }
def zp_hadEnded_10_23 (p0 : Int) (p1 : Int) (S0 : zz_S) : Int → zz_S → Prop := fun r S => S0 = S ∧ (0 ≤ r ∧ r ≤ 1)
theorem zc_hadEnded_10_23 {g : mm_G} {l : Launch} (p0 : Int) (p1 : Int) (S0 : zz_S) (n : Nat) (hn : zz_end ≤ n) (G_S0 : zz_G S0) (hp0 : 0 ≤ p0 ∧ p0 ≤ 599) (hp1 : (-2147483648) ≤ p1 ∧ p1 ≤ 2147483647) : mm_Met g l zy_hadEnded_10_23 zr_hadEnded_10_23 [.ref 1042, zi p0, zi p1] (zz_M S0 n) n (zz_QI n (zp_hadEnded_10_23 p0 p1 S0)) := by
  refine zz_enter (by decide) (Nat.le_of_ble_eq_true rfl) (zz_less (ls1 := [some (.ref 1042), some (zi p0), some (zi p1)]) ⟨rfl, ⟨rfl, ⟨rfl, trivial⟩⟩⟩ ?_)
  refine zz_aload_n (x := 1042) rfl zd_10_23_0 ?_
  refine zz_getr (kd := 0) (z := 1046) zd_10_23_1 zf_Run_26 zT_1042 rfl (zz_ltn hn rfl) (zz_G.eq G_S0 1042 4 1046 rfl rfl) (by decide) 1046 rfl ?_
  refine zz_iload_n (x := p0) rfl zd_10_23_4 ?_
  have g1 := zz_G.r G_S0 1046 p0.toNat (-2147483648) 2147483647 rfl rfl
  refine zz_iald (z := S0 1046 p0.toNat) zd_10_23_5 zT_1046 rfl (zz_ltn hn rfl) (by decide) (by omega) rfl ?_
  refine zz_iconst zd_10_23_6 ?_
  refine zz_icmp_eq (by omega) (by omega) zd_10_23_7 (fun c2 => ?_) (fun c2 => ?_)
  · refine zz_iconst zd_10_23_24 ?_
    exact zz_zret zd_10_23_25 rfl (by omega) (Nat.zero_le _) (Nat.zero_le _) ⟨_, _, rfl, rfl, by omega⟩
  · refine zz_aload_n (x := 1042) rfl zd_10_23_10 ?_
    refine zz_getr (kd := 0) (z := 1046) zd_10_23_11 zf_Run_26 zT_1042 rfl (zz_ltn hn rfl) (zz_G.eq G_S0 1042 4 1046 rfl rfl) (by decide) 1046 rfl ?_
    refine zz_iload_n (x := p0) rfl zd_10_23_14 ?_
    refine zz_iald (z := S0 1046 p0.toNat) zd_10_23_15 zT_1046 rfl (zz_ltn hn rfl) (by decide) (by omega) rfl ?_
    refine zz_iload_n (x := p1) rfl zd_10_23_16 ?_
    refine zz_icmp_gt (by omega) (by omega) zd_10_23_17 (fun c3 => ?_) (fun c3 => ?_)
    · refine zz_iconst zd_10_23_24 ?_
      exact zz_zret zd_10_23_25 rfl (by omega) (Nat.zero_le _) (Nat.zero_le _) ⟨_, _, rfl, rfl, by omega⟩
    · refine zz_iconst zd_10_23_20 ?_
      refine zz_goto zd_10_23_21 ?_
      exact zz_zret zd_10_23_25 rfl (by omega) (Nat.zero_le _) (Nat.zero_le _) ⟨_, _, rfl, rfl, by omega⟩
theorem zk_Run_180 : mm_Vl "TensorForge$Run" 180 5 2 zy_hadEnded_10_23 := ⟨zyw_hadEnded_10_23, (R_Run, F_Run, 10), rfl, mm_tb_1 1554 (by decide +kernel) rfl, mm_tb_1 1556 (by decide +kernel) rfl, mm_tb_s 81 (by decide +kernel) rfl⟩
theorem zd_10_24_38 : zz_B zy_underWayAt_10_24 38 (Instr.ifCond .ne) 43 41 := ⟨5, by decide +kernel, rfl, rfl⟩
theorem zd_10_24_41 : zz_D zy_underWayAt_10_24 41 (.iload_n 3) 1 42 := ⟨by decide +kernel, rfl⟩
theorem zd_10_24_42 : zz_D zy_underWayAt_10_24 42 (.ireturn) 1 43 := ⟨by decide +kernel, rfl⟩
-- TensorForge$Run underWayAt (II)I
abbrev zr_underWayAt_10_24 : Room := { frames := 2, cells := 0, slots := 0, locals := 28 }
def zp_underWayAt_10_24 (p0 : Int) (p1 : Int) (S0 : zz_S) : Int → zz_S → Prop := fun r S => S0 = S ∧ ((-1) ≤ r ∧ r ≤ 599)
theorem zb_underWayAt_10_24_2 {g : mm_G} {l : Launch} (p0 : Int) (p1 : Int) (S0 : zz_S) (n : Nat) (hn : zz_end ≤ n) (G_S0 : zz_G S0) (hp0 : (-2147483648) ≤ p0 ∧ p0 ≤ 2147483647) (hp1 : (-2147483648) ≤ p1 ∧ p1 ≤ 2147483647) (x3 : Int) (S : zz_S) (G_S : zz_G S) (F_S : zz_fr [] [] (fun _ _ => False) S0 S) (i2_0 : 0 ≤ x3 ∧ x3 ≤ 600) (R : Nat) (hR : (S0 1042 9 - x3).toNat = R) (k2 : ∀ (x3 : Int) (S : zz_S), zz_G S → zz_fr [] [] (fun _ _ => False) S0 S → (0 ≤ x3 ∧ x3 ≤ 600) → (S0 1042 9 - x3).toNat < R → zz_E g l zy_underWayAt_10_24 zr_underWayAt_10_24 (zz_QI n (zp_underWayAt_10_24 p0 p1 S0)) S n 2 [some (.ref 1042), some (zi p0), some (zi p1), some (zi x3)] [] 0 0) : zz_E g l zy_underWayAt_10_24 zr_underWayAt_10_24 (zz_QI n (zp_underWayAt_10_24 p0 p1 S0)) S n 2 [some (.ref 1042), some (zi p0), some (zi p1), some (zi x3)] [] 0 0 := by
  refine zz_iload_n (x := x3) rfl zd_10_24_2 ?_
  refine zz_aload_n (x := 1042) rfl zd_10_24_3 ?_
  have g2 := zz_G.r G_S0 1042 9 0 600 rfl rfl
  refine zz_geti (z := S0 1042 9) zd_10_24_4 zf_Run_46 zT_1042 rfl (zz_ltn hn rfl) (zz_rc F_S rfl rfl (fun h => h) rfl) ?_
  refine zz_icmp_ge (by omega) (by omega) zd_10_24_7 (fun c3 => ?_) (fun c3 => ?_)
  · refine zz_iconst zd_10_24_49 ?_
    exact zz_iret zd_10_24_50 rfl (Nat.zero_le _) (Nat.zero_le _) ⟨_, _, rfl, zz_fr.eq F_S, by omega⟩
  · refine zz_aload_n (x := 1042) rfl zd_10_24_10 ?_
    refine zz_getr (kd := 0) (z := 1044) zd_10_24_11 zf_Run_19 zT_1042 rfl (zz_ltn hn rfl) (zz_G.eq G_S 1042 2 1044 rfl rfl) (by decide) 1044 rfl ?_
    refine zz_iload_n (x := x3) rfl zd_10_24_14 ?_
    have g4 := zz_G.r G_S0 1044 x3.toNat (-9223372036854775808) 9223372036854775807 rfl rfl
    refine zz_lald (z := S0 1044 x3.toNat) zd_10_24_15 zT_1044 rfl (zz_ltn hn rfl) (by decide) (by omega) (zz_rc F_S (zz_nc1 rfl) rfl (fun h => h) rfl) ?_
    refine zz_callSI [zl (S0 1044 x3.toNat)] zd_10_24_16 zk_Run_107 rfl rfl ⟨Nat.le_of_ble_eq_true rfl, Nat.le_of_ble_eq_true rfl⟩ ⟨rfl, rfl⟩ (Nat.zero_le _) (Nat.zero_le _) (zc_unitOf_12_10 (S0 1044 x3.toNat) S n hn G_S (by omega)) (fun v6 S5 hP => ?_)
    obtain ⟨rfl, o7⟩ := hP
    refine zz_iload_n (x := p0) rfl zd_10_24_19 ?_
    refine zz_icmp_ne (by omega) (by omega) zd_10_24_20 (fun c8 => ?_) (fun c8 => ?_)
    · refine zz_iinc [some (.ref 1042), some (zi p0), some (zi p1), some (zi (x3 + 1))] zd_10_24_43 rfl rfl ?_
      refine zz_goto zd_10_24_46 ?_
      refine zz_less (ls1 := [some (.ref 1042), some (zi p0), some (zi p1), some (zi (x3 + 1))]) ⟨rfl, ⟨rfl, ⟨rfl, ⟨rfl, trivial⟩⟩⟩⟩ ?_
      exact k2 (x3 + 1) S G_S F_S (by omega) (by omega)
    · refine zz_aload_n (x := 1042) rfl zd_10_24_23 ?_
      refine zz_iload_n (x := x3) rfl zd_10_24_24 ?_
      refine zz_iload_n (x := p1) rfl zd_10_24_25 ?_
      refine zz_callVI [zi x3, zi p1] zd_10_24_26 zk_Run_176 zT_1042 (zz_ltn hn rfl) rfl rfl ⟨Nat.le_of_ble_eq_true rfl, Nat.le_of_ble_eq_true rfl⟩ ⟨rfl, rfl⟩ (Nat.zero_le _) (Nat.zero_le _) (zc_hadBegun_10_22 x3 p1 S n hn G_S (by omega) (by omega)) (fun v10 S9 hP => ?_)
      obtain ⟨rfl, o11⟩ := hP
      rcases (by omega : v10 = 0 ∨ v10 = 1) with rfl | rfl
      · refine zz_if_eq (by omega) zd_10_24_29 (fun c12 => ?_) (fun c12 => ?_)
        · refine zz_iinc [some (.ref 1042), some (zi p0), some (zi p1), some (zi (x3 + 1))] zd_10_24_43 rfl rfl ?_
          refine zz_goto zd_10_24_46 ?_
          refine zz_less (ls1 := [some (.ref 1042), some (zi p0), some (zi p1), some (zi (x3 + 1))]) ⟨rfl, ⟨rfl, ⟨rfl, ⟨rfl, trivial⟩⟩⟩⟩ ?_
          exact k2 (x3 + 1) S G_S F_S (by omega) (by omega)
        · exfalso; omega
      · refine zz_if_eq (by omega) zd_10_24_29 (fun c13 => ?_) (fun c13 => ?_)
        · exfalso; omega
        · refine zz_aload_n (x := 1042) rfl zd_10_24_32 ?_
          refine zz_iload_n (x := x3) rfl zd_10_24_33 ?_
          refine zz_iload_n (x := p1) rfl zd_10_24_34 ?_
          refine zz_callVI [zi x3, zi p1] zd_10_24_35 zk_Run_180 zT_1042 (zz_ltn hn rfl) rfl rfl ⟨Nat.le_of_ble_eq_true rfl, Nat.le_of_ble_eq_true rfl⟩ ⟨rfl, rfl⟩ (Nat.zero_le _) (Nat.zero_le _) (zc_hadEnded_10_23 x3 p1 S n hn G_S (by omega) (by omega)) (fun v15 S14 hP => ?_)
          obtain ⟨rfl, o16⟩ := hP
          rcases (by omega : v15 = 0 ∨ v15 = 1) with rfl | rfl
          · refine zz_if_ne (by omega) zd_10_24_38 (fun c17 => ?_) (fun c17 => ?_)
            · exfalso; omega
            · refine zz_iload_n (x := x3) rfl zd_10_24_41 ?_
              exact zz_iret zd_10_24_42 rfl (Nat.zero_le _) (Nat.zero_le _) ⟨_, _, rfl, zz_fr.eq F_S, by omega⟩
          · refine zz_if_ne (by omega) zd_10_24_38 (fun c18 => ?_) (fun c18 => ?_)
            · refine zz_iinc [some (.ref 1042), some (zi p0), some (zi p1), some (zi (x3 + 1))] zd_10_24_43 rfl rfl ?_
              refine zz_goto zd_10_24_46 ?_
              refine zz_less (ls1 := [some (.ref 1042), some (zi p0), some (zi p1), some (zi (x3 + 1))]) ⟨rfl, ⟨rfl, ⟨rfl, ⟨rfl, trivial⟩⟩⟩⟩ ?_
              exact k2 (x3 + 1) S G_S F_S (by omega) (by omega)
            · exfalso; omega
theorem zi_underWayAt_10_24 {g : mm_G} {l : Launch} (p0 : Int) (p1 : Int) (S0 : zz_S) (n : Nat) (hn : zz_end ≤ n) (G_S0 : zz_G S0) (hp0 : (-2147483648) ≤ p0 ∧ p0 ≤ 2147483647) (hp1 : (-2147483648) ≤ p1 ∧ p1 ≤ 2147483647) : ∀ N : Nat, (∀ (x3 : Int) (S : zz_S), zz_G S → zz_fr [] [] (fun _ _ => False) S0 S → (0 ≤ x3 ∧ x3 ≤ 600) → (S0 1042 9 - x3).toNat < N → zz_E g l zy_underWayAt_10_24 zr_underWayAt_10_24 (zz_QI n (zp_underWayAt_10_24 p0 p1 S0)) S n 2 [some (.ref 1042), some (zi p0), some (zi p1), some (zi x3)] [] 0 0) := by
  intro N
  induction N with
  | zero => exact fun x3 S _ _ _ h => absurd h (Nat.not_lt_zero _)
  | succ N ih =>
    exact fun x3 S a b j0 hR => zb_underWayAt_10_24_2 p0 p1 S0 n hn G_S0 hp0 hp1 x3 S a b j0 _ rfl (fun x3 S a b j0 h => ih x3 S a b j0 (Nat.lt_of_lt_of_le h (Nat.le_of_lt_succ hR)))
theorem zc_underWayAt_10_24 {g : mm_G} {l : Launch} (p0 : Int) (p1 : Int) (S0 : zz_S) (n : Nat) (hn : zz_end ≤ n) (G_S0 : zz_G S0) (hp0 : (-2147483648) ≤ p0 ∧ p0 ≤ 2147483647) (hp1 : (-2147483648) ≤ p1 ∧ p1 ≤ 2147483647) : mm_Met g l zy_underWayAt_10_24 zr_underWayAt_10_24 [.ref 1042, zi p0, zi p1] (zz_M S0 n) n (zz_QI n (zp_underWayAt_10_24 p0 p1 S0)) := by
  refine zz_enter (by decide) (Nat.le_of_ble_eq_true rfl) (zz_less (ls1 := [some (.ref 1042), some (zi p0), some (zi p1)]) ⟨rfl, ⟨rfl, ⟨rfl, trivial⟩⟩⟩ ?_)
  have F_S0 : zz_fr [] [] (fun _ _ => False) S0 S0 := zz_fr.refl
  have k2 : ∀ (x3 : Int) (S : zz_S), zz_G S → zz_fr [] [] (fun _ _ => False) S0 S → (0 ≤ x3 ∧ x3 ≤ 600) → zz_E g l zy_underWayAt_10_24 zr_underWayAt_10_24 (zz_QI n (zp_underWayAt_10_24 p0 p1 S0)) S n 2 [some (.ref 1042), some (zi p0), some (zi p1), some (zi x3)] [] 0 0 := fun x3 S a b j0 => (zi_underWayAt_10_24 (g := g) (l := l) p0 p1 S0 n hn G_S0 hp0 hp1 _) x3 S a b j0 (Nat.lt_succ_self _)
  refine zz_iconst zd_10_24_0 ?_
  refine zz_istore_n [some (.ref 1042), some (zi p0), some (zi p1), some (zi 0)] zd_10_24_1 (by decide) rfl ?_
  have g1 := zz_G.r G_S0 1042 9 0 600 rfl rfl
  refine zz_less (ls1 := [some (.ref 1042), some (zi p0), some (zi p1), some (zi 0)]) ⟨rfl, ⟨rfl, ⟨rfl, ⟨rfl, trivial⟩⟩⟩⟩ ?_
  exact k2 0 S0 G_S0 F_S0 (by omega)
theorem zk_TF_320 : mm_Vl "TensorForge" 320 5 2 zy_underWayAt_10_24 := ⟨zyw_underWayAt_10_24, (R_Run, F_Run, 10), rfl, mm_tb_1 1546 (by decide +kernel) rfl, mm_tb_1 1547 (by decide +kernel) rfl, mm_tb_1 1548 (by decide +kernel) rfl⟩
theorem zd_1_28_19 : zz_D zy_under_1_28 19 (.ireturn) 1 20 := ⟨by decide +kernel, rfl⟩

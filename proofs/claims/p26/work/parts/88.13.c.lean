-- TensorForge$NetworkReader readOptions ()Z
abbrev zr_readOptions_8_7 : Room := { frames := 8, cells := 0, slots := 0, locals := 109 }
def zp_readOptions_8_7  (S0 : zz_S) : Int → zz_S → Prop := fun r S => zz_G S ∧ zz_fr [(1070, 3), (1070, 4), (1070, 5), (1070, 6), (1073, 4), (1073, 5), (1073, 8)] [1003, 1004, 1005, 1006, 1007, 1008, 1009, 1010, 1011, 1012, 1013, 1014, 1017, 1018, 1019, 1020, 1021, 1022, 1023, 1024, 1025, 1026, 1027, 1028] (fun _ _ => False) S0 S ∧ (0 ≤ r ∧ r ≤ 1) ∧ (∀ (N : Nat → Int) (K : Int), zt_NM (S0 1071) (S0 1074) (S0 1075) (S0 1070 1) N → S0 1070 2 ≤ S0 1070 1 → S0 1070 3 ≤ S0 1070 2 → 0 ≤ K ∧ K ≤ 3 → S0 1073 6 = zn_ma K → S0 1073 7 = zn_nd K → (K ≠ 0 → zn_D8 S0 (12 * (S0 1073 1) + S0 (zz_rf 3 (S0 1073 1)) 1) zn_o0) → (r = 1 ∧ (zt_no (zt_kn (S0 1071) (S0 1070 2)) (zt_te (S0 1071) (S0 1070 2)) (zt_tv (S0 1071) (S0 1070 2)) (zt_kc (S0 1071) (S0 1070 2)) (zn_al K) N 11 1600 ((zt_kn (S0 1071) (S0 1070 2)) (S0 1070 3)) ((zt_kc (S0 1071) (S0 1070 2)) (S0 1070 3)) ((zt_te (S0 1071) (S0 1070 2)) (S0 1070 3)) zn_o0) 0 = 1 ∧ zn_ne K (zt_no (zt_kn (S0 1071) (S0 1070 2)) (zt_te (S0 1071) (S0 1070 2)) (zt_tv (S0 1071) (S0 1070 2)) (zt_kc (S0 1071) (S0 1070 2)) (zn_al K) N 11 1600 ((zt_kn (S0 1071) (S0 1070 2)) (S0 1070 3)) ((zt_kc (S0 1071) (S0 1070 2)) (S0 1070 3)) ((zt_te (S0 1071) (S0 1070 2)) (S0 1070 3)) zn_o0) ∧ zn_DS K S (12 * (S0 1073 1) + S0 (zz_rf 3 (S0 1073 1)) 1) (S0 1071) (S0 1070 1) (zt_no (zt_kn (S0 1071) (S0 1070 2)) (zt_te (S0 1071) (S0 1070 2)) (zt_tv (S0 1071) (S0 1070 2)) (zt_kc (S0 1071) (S0 1070 2)) (zn_al K) N 11 1600 ((zt_kn (S0 1071) (S0 1070 2)) (S0 1070 3)) ((zt_kc (S0 1071) (S0 1070 2)) (S0 1070 3)) ((zt_te (S0 1071) (S0 1070 2)) (S0 1070 3)) zn_o0) ∧ S 1070 3 ≤ S0 1070 2) ∨ (r = 0 ∧ ¬ ((zt_no (zt_kn (S0 1071) (S0 1070 2)) (zt_te (S0 1071) (S0 1070 2)) (zt_tv (S0 1071) (S0 1070 2)) (zt_kc (S0 1071) (S0 1070 2)) (zn_al K) N 11 1600 ((zt_kn (S0 1071) (S0 1070 2)) (S0 1070 3)) ((zt_kc (S0 1071) (S0 1070 2)) (S0 1070 3)) ((zt_te (S0 1071) (S0 1070 2)) (S0 1070 3)) zn_o0) 0 = 1 ∧ zn_ne K (zt_no (zt_kn (S0 1071) (S0 1070 2)) (zt_te (S0 1071) (S0 1070 2)) (zt_tv (S0 1071) (S0 1070 2)) (zt_kc (S0 1071) (S0 1070 2)) (zn_al K) N 11 1600 ((zt_kn (S0 1071) (S0 1070 2)) (S0 1070 3)) ((zt_kc (S0 1071) (S0 1070 2)) (S0 1070 3)) ((zt_te (S0 1071) (S0 1070 2)) (S0 1070 3)) zn_o0)))) ∧ (∀ a i : Nat, 1001 ≤ a → a ≤ 1028 → a ≠ zz_rf 6 (12 * (S0 1073 1) + S0 (zz_rf 3 (S0 1073 1)) 1) → S a i = S0 a i) ∧ (∀ j : Nat, j ≤ 2 → S (zz_rf 6 (12 * (S0 1073 1) + S0 (zz_rf 3 (S0 1073 1)) 1)) j = S0 (zz_rf 6 (12 * (S0 1073 1) + S0 (zz_rf 3 (S0 1073 1)) 1)) j) ∧ (zz_Hc S)
theorem zb_readOptions_8_7_12 {g : mm_G} {l : Launch}  (S0 : zz_S) (n : Nat) (hn : zz_end ≤ n) (G_S0 : zz_G S0) (H_S0 : zz_Hc S0) (x1 : Int) (S : zz_S) (G_S : zz_G S) (F_S : zz_fr [(1070, 3), (1070, 4), (1070, 5), (1070, 6), (1073, 4), (1073, 5), (1073, 8)] [1003, 1004, 1005, 1006, 1007, 1008, 1009, 1010, 1011, 1012, 1013, 1014, 1017, 1018, 1019, 1020, 1021, 1022, 1023, 1024, 1025, 1026, 1027, 1028] (fun _ _ => False) S0 S) (i12_0 : 0 ≤ x1 ∧ x1 ≤ 1501) (i12_1 : x1 ≤ S 1070 3) (i12_2 : ∀ a i : Nat, 1001 ≤ a → a ≤ 1028 → a ≠ zz_rf 6 (12 * (S0 1073 1) + S0 (zz_rf 3 (S0 1073 1)) 1) → S a i = S0 a i) (i12_3 : ∀ (N : Nat → Int) (K : Int), zt_NM (S0 1071) (S0 1074) (S0 1075) (S0 1070 1) N → S0 1070 2 ≤ S0 1070 1 → S0 1070 3 ≤ S0 1070 2 → 0 ≤ K ∧ K ≤ 3 → S0 1073 6 = zn_ma K → S0 1073 7 = zn_nd K → (K ≠ 0 → zn_D8 S0 (12 * (S0 1073 1) + S0 (zz_rf 3 (S0 1073 1)) 1) zn_o0) → zn_IO (zt_kn (S0 1071) (S0 1070 2)) (zt_te (S0 1071) (S0 1070 2)) (zt_tv (S0 1071) (S0 1070 2)) (zt_kc (S0 1071) (S0 1070 2)) K N 11 (S 1073 8) (S 1070 3) (zn_DS K S (12 * (S0 1073 1) + S0 (zz_rf 3 (S0 1073 1)) 1) (S0 1071) (S0 1070 1)) (zt_no (zt_kn (S0 1071) (S0 1070 2)) (zt_te (S0 1071) (S0 1070 2)) (zt_tv (S0 1071) (S0 1070 2)) (zt_kc (S0 1071) (S0 1070 2)) (zn_al K) N 11 1600 ((zt_kn (S0 1071) (S0 1070 2)) (S0 1070 3)) ((zt_kc (S0 1071) (S0 1070 2)) (S0 1070 3)) ((zt_te (S0 1071) (S0 1070 2)) (S0 1070 3)) zn_o0) ∧ S 1070 3 ≤ S0 1070 2) (i12_4 : ∀ j : Nat, j ≤ 2 → S (zz_rf 6 (12 * (S0 1073 1) + S0 (zz_rf 3 (S0 1073 1)) 1)) j = S0 (zz_rf 6 (12 * (S0 1073 1) + S0 (zz_rf 3 (S0 1073 1)) 1)) j) (i12_5 : zz_Hc S) (R : Nat) (hR : (1500 + 1 - x1).toNat = R) (k12 : ∀ (x1 : Int) (S : zz_S), zz_G S → zz_fr [(1070, 3), (1070, 4), (1070, 5), (1070, 6), (1073, 4), (1073, 5), (1073, 8)] [1003, 1004, 1005, 1006, 1007, 1008, 1009, 1010, 1011, 1012, 1013, 1014, 1017, 1018, 1019, 1020, 1021, 1022, 1023, 1024, 1025, 1026, 1027, 1028] (fun _ _ => False) S0 S → (0 ≤ x1 ∧ x1 ≤ 1501) → (x1 ≤ S 1070 3) → (∀ a i : Nat, 1001 ≤ a → a ≤ 1028 → a ≠ zz_rf 6 (12 * (S0 1073 1) + S0 (zz_rf 3 (S0 1073 1)) 1) → S a i = S0 a i) → (∀ (N : Nat → Int) (K : Int), zt_NM (S0 1071) (S0 1074) (S0 1075) (S0 1070 1) N → S0 1070 2 ≤ S0 1070 1 → S0 1070 3 ≤ S0 1070 2 → 0 ≤ K ∧ K ≤ 3 → S0 1073 6 = zn_ma K → S0 1073 7 = zn_nd K → (K ≠ 0 → zn_D8 S0 (12 * (S0 1073 1) + S0 (zz_rf 3 (S0 1073 1)) 1) zn_o0) → zn_IO (zt_kn (S0 1071) (S0 1070 2)) (zt_te (S0 1071) (S0 1070 2)) (zt_tv (S0 1071) (S0 1070 2)) (zt_kc (S0 1071) (S0 1070 2)) K N 11 (S 1073 8) (S 1070 3) (zn_DS K S (12 * (S0 1073 1) + S0 (zz_rf 3 (S0 1073 1)) 1) (S0 1071) (S0 1070 1)) (zt_no (zt_kn (S0 1071) (S0 1070 2)) (zt_te (S0 1071) (S0 1070 2)) (zt_tv (S0 1071) (S0 1070 2)) (zt_kc (S0 1071) (S0 1070 2)) (zn_al K) N 11 1600 ((zt_kn (S0 1071) (S0 1070 2)) (S0 1070 3)) ((zt_kc (S0 1071) (S0 1070 2)) (S0 1070 3)) ((zt_te (S0 1071) (S0 1070 2)) (S0 1070 3)) zn_o0) ∧ S 1070 3 ≤ S0 1070 2) → (∀ j : Nat, j ≤ 2 → S (zz_rf 6 (12 * (S0 1073 1) + S0 (zz_rf 3 (S0 1073 1)) 1)) j = S0 (zz_rf 6 (12 * (S0 1073 1) + S0 (zz_rf 3 (S0 1073 1)) 1)) j) → (zz_Hc S) → (1500 + 1 - x1).toNat < R → zz_E g l zy_readOptions_8_7 zr_readOptions_8_7 (zz_QI n (zp_readOptions_8_7  S0)) S n 12 [some (.ref 1073), some (zi x1)] [] 0 0) : zz_E g l zy_readOptions_8_7 zr_readOptions_8_7 (zz_QI n (zp_readOptions_8_7  S0)) S n 12 [some (.ref 1073), some (zi x1)] [] 0 0 := by
  have H_S := i12_5
  have gz9 := zz_G.r G_S0 1073 1 0 1 rfl rfl
  have gt9 := zz_G.r G_S0 (zz_rf 3 (S0 1073 1)) 1 1 11 (zR_k3_1 (by omega)) (zB_k3 (by omega))
  refine zz_iload_n (x := x1) rfl zd_8_7_12 ?_
  refine zz_sipush (by decide) zd_8_7_13 ?_
  refine zz_icmp_gt (by omega) (by omega) zd_8_7_16 (fun c6 => ?_) (fun c6 => ?_)
  · refine zz_iconst zd_8_7_107 ?_
    have g7 := zz_G.r G_S 1070 3 0 1500 rfl rfl
    exact zz_zret zd_8_7_108 rfl (by omega) (Nat.zero_le _) (Nat.zero_le _) ⟨_, _, rfl, G_S, F_S, by omega, (fun N K hN hl1 hl2 hK hm hn h8 => by have i9 := i12_3 N K hN hl1 hl2 hK hm hn h8; exfalso; omega), (fun a i h1 h2 h3 => by have hz0_ := zz_rf6 (z := 12 * (S0 1073 1) + S0 (zz_rf 3 (S0 1073 1)) 1) (by omega); exact (i12_2 a i h1 h2 h3)), (fun j hj => by have hz_ := zz_rf6 (z := 12 * (S0 1073 1) + S0 (zz_rf 3 (S0 1073 1)) 1) (by omega); exact (i12_4 j hj)), H_S⟩
  · refine zz_aload_n (x := 1073) rfl zd_8_7_19 ?_
    refine zz_getr (kd := 0) (z := 1070) zd_8_7_20 zf_NetworkReader_9 zT_1073 rfl (zz_ltn hn rfl) (zz_G.eq G_S 1073 0 1070 rfl rfl) (by decide) 1070 rfl ?_
    have g8 := zz_G.r G_S0 1070 2 (-1) 1500 rfl rfl
    have e9 : S 1070 2 = S0 1070 2 := (zz_rc F_S rfl rfl (fun h => h) rfl)
    have g10 := zz_G.r G_S 1070 3 0 1500 rfl rfl
    have g11 := zz_G.r G_S 1070 4 (-2147483648) 2147483647 rfl rfl
    have g12 := zz_G.r G_S 1070 5 0 1500 rfl rfl
    have g13 := zz_G.r G_S 1070 6 (-2147483648) 2147483647 rfl rfl
    refine zz_callVV [] zd_8_7_23 zk_NetworkReader_59 zT_1070 (zz_ltn hn rfl) rfl rfl ⟨Nat.le_of_ble_eq_true rfl, Nat.le_of_ble_eq_true rfl⟩ ⟨rfl, rfl⟩ (Nat.zero_le _) (Nat.zero_le _) (zc_nextToken_11_7  S n hn G_S ) (fun S14 hP => ?_)
    obtain ⟨G_S14, fS14, o16, o17, o18, o19, o20, o21, o22, o23, o24⟩ := hP
    rw [show S 1071 = S0 1071 from funext (fun u => (zz_rc F_S (zz_nc1 rfl) rfl (fun h => h) rfl)), show S 1070 2 = S0 1070 2 from (zz_rc F_S rfl rfl (fun h => h) rfl)] at o16
    rw [show S 1071 = S0 1071 from funext (fun u => (zz_rc F_S (zz_nc1 rfl) rfl (fun h => h) rfl)), show S 1070 2 = S0 1070 2 from (zz_rc F_S rfl rfl (fun h => h) rfl)] at o17
    rw [show S 1071 = S0 1071 from funext (fun u => (zz_rc F_S (zz_nc1 rfl) rfl (fun h => h) rfl)), show S 1070 2 = S0 1070 2 from (zz_rc F_S rfl rfl (fun h => h) rfl)] at o18
    rw [show S 1070 2 = S0 1070 2 from (zz_rc F_S rfl rfl (fun h => h) rfl)] at o23
    rw [show S 1071 = S0 1071 from funext (fun u => (zz_rc F_S (zz_nc1 rfl) rfl (fun h => h) rfl)), show S 1070 2 = S0 1070 2 from (zz_rc F_S rfl rfl (fun h => h) rfl)] at o24
    have F_S14 := zz_fr.trans F_S fS14 rfl zz_nv
    have H_S14 : zz_Hc S14 := zz_Hc.fr (q := 0) fS14 rfl rfl G_S (by decide) rfl (fun b j h => h.elim) H_S
    have hT9 : S14 (zz_rf 3 (S0 1073 1)) 1 = S0 (zz_rf 3 (S0 1073 1)) 1 := by have h3_ := zz_rf3 (z := S0 1073 1) (by omega); have hz_ := zz_rf6 (z := 12 * (S0 1073 1) + S0 (zz_rf 3 (S0 1073 1)) 1) (by omega); exact (fS14 _ _ (zz_out1 rfl (by omega)) (zz_out2 rfl (by omega)) (fun h => by first | exact h | omega)).trans (i12_2 _ _ (by omega) (by omega) (by omega))
    refine zz_aload_n (x := 1073) rfl zd_8_7_26 ?_
    refine zz_getr (kd := 0) (z := 1070) zd_8_7_27 zf_NetworkReader_9 zT_1073 rfl (zz_ltn hn rfl) (zz_G.eq G_S14 1073 0 1070 rfl rfl) (by decide) 1070 rfl ?_
    have g25 := zz_G.r G_S14 1070 4 (-2147483648) 2147483647 rfl rfl
    refine zz_geti (z := S14 1070 4) zd_8_7_30 zf_NetworkReader_62 zT_1070 rfl (zz_ltn hn rfl) rfl ?_
    refine zz_if_ne (by omega) zd_8_7_33 (fun c26 => ?_) (fun c26 => ?_)
    · refine zz_aload_n (x := 1073) rfl zd_8_7_58 ?_
      have g27 := zz_G.r G_S14 1070 3 0 1500 rfl rfl
      have g28 := zz_G.r G_S14 1070 5 0 1500 rfl rfl
      refine zz_callVI [] zd_8_7_59 zk_NetworkReader_135 zT_1073 (zz_ltn hn rfl) rfl rfl ⟨Nat.le_of_ble_eq_true rfl, Nat.le_of_ble_eq_true rfl⟩ ⟨rfl, rfl⟩ (Nat.zero_le _) (Nat.zero_le _) (zc_optionTold_8_8  S14 n hn G_S14 ) (fun v30 S29 hP => ?_)
      obtain ⟨rfl, o31, o32⟩ := hP
      rw [show S14 1071 = S0 1071 from funext (fun u => (zz_rc fS14 (zz_nc1 rfl) rfl (fun h => h) (zz_rc F_S (zz_nc1 rfl) rfl (fun h => h) rfl)))] at o32
      refine zz_istore_n [some (.ref 1073), some (zi x1), some (zi v30)] zd_8_7_62 (by decide) rfl ?_
      refine zz_iload_n (x := v30) rfl zd_8_7_63 ?_
      refine zz_aload_n (x := 1073) rfl zd_8_7_64 ?_
      have g33 := zz_G.r G_S0 1073 6 (-2147483648) 2147483647 rfl rfl
      refine zz_geti (z := S0 1073 6) zd_8_7_65 zf_NetworkReader_35 zT_1073 rfl (zz_ltn hn rfl) (zz_rc fS14 rfl rfl (fun h => h) (zz_rc F_S rfl rfl (fun h => h) rfl)) ?_
      refine zz_iand (by omega) (by omega) zd_8_7_68 (fun v34 hv34 av34 bv34 ev34 => ?_)
      skip
      refine zz_if_eq (by omega) zd_8_7_69 (fun c35 => ?_) (fun c35 => ?_)
      · refine zz_iconst zd_8_7_89 ?_
        exact zz_zret zd_8_7_90 rfl (by omega) (Nat.zero_le _) (Nat.zero_le _) ⟨_, _, rfl, G_S14, F_S14, by omega, (fun N K hN hl1 hl2 hK hm hn h8 => by have i9 := i12_3 N K hN hl1 hl2 hK hm hn h8; have b9 := o32 _ _ o24; exact Or.inr ⟨rfl, fun x => by have y := x.1; have z := zn_RON i9.1 (by omega) hK (fun h => absurd ((zt_NKs o24).1.mp h) (by omega)) b9 hm ev34 (Or.inl (by omega)); omega⟩), (fun a i h1 h2 h3 => by have hz0_ := zz_rf6 (z := 12 * (S0 1073 1) + S0 (zz_rf 3 (S0 1073 1)) 1) (by omega); exact ((fS14 a i (zz_out1 rfl ⟨h1, h2⟩) (zz_out2 rfl ⟨h1, h2⟩) (fun h => by first | exact h | omega)).trans (i12_2 a i h1 h2 h3))), (fun j hj => by have hz_ := zz_rf6 (z := 12 * (S0 1073 1) + S0 (zz_rf 3 (S0 1073 1)) 1) (by omega); exact ((fS14 _ j (zz_out1 rfl (by omega)) (zz_out2 rfl (by omega)) (fun h => by first | exact h | omega)).trans (i12_4 j hj))), H_S14⟩
      · have p9_ : S 1070 3 < S14 1070 3 := (by have y_ := zn_oby (o32 _ _ o24) ev34 (by omega); have c_ := zt_ob2 (c := zt_kn (S0 1071) (S0 1070 2) (S 1070 3)) (w := zt_kc (S0 1071) (S0 1070 2) (S 1070 3)) (by omega); exact o21 (Or.inl ((zt_NKs o24).2.2.mp c_).1))
        refine zz_iload_n (x := v30) rfl zd_8_7_72 ?_
        refine zz_aload_n (x := 1073) rfl zd_8_7_73 ?_
        have g36 := zz_G.r G_S 1073 8 (-2147483648) 2147483647 rfl rfl
        refine zz_geti (z := S 1073 8) zd_8_7_74 zf_NetworkReader_41 zT_1073 rfl (zz_ltn hn rfl) (zz_rc fS14 rfl rfl (fun h => h) rfl) ?_
        refine zz_iand (by omega) (by omega) zd_8_7_77 (fun v37 hv37 av37 bv37 ev37 => ?_)
        skip
        refine zz_if_ne (by omega) zd_8_7_78 (fun c38 => ?_) (fun c38 => ?_)
        · refine zz_iconst zd_8_7_89 ?_
          exact zz_zret zd_8_7_90 rfl (by omega) (Nat.zero_le _) (Nat.zero_le _) ⟨_, _, rfl, G_S14, F_S14, by omega, (fun N K hN hl1 hl2 hK hm hn h8 => by have i9 := i12_3 N K hN hl1 hl2 hK hm hn h8; have b9 := o32 _ _ o24; exact Or.inr ⟨rfl, fun x => by have y := x.1; have z := zn_RON i9.1 (by omega) hK (fun h => absurd ((zt_NKs o24).1.mp h) (by omega)) b9 hm ev34 (Or.inr (Or.inl ⟨by omega, _, ev37, by omega⟩)); omega⟩), (fun a i h1 h2 h3 => by have hz0_ := zz_rf6 (z := 12 * (S0 1073 1) + S0 (zz_rf 3 (S0 1073 1)) 1) (by omega); exact ((fS14 a i (zz_out1 rfl ⟨h1, h2⟩) (zz_out2 rfl ⟨h1, h2⟩) (fun h => by first | exact h | omega)).trans (i12_2 a i h1 h2 h3))), (fun j hj => by have hz_ := zz_rf6 (z := 12 * (S0 1073 1) + S0 (zz_rf 3 (S0 1073 1)) 1) (by omega); exact ((fS14 _ j (zz_out1 rfl (by omega)) (zz_out2 rfl (by omega)) (fun h => by first | exact h | omega)).trans (i12_4 j hj))), H_S14⟩
        · refine zz_aload_n (x := 1073) rfl zd_8_7_81 ?_
          refine zz_iload_n (x := v30) rfl zd_8_7_82 ?_
          have g39 := zz_G.r G_S0 1070 1 0 1500 rfl rfl
          have e40 : S14 1070 1 = S0 1070 1 := (zz_rc fS14 rfl rfl (fun h => h) (zz_rc F_S rfl rfl (fun h => h) rfl))
          have e41 : S14 1070 2 = S0 1070 2 := (zz_rc fS14 rfl rfl (fun h => h) (zz_rc F_S rfl rfl (fun h => h) rfl))
          have g42 := zz_G.r G_S0 1073 1 0 1 rfl rfl
          have e43 : S14 1073 1 = S0 1073 1 := (zz_rc fS14 rfl rfl (fun h => h) (zz_rc F_S rfl rfl (fun h => h) rfl))
          refine zz_callVI [zi v30] zd_8_7_83 zk_NetworkReader_138 zT_1073 (zz_ltn hn rfl) rfl rfl ⟨Nat.le_of_ble_eq_true rfl, Nat.le_of_ble_eq_true rfl⟩ ⟨rfl, rfl⟩ (Nat.zero_le _) (Nat.zero_le _) (zc_readOption_8_9 v30 S14 n hn G_S14 (by omega)) (fun v45 S44 hP => ?_)
          obtain ⟨G_S44, fS44, o46, o47, o48, o49⟩ := hP
          rw [show S14 1071 = S0 1071 from funext (fun u => (zz_rc fS14 (zz_nc1 rfl) rfl (fun h => h) (zz_rc F_S (zz_nc1 rfl) rfl (fun h => h) rfl))), show S14 1074 = S0 1074 from funext (fun u => (zz_rc fS14 (zz_nc1 rfl) rfl (fun h => h) (zz_rc F_S (zz_nc1 rfl) rfl (fun h => h) rfl))), show S14 1075 = S0 1075 from funext (fun u => (zz_rc fS14 (zz_nc1 rfl) rfl (fun h => h) (zz_rc F_S (zz_nc1 rfl) rfl (fun h => h) rfl))), show S14 1070 1 = S0 1070 1 from (zz_rc fS14 rfl rfl (fun h => h) (zz_rc F_S rfl rfl (fun h => h) rfl)), show S14 1070 2 = S0 1070 2 from (zz_rc fS14 rfl rfl (fun h => h) (zz_rc F_S rfl rfl (fun h => h) rfl)), show S14 1073 1 = S0 1073 1 from (zz_rc fS14 rfl rfl (fun h => h) (zz_rc F_S rfl rfl (fun h => h) rfl))] at o47
          rw [show S14 1070 2 = S0 1070 2 from (zz_rc fS14 rfl rfl (fun h => h) (zz_rc F_S rfl rfl (fun h => h) rfl))] at o49
          rw [show S14 1073 1 = S0 1073 1 from (zz_rc fS14 rfl rfl (fun h => h) (zz_rc F_S rfl rfl (fun h => h) rfl))] at fS44
          have g50 := zz_G.r G_S0 1073 1 0 1 rfl rfl
          have b51 := zz_G.r G_S14 (zz_rf 3 (S0 1073 1)) 1 1 11 (zR_k3_1 (by omega)) (zB_k3 (by omega))
          have F_S44 := zz_fr.trans F_S14 fS44 rfl (fun a i h => by rcases h with h | h | h | h | h | h | h | h; exact Or.inr (Or.inl (h.1 ▸ zM_k6 (z := (12 * (S0 1073 1) + S14 (zz_rf 3 (S0 1073 1)) 1)) (by omega) rfl)); exact Or.inr (Or.inl (h.1 ▸ zM_k6 (z := (12 * (S0 1073 1) + S14 (zz_rf 3 (S0 1073 1)) 1)) (by omega) rfl)); exact Or.inr (Or.inl (h.1 ▸ zM_k6 (z := (12 * (S0 1073 1) + S14 (zz_rf 3 (S0 1073 1)) 1)) (by omega) rfl)); exact Or.inr (Or.inl (h.1 ▸ zM_k6 (z := (12 * (S0 1073 1) + S14 (zz_rf 3 (S0 1073 1)) 1)) (by omega) rfl)); exact Or.inr (Or.inl (h.1 ▸ zM_k6 (z := (12 * (S0 1073 1) + S14 (zz_rf 3 (S0 1073 1)) 1)) (by omega) rfl)); exact Or.inr (Or.inl (h.1 ▸ zM_k6 (z := (12 * (S0 1073 1) + S14 (zz_rf 3 (S0 1073 1)) 1)) (by omega) rfl)); exact Or.inr (Or.inl (h.1 ▸ zM_k6 (z := (12 * (S0 1073 1) + S14 (zz_rf 3 (S0 1073 1)) 1)) (by omega) rfl)); exact Or.inr (Or.inl (h.1 ▸ zM_k6 (z := (12 * (S0 1073 1) + S14 (zz_rf 3 (S0 1073 1)) 1)) (by omega) rfl)))
          have b52 := zz_G.r G_S14 (zz_rf 3 (S0 1073 1)) 1 1 11 (zR_k3_1 (by omega)) (zB_k3 (by omega))
          have b53 := zz_rf6 (z := (12 * (S0 1073 1) + S14 (zz_rf 3 (S0 1073 1)) 1)) (by omega)
          have b54 := zz_rf3 (z := (S0 1073 1)) (by omega)
          have H_S44 : zz_Hc S44 := zz_Hc.fr (q := (S0 1073 1)) (z := 12 * (S0 1073 1) + S14 (zz_rf 3 (S0 1073 1)) 1) fS44 rfl rfl G_S14 (by omega) rfl (fun b j h => by omega) H_S14
          rcases (by omega : v45 = 0 ∨ v45 = 1) with rfl | rfl
          · refine zz_if_ne (by omega) zd_8_7_86 (fun c55 => ?_) (fun c55 => ?_)
            · exfalso; omega
            · refine zz_iconst zd_8_7_89 ?_
              have g56 := zz_G.r G_S44 1070 3 0 1500 rfl rfl
              exact zz_zret zd_8_7_90 rfl (by omega) (Nat.zero_le _) (Nat.zero_le _) ⟨_, _, rfl, G_S44, F_S44, by omega, (fun N K hN hl1 hl2 hK hm hn h8 => by have i9 := i12_3 N K hN hl1 hl2 hK hm hn h8; have b9 := o32 _ _ o24; exact Or.inr ⟨rfl, fun x => by have y := x.1; have z := zn_RON i9.1 (by omega) hK (fun h => absurd ((zt_NKs o24).1.mp h) (by omega)) b9 hm ev34 (Or.inr (Or.inr ⟨by omega, fun o ho => by rcases (fun o ho => by have x9 := o47 N _ K o hN (by omega) (by omega) (zn_oby b9 ev34 (by omega)) b9; rw [show S14 (zz_rf 3 (S0 1073 1)) 1 = S0 (zz_rf 3 (S0 1073 1)) 1 by omega, o24.2.2.1] at x9; have x8 := x9 (ho.same (fun i => by have hz_ := zz_rf6 (z := 12 * (S0 1073 1) + S0 (zz_rf 3 (S0 1073 1)) 1) (by omega); exact fS14 _ i (zz_out1 rfl (by omega)) (zz_out2 rfl (by omega)) (fun h => h)) (fS14 1073 4 rfl rfl (fun h => h)) (fS14 1073 5 rfl rfl (fun h => h))); exact x8) o ho with x | x; exact absurd x.1 (by decide); exact x.2⟩)); omega⟩), (fun a i h1 h2 h3 => by have hz0_ := zz_rf6 (z := 12 * (S0 1073 1) + S0 (zz_rf 3 (S0 1073 1)) 1) (by omega); have hz1_ := zz_rf6 (z := 12 * (S0 1073 1) + S14 (zz_rf 3 (S0 1073 1)) 1) (by omega); exact (((fS44 a i (zz_out1 rfl ⟨h1, h2⟩) (zz_out2 rfl ⟨h1, h2⟩) (fun h => by first | exact h | omega)).trans (fS14 a i (zz_out1 rfl ⟨h1, h2⟩) (zz_out2 rfl ⟨h1, h2⟩) (fun h => by first | exact h | omega))).trans (i12_2 a i h1 h2 h3))), (fun j hj => by have hz_ := zz_rf6 (z := 12 * (S0 1073 1) + S0 (zz_rf 3 (S0 1073 1)) 1) (by omega); exact (((fS44 _ j (zz_out1 rfl (by omega)) (zz_out2 rfl (by omega)) (fun h => by first | exact h | omega)).trans (fS14 _ j (zz_out1 rfl (by omega)) (zz_out2 rfl (by omega)) (fun h => by first | exact h | omega))).trans (i12_4 j hj))), H_S44⟩
          · refine zz_if_ne (by omega) zd_8_7_86 (fun c57 => ?_) (fun c57 => ?_)
            · refine zz_aload_n (x := 1073) rfl zd_8_7_91 ?_
              refine zz_dup rfl zd_8_7_92 ?_
              refine zz_geti (z := S 1073 8) zd_8_7_93 zf_NetworkReader_41 zT_1073 rfl (zz_ltn hn rfl) (zz_rc fS44 rfl rfl (by first | decide | omega) (zz_rc fS14 rfl rfl (fun h => h) rfl)) ?_
              refine zz_iload_n (x := v30) rfl zd_8_7_96 ?_
              refine zz_ior (by omega) (by omega) zd_8_7_97 (fun v58 hv58 av58 ev58 => ?_)
              skip
              refine zz_puti zd_8_7_98 zf_NetworkReader_41 zT_1073 rfl (zz_ltn hn rfl) (fun S59 qS59 => ?_)
              have G_S59 := zz_G.put G_S44 qS59 (-2147483648) 2147483647 rfl (by omega)
              have F_S59 := zz_fr.puts F_S44 qS59 rfl
              have H_S59 : zz_Hc S59 := zz_Hc.fr (q := 0) (zz_fr.put1 qS59) rfl rfl G_S44 (by decide) rfl (fun b j h => by omega) H_S44
              refine zz_iinc [some (.ref 1073), some (zi (x1 + 1)), some (zi v30)] zd_8_7_101 rfl rfl ?_
              refine zz_goto zd_8_7_104 ?_
              have g60 := zz_G.r G_S44 1070 3 0 1500 rfl rfl
              have e61 : S59 1070 3 = S44 1070 3 := (zz_ro qS59 (fun h => absurd h.1 (by decide)) rfl)
              have e62 : S59 1073 8 = v58 := (zz_rs qS59)
              refine zz_less (ls1 := [some (.ref 1073), some (zi (x1 + 1))]) ⟨rfl, ⟨rfl, trivial⟩⟩ ?_
              exact k12 (x1 + 1) S59 G_S59 F_S59 (by omega) (by omega) (fun a i h1 h2 h3 => by have hz0_ := zz_rf6 (z := 12 * (S0 1073 1) + S0 (zz_rf 3 (S0 1073 1)) 1) (by omega); have hz1_ := zz_rf6 (z := 12 * (S0 1073 1) + S14 (zz_rf 3 (S0 1073 1)) 1) (by omega); exact ((((zz_ro qS59 (fun h => by omega) rfl).trans (fS44 a i (zz_out1 rfl ⟨h1, h2⟩) (zz_out2 rfl ⟨h1, h2⟩) (fun h => by first | exact h | omega))).trans (fS14 a i (zz_out1 rfl ⟨h1, h2⟩) (zz_out2 rfl ⟨h1, h2⟩) (fun h => by first | exact h | omega))).trans (i12_2 a i h1 h2 h3))) (fun N K hN hl1 hl2 hK hm hn h8 => by have i9 := i12_3 N K hN hl1 hl2 hK hm hn h8; have b9 := o32 _ _ o24; refine ⟨?_, by omega⟩; rw [show S59 1073 8 = v58 by omega]; exact zn_ROS (r := 1) i9.1 (by omega) hK (fun h => absurd ((zt_NKs o24).1.mp h) (by omega)) b9 hm ev34 (by omega) ev37 (by omega) ev58 (fun o ho => by have x9 := o47 N _ K o hN (by omega) (by omega) (zn_oby b9 ev34 (by omega)) b9; rw [show S14 (zz_rf 3 (S0 1073 1)) 1 = S0 (zz_rf 3 (S0 1073 1)) 1 by omega, o24.2.2.1] at x9; have x8 := x9 (ho.same (fun i => by have hz_ := zz_rf6 (z := 12 * (S0 1073 1) + S0 (zz_rf 3 (S0 1073 1)) 1) (by omega); exact fS14 _ i (zz_out1 rfl (by omega)) (zz_out2 rfl (by omega)) (fun h => h)) (fS14 1073 4 rfl rfl (fun h => h)) (fS14 1073 5 rfl rfl (fun h => h))); rcases x8 with x7 | x7; exact Or.inl ⟨x7.1, x7.2.1, by omega, (x7.2.2.2.same (fun i => by have hz_ := zz_rf6 (z := 12 * (S0 1073 1) + S0 (zz_rf 3 (S0 1073 1)) 1) (by omega); exact zz_ro qS59 (fun h => by omega) rfl) (zz_ro qS59 (fun h => absurd h.2 (by decide)) rfl) (zz_ro qS59 (fun h => absurd h.2 (by decide)) rfl))⟩; exact Or.inr x7) rfl (by omega)) (fun j hj => by have hz_ := zz_rf6 (z := 12 * (S0 1073 1) + S0 (zz_rf 3 (S0 1073 1)) 1) (by omega); exact ((((zz_ro qS59 (fun h => by omega) rfl).trans (fS44 _ j (zz_out1 rfl (by omega)) (zz_out2 rfl (by omega)) (fun h => by first | exact h | omega))).trans (fS14 _ j (zz_out1 rfl (by omega)) (zz_out2 rfl (by omega)) (fun h => by first | exact h | omega))).trans (i12_4 j hj))) H_S59 (by omega)
            · exfalso; omega
    · refine zz_aload_n (x := 1073) rfl zd_8_7_36 ?_
      have g63 := zz_G.r G_S 1073 8 (-2147483648) 2147483647 rfl rfl
      refine zz_geti (z := S 1073 8) zd_8_7_37 zf_NetworkReader_41 zT_1073 rfl (zz_ltn hn rfl) (zz_rc fS14 rfl rfl (fun h => h) rfl) ?_
      refine zz_aload_n (x := 1073) rfl zd_8_7_40 ?_
      have g64 := zz_G.r G_S0 1073 7 (-2147483648) 2147483647 rfl rfl
      refine zz_geti (z := S0 1073 7) zd_8_7_41 zf_NetworkReader_38 zT_1073 rfl (zz_ltn hn rfl) (zz_rc fS14 rfl rfl (fun h => h) (zz_rc F_S rfl rfl (fun h => h) rfl)) ?_
      refine zz_iand (by omega) (by omega) zd_8_7_44 (fun v65 hv65 av65 bv65 ev65 => ?_)
      skip
      refine zz_aload_n (x := 1073) rfl zd_8_7_45 ?_
      refine zz_geti (z := S0 1073 7) zd_8_7_46 zf_NetworkReader_38 zT_1073 rfl (zz_ltn hn rfl) (zz_rc fS14 rfl rfl (fun h => h) (zz_rc F_S rfl rfl (fun h => h) rfl)) ?_
      refine zz_icmp_ne (by omega) (by omega) zd_8_7_49 (fun c66 => ?_) (fun c66 => ?_)
      · refine zz_iconst zd_8_7_56 ?_
        have g67 := zz_G.r G_S14 1070 3 0 1500 rfl rfl
        exact zz_zret zd_8_7_57 rfl (by omega) (Nat.zero_le _) (Nat.zero_le _) ⟨_, _, rfl, G_S14, F_S14, by omega, (fun N K hN hl1 hl2 hK hm hn h8 => by have i9 := i12_3 N K hN hl1 hl2 hK hm hn h8; have E9 := zn_IOE i9.1 (fun o ho => ho) (by omega) ((zt_NKs o24).1.mpr (by omega)); have D9 := zt_ndb hK hn ev65 E9.2.1; exact Or.inr ⟨rfl, fun x => by have y := D9.mpr x.2; omega⟩), (fun a i h1 h2 h3 => by have hz0_ := zz_rf6 (z := 12 * (S0 1073 1) + S0 (zz_rf 3 (S0 1073 1)) 1) (by omega); exact ((fS14 a i (zz_out1 rfl ⟨h1, h2⟩) (zz_out2 rfl ⟨h1, h2⟩) (fun h => by first | exact h | omega)).trans (i12_2 a i h1 h2 h3))), (fun j hj => by have hz_ := zz_rf6 (z := 12 * (S0 1073 1) + S0 (zz_rf 3 (S0 1073 1)) 1) (by omega); exact ((fS14 _ j (zz_out1 rfl (by omega)) (zz_out2 rfl (by omega)) (fun h => by first | exact h | omega)).trans (i12_4 j hj))), H_S14⟩
      · refine zz_iconst zd_8_7_52 ?_
        refine zz_goto zd_8_7_53 ?_
        have g68 := zz_G.r G_S14 1070 3 0 1500 rfl rfl
        exact zz_zret zd_8_7_57 rfl (by omega) (Nat.zero_le _) (Nat.zero_le _) ⟨_, _, rfl, G_S14, F_S14, by omega, (fun N K hN hl1 hl2 hK hm hn h8 => by have i9 := i12_3 N K hN hl1 hl2 hK hm hn h8; have E9 := zn_IOE i9.1 (fun o ho => ho) (by omega) ((zt_NKs o24).1.mpr (by omega)); have D9 := zt_ndb hK hn ev65 E9.2.1; exact Or.inl ⟨rfl, E9.1, D9.mp (by omega), (E9.2.2.same (fun i => by have hz_ := zz_rf6 (z := 12 * (S0 1073 1) + S0 (zz_rf 3 (S0 1073 1)) 1) (by omega); exact fS14 _ i (zz_out1 rfl (by omega)) (zz_out2 rfl (by omega)) (fun h => h)) (fS14 1073 4 rfl rfl (fun h => h)) (fS14 1073 5 rfl rfl (fun h => h))), by omega⟩), (fun a i h1 h2 h3 => by have hz0_ := zz_rf6 (z := 12 * (S0 1073 1) + S0 (zz_rf 3 (S0 1073 1)) 1) (by omega); exact ((fS14 a i (zz_out1 rfl ⟨h1, h2⟩) (zz_out2 rfl ⟨h1, h2⟩) (fun h => by first | exact h | omega)).trans (i12_2 a i h1 h2 h3))), (fun j hj => by have hz_ := zz_rf6 (z := 12 * (S0 1073 1) + S0 (zz_rf 3 (S0 1073 1)) 1) (by omega); exact ((fS14 _ j (zz_out1 rfl (by omega)) (zz_out2 rfl (by omega)) (fun h => by first | exact h | omega)).trans (i12_4 j hj))), H_S14⟩
theorem zi_readOptions_8_7 {g : mm_G} {l : Launch}  (S0 : zz_S) (n : Nat) (hn : zz_end ≤ n) (G_S0 : zz_G S0) (H_S0 : zz_Hc S0) : ∀ N : Nat, (∀ (x1 : Int) (S : zz_S), zz_G S → zz_fr [(1070, 3), (1070, 4), (1070, 5), (1070, 6), (1073, 4), (1073, 5), (1073, 8)] [1003, 1004, 1005, 1006, 1007, 1008, 1009, 1010, 1011, 1012, 1013, 1014, 1017, 1018, 1019, 1020, 1021, 1022, 1023, 1024, 1025, 1026, 1027, 1028] (fun _ _ => False) S0 S → (0 ≤ x1 ∧ x1 ≤ 1501) → (x1 ≤ S 1070 3) → (∀ a i : Nat, 1001 ≤ a → a ≤ 1028 → a ≠ zz_rf 6 (12 * (S0 1073 1) + S0 (zz_rf 3 (S0 1073 1)) 1) → S a i = S0 a i) → (∀ (N : Nat → Int) (K : Int), zt_NM (S0 1071) (S0 1074) (S0 1075) (S0 1070 1) N → S0 1070 2 ≤ S0 1070 1 → S0 1070 3 ≤ S0 1070 2 → 0 ≤ K ∧ K ≤ 3 → S0 1073 6 = zn_ma K → S0 1073 7 = zn_nd K → (K ≠ 0 → zn_D8 S0 (12 * (S0 1073 1) + S0 (zz_rf 3 (S0 1073 1)) 1) zn_o0) → zn_IO (zt_kn (S0 1071) (S0 1070 2)) (zt_te (S0 1071) (S0 1070 2)) (zt_tv (S0 1071) (S0 1070 2)) (zt_kc (S0 1071) (S0 1070 2)) K N 11 (S 1073 8) (S 1070 3) (zn_DS K S (12 * (S0 1073 1) + S0 (zz_rf 3 (S0 1073 1)) 1) (S0 1071) (S0 1070 1)) (zt_no (zt_kn (S0 1071) (S0 1070 2)) (zt_te (S0 1071) (S0 1070 2)) (zt_tv (S0 1071) (S0 1070 2)) (zt_kc (S0 1071) (S0 1070 2)) (zn_al K) N 11 1600 ((zt_kn (S0 1071) (S0 1070 2)) (S0 1070 3)) ((zt_kc (S0 1071) (S0 1070 2)) (S0 1070 3)) ((zt_te (S0 1071) (S0 1070 2)) (S0 1070 3)) zn_o0) ∧ S 1070 3 ≤ S0 1070 2) → (∀ j : Nat, j ≤ 2 → S (zz_rf 6 (12 * (S0 1073 1) + S0 (zz_rf 3 (S0 1073 1)) 1)) j = S0 (zz_rf 6 (12 * (S0 1073 1) + S0 (zz_rf 3 (S0 1073 1)) 1)) j) → (zz_Hc S) → (1500 + 1 - x1).toNat < N → zz_E g l zy_readOptions_8_7 zr_readOptions_8_7 (zz_QI n (zp_readOptions_8_7  S0)) S n 12 [some (.ref 1073), some (zi x1)] [] 0 0) := by
  intro N
  induction N with
  | zero => exact fun x1 S _ _ _ _ _ _ _ _ h => absurd h (Nat.not_lt_zero _)
  | succ N ih =>
    exact fun x1 S a b j0 j1 j2 j3 j4 j5 hR => zb_readOptions_8_7_12  S0 n hn G_S0 H_S0 x1 S a b j0 j1 j2 j3 j4 j5 _ rfl (fun x1 S a b j0 j1 j2 j3 j4 j5 h => ih x1 S a b j0 j1 j2 j3 j4 j5 (Nat.lt_of_lt_of_le h (Nat.le_of_lt_succ hR)))
theorem zc_readOptions_8_7 {g : mm_G} {l : Launch}  (S0 : zz_S) (n : Nat) (hn : zz_end ≤ n) (G_S0 : zz_G S0) (H_S0 : zz_Hc S0) : mm_Met g l zy_readOptions_8_7 zr_readOptions_8_7 [.ref 1073] (zz_M S0 n) n (zz_QI n (zp_readOptions_8_7  S0)) := by
  refine zz_enter (by decide) (Nat.le_of_ble_eq_true rfl) (zz_less (ls1 := [some (.ref 1073)]) ⟨rfl, trivial⟩ ?_)
  have F_S0 : zz_fr [(1070, 3), (1070, 4), (1070, 5), (1070, 6), (1073, 4), (1073, 5), (1073, 8)] [1003, 1004, 1005, 1006, 1007, 1008, 1009, 1010, 1011, 1012, 1013, 1014, 1017, 1018, 1019, 1020, 1021, 1022, 1023, 1024, 1025, 1026, 1027, 1028] (fun _ _ => False) S0 S0 := zz_fr.refl
  have k12 : ∀ (x1 : Int) (S : zz_S), zz_G S → zz_fr [(1070, 3), (1070, 4), (1070, 5), (1070, 6), (1073, 4), (1073, 5), (1073, 8)] [1003, 1004, 1005, 1006, 1007, 1008, 1009, 1010, 1011, 1012, 1013, 1014, 1017, 1018, 1019, 1020, 1021, 1022, 1023, 1024, 1025, 1026, 1027, 1028] (fun _ _ => False) S0 S → (0 ≤ x1 ∧ x1 ≤ 1501) → (x1 ≤ S 1070 3) → (∀ a i : Nat, 1001 ≤ a → a ≤ 1028 → a ≠ zz_rf 6 (12 * (S0 1073 1) + S0 (zz_rf 3 (S0 1073 1)) 1) → S a i = S0 a i) → (∀ (N : Nat → Int) (K : Int), zt_NM (S0 1071) (S0 1074) (S0 1075) (S0 1070 1) N → S0 1070 2 ≤ S0 1070 1 → S0 1070 3 ≤ S0 1070 2 → 0 ≤ K ∧ K ≤ 3 → S0 1073 6 = zn_ma K → S0 1073 7 = zn_nd K → (K ≠ 0 → zn_D8 S0 (12 * (S0 1073 1) + S0 (zz_rf 3 (S0 1073 1)) 1) zn_o0) → zn_IO (zt_kn (S0 1071) (S0 1070 2)) (zt_te (S0 1071) (S0 1070 2)) (zt_tv (S0 1071) (S0 1070 2)) (zt_kc (S0 1071) (S0 1070 2)) K N 11 (S 1073 8) (S 1070 3) (zn_DS K S (12 * (S0 1073 1) + S0 (zz_rf 3 (S0 1073 1)) 1) (S0 1071) (S0 1070 1)) (zt_no (zt_kn (S0 1071) (S0 1070 2)) (zt_te (S0 1071) (S0 1070 2)) (zt_tv (S0 1071) (S0 1070 2)) (zt_kc (S0 1071) (S0 1070 2)) (zn_al K) N 11 1600 ((zt_kn (S0 1071) (S0 1070 2)) (S0 1070 3)) ((zt_kc (S0 1071) (S0 1070 2)) (S0 1070 3)) ((zt_te (S0 1071) (S0 1070 2)) (S0 1070 3)) zn_o0) ∧ S 1070 3 ≤ S0 1070 2) → (∀ j : Nat, j ≤ 2 → S (zz_rf 6 (12 * (S0 1073 1) + S0 (zz_rf 3 (S0 1073 1)) 1)) j = S0 (zz_rf 6 (12 * (S0 1073 1) + S0 (zz_rf 3 (S0 1073 1)) 1)) j) → (zz_Hc S) → zz_E g l zy_readOptions_8_7 zr_readOptions_8_7 (zz_QI n (zp_readOptions_8_7  S0)) S n 12 [some (.ref 1073), some (zi x1)] [] 0 0 := fun x1 S a b j0 j1 j2 j3 j4 j5 => (zi_readOptions_8_7 (g := g) (l := l)  S0 n hn G_S0 H_S0 _) x1 S a b j0 j1 j2 j3 j4 j5 (Nat.lt_succ_self _)
  have gz9 := zz_G.r G_S0 1073 1 0 1 rfl rfl
  have gt9 := zz_G.r G_S0 (zz_rf 3 (S0 1073 1)) 1 1 11 (zR_k3_1 (by omega)) (zB_k3 (by omega))
  refine zz_aload_n (x := 1073) rfl zd_8_7_0 ?_
  refine zz_iconst zd_8_7_1 ?_
  refine zz_puti zd_8_7_2 zf_NetworkReader_41 zT_1073 rfl (zz_ltn hn rfl) (fun S1 qS1 => ?_)
  have G_S1 := zz_G.put G_S0 qS1 (-2147483648) 2147483647 rfl (by omega)
  have F_S1 := zz_fr.puts F_S0 qS1 rfl
  have H_S1 : zz_Hc S1 := zz_Hc.fr (q := 0) (zz_fr.put1 qS1) rfl rfl G_S0 (by decide) rfl (fun b j h => by omega) H_S0
  refine zz_aload_n (x := 1073) rfl zd_8_7_5 ?_
  refine zz_iconst zd_8_7_6 ?_
  refine zz_puti zd_8_7_7 zf_NetworkReader_32 zT_1073 rfl (zz_ltn hn rfl) (fun S2 qS2 => ?_)
  have G_S2 := zz_G.put G_S1 qS2 (-1500) 1500 rfl (by omega)
  have F_S2 := zz_fr.puts F_S1 qS2 rfl
  have H_S2 : zz_Hc S2 := zz_Hc.fr (q := 0) (zz_fr.put1 qS2) rfl rfl G_S1 (by decide) rfl (fun b j h => by omega) H_S1
  refine zz_iconst zd_8_7_10 ?_
  refine zz_istore_n [some (.ref 1073), some (zi 0)] zd_8_7_11 (by decide) rfl ?_
  have g3 := zz_G.r G_S0 1070 3 0 1500 rfl rfl
  have e4 : S2 1070 3 = S0 1070 3 := (zz_ro qS2 (fun h => absurd h.1 (by decide)) (zz_ro qS1 (fun h => absurd h.1 (by decide)) rfl))
  have e5 : S2 1073 8 = 0 := (zz_ro qS2 (fun h => absurd h.2 (by decide)) (zz_rs qS1))
  refine zz_less (ls1 := [some (.ref 1073), some (zi 0)]) ⟨rfl, ⟨rfl, trivial⟩⟩ ?_
  exact k12 0 S2 G_S2 F_S2 (by omega) (by omega) (fun a i h1 h2 h3 => by have hz0_ := zz_rf6 (z := 12 * (S0 1073 1) + S0 (zz_rf 3 (S0 1073 1)) 1) (by omega); exact ((zz_ro qS2 (fun h => by omega) rfl).trans (zz_ro qS1 (fun h => by omega) rfl))) (fun N K hN hl1 hl2 hK hm hn h8 => ⟨by rw [show S2 1073 8 = 0 by omega, show S2 1070 3 = S0 1070 3 by omega]; exact zn_IO0 (by omega) (zn_DS0 h8 (fun i => by have hz_ := zz_rf6 (z := 12 * (S0 1073 1) + S0 (zz_rf 3 (S0 1073 1)) 1) (by omega); exact (zz_ro qS2 (fun h => by omega) (zz_ro qS1 (fun h => by omega) rfl))) (zz_rs qS2)), by omega⟩) (fun j hj => by have hz_ := zz_rf6 (z := 12 * (S0 1073 1) + S0 (zz_rf 3 (S0 1073 1)) 1) (by omega); exact ((zz_ro qS2 (fun h => by omega) rfl).trans (zz_ro qS1 (fun h => by omega) rfl))) H_S2
theorem zk_NetworkReader_68 : mm_Vl "TensorForge$NetworkReader" 68 8 0 zy_readOptions_8_7 := ⟨zyw_readOptions_8_7, (R_NetworkReader, F_NetworkReader, 9), rfl, mm_tb_1 945 (by decide +kernel) rfl, mm_tb_1 947 (by decide +kernel) rfl, mm_tb_s 44 (by decide +kernel) rfl⟩
theorem zf_NetworkReader_78 : mm_Fl "TensorForge$NetworkReader" 78 1 1 .int false := ⟨R_Network, F_Network, 2, t_Network, rfl, i_Network, by decide, mm_tb_1 147 (by decide +kernel) rfl, rfl, t_Network_ok, n_Network, rfl, by decide +kernel⟩
abbrev zy_keepName_8_13 : mm_Y := (⟨"TensorForge$NetworkReader", "keepName", "(I)V"⟩, prog_8_method_13_code, 2, none)
theorem zyw_keepName_8_13 : mm_Yw zy_keepName_8_13 1 := ⟨mm_tb_1 1039 (by decide +kernel) rfl, mm_tb_1 9 (by decide +kernel) rfl, ⟨by decide, by decide⟩, by decide +kernel⟩
theorem zg_8_2_105 : zq_at zy_readInto_8_2.2.1 105 153 ∧ zq_at zy_readInto_8_2.2.1 106 0 ∧ zq_at zy_readInto_8_2.2.1 107 7 ∧ zq_at zy_readInto_8_2.2.1 108 4 ∧ zq_at zy_readInto_8_2.2.1 109 167 ∧ zq_at zy_readInto_8_2.2.1 110 0 ∧ zq_at zy_readInto_8_2.2.1 111 4 ∧ zq_at zy_readInto_8_2.2.1 122 4 ∧ zq_at zy_readInto_8_2.2.1 123 61 ∧ zq_at zy_readInto_8_2.2.1 124 42 ∧ zq_at zy_readInto_8_2.2.1 125 42 ∧ zq_at zy_readInto_8_2.2.1 126 180 ∧ zq_at zy_readInto_8_2.2.1 127 0 ∧ zq_at zy_readInto_8_2.2.1 128 15 ∧ zq_at zy_readInto_8_2.2.1 129 180 ∧ zq_at zy_readInto_8_2.2.1 130 0 ∧ zq_at zy_readInto_8_2.2.1 131 78 ∧ zq_at zy_readInto_8_2.2.1 132 4 ∧ zq_at zy_readInto_8_2.2.1 133 100 ∧ zq_at zy_readInto_8_2.2.1 134 182 ∧ zq_at zy_readInto_8_2.2.1 135 0 ∧ zq_at zy_readInto_8_2.2.1 136 81 := by decide +kernel
theorem zd_8_2_105 : zz_B zy_readInto_8_2 105 (Instr.ifCond .eq) 112 108 := ⟨7, zq_153 zg_8_2_105.1 zg_8_2_105.2.1 zg_8_2_105.2.2.1 (by decide), rfl, rfl⟩
theorem zd_8_2_108 : zz_D zy_readInto_8_2 108 (.iconst 1) 1 109 := ⟨zq_4 zg_8_2_105.2.2.2.1, rfl⟩
theorem zd_8_2_109 : zz_B zy_readInto_8_2 109 Instr.goto 113 112 := ⟨4, zq_167 zg_8_2_105.2.2.2.2.1 zg_8_2_105.2.2.2.2.2.1 zg_8_2_105.2.2.2.2.2.2.1 (by decide), rfl, rfl⟩
theorem zd_8_2_122 : zz_D zy_readInto_8_2 122 (.iconst 1) 1 123 := ⟨zq_4 zg_8_2_105.2.2.2.2.2.2.2.1, rfl⟩
theorem zd_8_2_123 : zz_D zy_readInto_8_2 123 (.istore_n 2) 1 124 := ⟨zq_61 zg_8_2_105.2.2.2.2.2.2.2.2.1, rfl⟩
theorem zd_8_2_124 : zz_D zy_readInto_8_2 124 (.aload_n 0) 1 125 := ⟨zq_42 zg_8_2_105.2.2.2.2.2.2.2.2.2.1, rfl⟩
theorem zd_8_2_125 : zz_D zy_readInto_8_2 125 (.aload_n 0) 1 126 := ⟨zq_42 zg_8_2_105.2.2.2.2.2.2.2.2.2.2.1, rfl⟩
theorem zd_8_2_126 : zz_D zy_readInto_8_2 126 (.getfield 15) 3 129 := ⟨zq_180 zg_8_2_105.2.2.2.2.2.2.2.2.2.2.2.1 zg_8_2_105.2.2.2.2.2.2.2.2.2.2.2.2.1 zg_8_2_105.2.2.2.2.2.2.2.2.2.2.2.2.2.1 rfl, rfl⟩
theorem zd_8_2_129 : zz_D zy_readInto_8_2 129 (.getfield 78) 3 132 := ⟨zq_180 zg_8_2_105.2.2.2.2.2.2.2.2.2.2.2.2.2.2.1 zg_8_2_105.2.2.2.2.2.2.2.2.2.2.2.2.2.2.2.1 zg_8_2_105.2.2.2.2.2.2.2.2.2.2.2.2.2.2.2.2.1 rfl, rfl⟩
theorem zd_8_2_132 : zz_D zy_readInto_8_2 132 (.iconst 1) 1 133 := ⟨zq_4 zg_8_2_105.2.2.2.2.2.2.2.2.2.2.2.2.2.2.2.2.2.1, rfl⟩
theorem zd_8_2_133 : zz_D zy_readInto_8_2 133 (.isub) 1 134 := ⟨zq_100 zg_8_2_105.2.2.2.2.2.2.2.2.2.2.2.2.2.2.2.2.2.2.1, rfl⟩
theorem zd_8_2_134 : zz_D zy_readInto_8_2 134 (.invokevirtual 81) 3 137 := ⟨zq_182 zg_8_2_105.2.2.2.2.2.2.2.2.2.2.2.2.2.2.2.2.2.2.2.1 zg_8_2_105.2.2.2.2.2.2.2.2.2.2.2.2.2.2.2.2.2.2.2.2.1 zg_8_2_105.2.2.2.2.2.2.2.2.2.2.2.2.2.2.2.2.2.2.2.2.2 rfl, rfl⟩
theorem zg_8_13_0 : zq_at zy_keepName_8_13.2.1 0 27 ∧ zq_at zy_keepName_8_13.2.1 1 155 ∧ zq_at zy_keepName_8_13.2.1 2 0 ∧ zq_at zy_keepName_8_13.2.1 3 32 ∧ zq_at zy_keepName_8_13.2.1 33 177 ∧ zq_at zy_keepName_8_13.2.1 4 27 ∧ zq_at zy_keepName_8_13.2.1 5 42 ∧ zq_at zy_keepName_8_13.2.1 6 180 ∧ zq_at zy_keepName_8_13.2.1 7 0 ∧ zq_at zy_keepName_8_13.2.1 8 25 ∧ zq_at zy_keepName_8_13.2.1 9 190 ∧ zq_at zy_keepName_8_13.2.1 10 162 ∧ zq_at zy_keepName_8_13.2.1 11 0 ∧ zq_at zy_keepName_8_13.2.1 12 23 ∧ zq_at zy_keepName_8_13.2.1 13 42 ∧ zq_at zy_keepName_8_13.2.1 14 180 ∧ zq_at zy_keepName_8_13.2.1 15 0 ∧ zq_at zy_keepName_8_13.2.1 16 21 ∧ zq_at zy_keepName_8_13.2.1 17 27 ∧ zq_at zy_keepName_8_13.2.1 18 42 ∧ zq_at zy_keepName_8_13.2.1 19 180 ∧ zq_at zy_keepName_8_13.2.1 20 0 ∧ zq_at zy_keepName_8_13.2.1 21 28 ∧ zq_at zy_keepName_8_13.2.1 22 79 := by decide +kernel
theorem zd_8_13_0 : zz_D zy_keepName_8_13 0 (.iload_n 1) 1 1 := ⟨zq_27 zg_8_13_0.1, rfl⟩
theorem zd_8_13_1 : zz_B zy_keepName_8_13 1 (Instr.ifCond .lt) 33 4 := ⟨32, zq_155 zg_8_13_0.2.1 zg_8_13_0.2.2.1 zg_8_13_0.2.2.2.1 (by decide), rfl, rfl⟩
theorem zd_8_13_33 : zz_D zy_keepName_8_13 33 (.return_) 1 34 := ⟨zq_177 zg_8_13_0.2.2.2.2.1, rfl⟩
theorem zd_8_13_4 : zz_D zy_keepName_8_13 4 (.iload_n 1) 1 5 := ⟨zq_27 zg_8_13_0.2.2.2.2.2.1, rfl⟩
theorem zd_8_13_5 : zz_D zy_keepName_8_13 5 (.aload_n 0) 1 6 := ⟨zq_42 zg_8_13_0.2.2.2.2.2.2.1, rfl⟩
theorem zd_8_13_6 : zz_D zy_keepName_8_13 6 (.getfield 25) 3 9 := ⟨zq_180 zg_8_13_0.2.2.2.2.2.2.2.1 zg_8_13_0.2.2.2.2.2.2.2.2.1 zg_8_13_0.2.2.2.2.2.2.2.2.2.1 rfl, rfl⟩
theorem zd_8_13_9 : zz_D zy_keepName_8_13 9 (.arraylength) 1 10 := ⟨zq_190 zg_8_13_0.2.2.2.2.2.2.2.2.2.2.1, rfl⟩
theorem zd_8_13_10 : zz_B zy_keepName_8_13 10 (Instr.if_icmp .ge) 33 13 := ⟨23, zq_162 zg_8_13_0.2.2.2.2.2.2.2.2.2.2.2.1 zg_8_13_0.2.2.2.2.2.2.2.2.2.2.2.2.1 zg_8_13_0.2.2.2.2.2.2.2.2.2.2.2.2.2.1 (by decide), rfl, rfl⟩
theorem zd_8_13_13 : zz_D zy_keepName_8_13 13 (.aload_n 0) 1 14 := ⟨zq_42 zg_8_13_0.2.2.2.2.2.2.2.2.2.2.2.2.2.2.1, rfl⟩
theorem zd_8_13_14 : zz_D zy_keepName_8_13 14 (.getfield 21) 3 17 := ⟨zq_180 zg_8_13_0.2.2.2.2.2.2.2.2.2.2.2.2.2.2.2.1 zg_8_13_0.2.2.2.2.2.2.2.2.2.2.2.2.2.2.2.2.1 zg_8_13_0.2.2.2.2.2.2.2.2.2.2.2.2.2.2.2.2.2.1 rfl, rfl⟩
theorem zd_8_13_17 : zz_D zy_keepName_8_13 17 (.iload_n 1) 1 18 := ⟨zq_27 zg_8_13_0.2.2.2.2.2.2.2.2.2.2.2.2.2.2.2.2.2.2.1, rfl⟩
theorem zd_8_13_18 : zz_D zy_keepName_8_13 18 (.aload_n 0) 1 19 := ⟨zq_42 zg_8_13_0.2.2.2.2.2.2.2.2.2.2.2.2.2.2.2.2.2.2.2.1, rfl⟩
theorem zd_8_13_19 : zz_D zy_keepName_8_13 19 (.getfield 28) 3 22 := ⟨zq_180 zg_8_13_0.2.2.2.2.2.2.2.2.2.2.2.2.2.2.2.2.2.2.2.2.1 zg_8_13_0.2.2.2.2.2.2.2.2.2.2.2.2.2.2.2.2.2.2.2.2.2.1 zg_8_13_0.2.2.2.2.2.2.2.2.2.2.2.2.2.2.2.2.2.2.2.2.2.2.1 rfl, rfl⟩
theorem zd_8_13_22 : zz_D zy_keepName_8_13 22 (.iastore) 1 23 := ⟨zq_79 zg_8_13_0.2.2.2.2.2.2.2.2.2.2.2.2.2.2.2.2.2.2.2.2.2.2.2, rfl⟩
theorem zg_8_13_23 : zq_at zy_keepName_8_13.2.1 23 42 ∧ zq_at zy_keepName_8_13.2.1 24 180 ∧ zq_at zy_keepName_8_13.2.1 25 0 ∧ zq_at zy_keepName_8_13.2.1 26 25 ∧ zq_at zy_keepName_8_13.2.1 27 27 ∧ zq_at zy_keepName_8_13.2.1 28 42 ∧ zq_at zy_keepName_8_13.2.1 29 180 ∧ zq_at zy_keepName_8_13.2.1 30 0 ∧ zq_at zy_keepName_8_13.2.1 31 32 ∧ zq_at zy_keepName_8_13.2.1 32 79 := by decide +kernel
theorem zd_8_13_23 : zz_D zy_keepName_8_13 23 (.aload_n 0) 1 24 := ⟨zq_42 zg_8_13_23.1, rfl⟩
theorem zd_8_13_24 : zz_D zy_keepName_8_13 24 (.getfield 25) 3 27 := ⟨zq_180 zg_8_13_23.2.1 zg_8_13_23.2.2.1 zg_8_13_23.2.2.2.1 rfl, rfl⟩
theorem zd_8_13_27 : zz_D zy_keepName_8_13 27 (.iload_n 1) 1 28 := ⟨zq_27 zg_8_13_23.2.2.2.2.1, rfl⟩
theorem zd_8_13_28 : zz_D zy_keepName_8_13 28 (.aload_n 0) 1 29 := ⟨zq_42 zg_8_13_23.2.2.2.2.2.1, rfl⟩
theorem zd_8_13_29 : zz_D zy_keepName_8_13 29 (.getfield 32) 3 32 := ⟨zq_180 zg_8_13_23.2.2.2.2.2.2.1 zg_8_13_23.2.2.2.2.2.2.2.1 zg_8_13_23.2.2.2.2.2.2.2.2.1 rfl, rfl⟩
theorem zd_8_13_32 : zz_D zy_keepName_8_13 32 (.iastore) 1 33 := ⟨zq_79 zg_8_13_23.2.2.2.2.2.2.2.2.2, rfl⟩
-- TensorForge$NetworkReader keepName (I)V
abbrev zr_keepName_8_13 : Room := { frames := 0, cells := 0, slots := 0, locals := 0 }
def zp_keepName_8_13 (p0 : Int) (S0 : zz_S) : zz_S → Prop := fun S => zz_G S ∧ zz_fr [] [] (fun a i => (a = 1074 ∧ i = p0.toNat) ∨ (a = 1075 ∧ i = p0.toNat)) S0 S ∧ ((0 ≤ p0 ∧ p0 < 11) → S 1074 p0.toNat = S0 1073 4 ∧ S 1075 p0.toNat = S0 1073 5) ∧ (∀ i : Nat, (i : Int) ≠ p0 → S 1074 i = S0 1074 i ∧ S 1075 i = S0 1075 i)
theorem zc_keepName_8_13 {g : mm_G} {l : Launch} (p0 : Int) (S0 : zz_S) (n : Nat) (hn : zz_end ≤ n) (G_S0 : zz_G S0) (hp0 : (-2147483648) ≤ p0 ∧ p0 ≤ 2147483647) : mm_Met g l zy_keepName_8_13 zr_keepName_8_13 [.ref 1073, zi p0] (zz_M S0 n) n (zz_QV n (zp_keepName_8_13 p0 S0)) := by
  refine zz_enter (by decide) (Nat.le_of_ble_eq_true rfl) (zz_less (ls1 := [some (.ref 1073), some (zi p0)]) ⟨rfl, ⟨rfl, trivial⟩⟩ ?_)
  have F_S0 : zz_fr [] [] (fun a i => (a = 1074 ∧ i = p0.toNat) ∨ (a = 1075 ∧ i = p0.toNat)) S0 S0 := zz_fr.refl
  refine zz_iload_n (x := p0) rfl zd_8_13_0 ?_
  refine zz_if_lt (by omega) zd_8_13_1 (fun c1 => ?_) (fun c1 => ?_)
  · have g2 := zz_G.r G_S0 1074 p0.toNat 0 1500 rfl rfl
    have g3 := zz_G.r G_S0 1075 p0.toNat (-1500) 1500 rfl rfl
    exact zz_vret zd_8_13_33 rfl (Nat.zero_le _) (Nat.zero_le _) ⟨_, rfl, G_S0, F_S0, (fun h => by omega), (fun i hi => ⟨rfl, rfl⟩)⟩
  · refine zz_iload_n (x := p0) rfl zd_8_13_4 ?_
    refine zz_aload_n (x := 1073) rfl zd_8_13_5 ?_
    refine zz_getr (kd := 0) (z := 1075) zd_8_13_6 zf_NetworkReader_25 zT_1073 rfl (zz_ltn hn rfl) (zz_G.eq G_S0 1073 3 1075 rfl rfl) (by decide) 1075 rfl ?_
    refine zz_alen zd_8_13_9 zT_1075 rfl (zz_ltn hn rfl) ?_
    refine zz_icmp_ge (by omega) (by omega) zd_8_13_10 (fun c4 => ?_) (fun c4 => ?_)
    · have g5 := zz_G.r G_S0 1074 p0.toNat 0 1500 rfl rfl
      have g6 := zz_G.r G_S0 1075 p0.toNat (-1500) 1500 rfl rfl
      exact zz_vret zd_8_13_33 rfl (Nat.zero_le _) (Nat.zero_le _) ⟨_, rfl, G_S0, F_S0, (fun h => by omega), (fun i hi => ⟨rfl, rfl⟩)⟩
    · refine zz_aload_n (x := 1073) rfl zd_8_13_13 ?_
      refine zz_getr (kd := 0) (z := 1074) zd_8_13_14 zf_NetworkReader_21 zT_1073 rfl (zz_ltn hn rfl) (zz_G.eq G_S0 1073 2 1074 rfl rfl) (by decide) 1074 rfl ?_
      refine zz_iload_n (x := p0) rfl zd_8_13_17 ?_
      refine zz_aload_n (x := 1073) rfl zd_8_13_18 ?_
      have g7 := zz_G.r G_S0 1073 4 0 1500 rfl rfl
      refine zz_geti (z := S0 1073 4) zd_8_13_19 zf_NetworkReader_28 zT_1073 rfl (zz_ltn hn rfl) rfl ?_
      refine zz_iast zd_8_13_22 zT_1074 rfl (zz_ltn hn rfl) (by decide) (by omega) (fun S8 qS8 => ?_)
      have G_S8 := zz_G.put G_S0 qS8 0 1500 rfl (by omega)
      have F_S8 := zz_fr.putv F_S0 qS8 (Or.inl ⟨rfl, rfl⟩)
      refine zz_aload_n (x := 1073) rfl zd_8_13_23 ?_
      refine zz_getr (kd := 0) (z := 1075) zd_8_13_24 zf_NetworkReader_25 zT_1073 rfl (zz_ltn hn rfl) (zz_G.eq G_S8 1073 3 1075 rfl rfl) (by decide) 1075 rfl ?_
      refine zz_iload_n (x := p0) rfl zd_8_13_27 ?_
      refine zz_aload_n (x := 1073) rfl zd_8_13_28 ?_
      have g9 := zz_G.r G_S0 1073 5 (-1500) 1500 rfl rfl
      refine zz_geti (z := S0 1073 5) zd_8_13_29 zf_NetworkReader_32 zT_1073 rfl (zz_ltn hn rfl) (zz_ro qS8 (fun h => absurd h.1 (by decide)) rfl) ?_
      refine zz_iast zd_8_13_32 zT_1075 rfl (zz_ltn hn rfl) (by decide) (by omega) (fun S10 qS10 => ?_)
      have G_S10 := zz_G.put G_S8 qS10 (-1500) 1500 rfl (by omega)
      have F_S10 := zz_fr.putv F_S8 qS10 (Or.inr (⟨rfl, rfl⟩))
      have e11 : S10 1074 p0.toNat = S0 1073 4 := (zz_ro qS10 (fun h => absurd h.1 (by decide)) (zz_rs qS8))
      have e12 : S10 1075 p0.toNat = S0 1073 5 := (zz_rs qS10)
      exact zz_vret zd_8_13_33 rfl (Nat.zero_le _) (Nat.zero_le _) ⟨_, rfl, G_S10, F_S10, (fun h => ⟨by omega, by omega⟩), (fun i hi => ⟨F_S10 1074 i (zz_nc1 rfl) rfl (by omega), F_S10 1075 i (zz_nc1 rfl) rfl (by omega)⟩)⟩
theorem zk_NetworkReader_81 : mm_Vl "TensorForge$NetworkReader" 81 8 1 zy_keepName_8_13 := ⟨zyw_keepName_8_13, (R_NetworkReader, F_NetworkReader, 9), rfl, mm_tb_1 1036 (by decide +kernel) rfl, mm_tb_1 1038 (by decide +kernel) rfl, mm_tb_s 52 (by decide +kernel) rfl⟩
abbrev zy_readLayer_8_4 : mm_Y := (⟨"TensorForge$NetworkReader", "readLayer", "()Z"⟩, prog_8_method_4_code, 4, (some .boolean))
theorem zyw_readLayer_8_4 : mm_Yw zy_readLayer_8_4 0 := ⟨mm_tb_1 923 (by decide +kernel) rfl, mm_tb_1 9 (by decide +kernel) rfl, ⟨by decide, by decide⟩, by decide +kernel⟩
abbrev zy_readTensor_8_5 : mm_Y := (⟨"TensorForge$NetworkReader", "readTensor", "()I"⟩, prog_8_method_5_code, 1, (some .int))
theorem zyw_readTensor_8_5 : mm_Yw zy_readTensor_8_5 0 := ⟨mm_tb_1 931 (by decide +kernel) rfl, mm_tb_1 9 (by decide +kernel) rfl, ⟨by decide, by decide⟩, by decide +kernel⟩
theorem zg_8_2_62 : zq_at zy_readInto_8_2.2.1 62 42 ∧ zq_at zy_readInto_8_2.2.1 63 182 ∧ zq_at zy_readInto_8_2.2.1 64 0 ∧ zq_at zy_readInto_8_2.2.1 65 65 := by decide +kernel
theorem zd_8_2_62 : zz_D zy_readInto_8_2 62 (.aload_n 0) 1 63 := ⟨zq_42 zg_8_2_62.1, rfl⟩
theorem zd_8_2_63 : zz_D zy_readInto_8_2 63 (.invokevirtual 65) 3 66 := ⟨zq_182 zg_8_2_62.2.1 zg_8_2_62.2.2.1 zg_8_2_62.2.2.2 rfl, rfl⟩
theorem zg_8_4_0 : zq_at zy_readLayer_8_4.2.1 0 42 ∧ zq_at zy_readLayer_8_4.2.1 1 180 ∧ zq_at zy_readLayer_8_4.2.1 2 0 ∧ zq_at zy_readLayer_8_4.2.1 3 9 ∧ zq_at zy_readLayer_8_4.2.1 4 18 ∧ zq_at zy_readLayer_8_4.2.1 5 110 ∧ zq_at zy_readLayer_8_4.2.1 6 182 ∧ zq_at zy_readLayer_8_4.2.1 7 0 ∧ zq_at zy_readLayer_8_4.2.1 8 87 ∧ zq_at zy_readLayer_8_4.2.1 9 153 ∧ zq_at zy_readLayer_8_4.2.1 10 0 ∧ zq_at zy_readLayer_8_4.2.1 11 21 ∧ zq_at zy_readLayer_8_4.2.1 30 42 ∧ zq_at zy_readLayer_8_4.2.1 31 180 ∧ zq_at zy_readLayer_8_4.2.1 32 0 ∧ zq_at zy_readLayer_8_4.2.1 33 9 ∧ zq_at zy_readLayer_8_4.2.1 34 18 ∧ zq_at zy_readLayer_8_4.2.1 35 114 ∧ zq_at zy_readLayer_8_4.2.1 36 182 ∧ zq_at zy_readLayer_8_4.2.1 37 0 ∧ zq_at zy_readLayer_8_4.2.1 38 87 ∧ zq_at zy_readLayer_8_4.2.1 39 153 ∧ zq_at zy_readLayer_8_4.2.1 40 0 ∧ zq_at zy_readLayer_8_4.2.1 41 20 := by decide +kernel
theorem zd_8_4_0 : zz_D zy_readLayer_8_4 0 (.aload_n 0) 1 1 := ⟨zq_42 zg_8_4_0.1, rfl⟩
theorem zd_8_4_1 : zz_D zy_readLayer_8_4 1 (.getfield 9) 3 4 := ⟨zq_180 zg_8_4_0.2.1 zg_8_4_0.2.2.1 zg_8_4_0.2.2.2.1 rfl, rfl⟩
theorem zd_8_4_4 : zz_D zy_readLayer_8_4 4 (.ldc 110) 2 6 := ⟨zq_18 zg_8_4_0.2.2.2.2.1 zg_8_4_0.2.2.2.2.2.1, rfl⟩
theorem zd_8_4_6 : zz_D zy_readLayer_8_4 6 (.invokevirtual 87) 3 9 := ⟨zq_182 zg_8_4_0.2.2.2.2.2.2.1 zg_8_4_0.2.2.2.2.2.2.2.1 zg_8_4_0.2.2.2.2.2.2.2.2.1 rfl, rfl⟩
theorem zd_8_4_9 : zz_B zy_readLayer_8_4 9 (Instr.ifCond .eq) 30 12 := ⟨21, zq_153 zg_8_4_0.2.2.2.2.2.2.2.2.2.1 zg_8_4_0.2.2.2.2.2.2.2.2.2.2.1 zg_8_4_0.2.2.2.2.2.2.2.2.2.2.2.1 (by decide), rfl, rfl⟩
theorem zd_8_4_30 : zz_D zy_readLayer_8_4 30 (.aload_n 0) 1 31 := ⟨zq_42 zg_8_4_0.2.2.2.2.2.2.2.2.2.2.2.2.1, rfl⟩
theorem zd_8_4_31 : zz_D zy_readLayer_8_4 31 (.getfield 9) 3 34 := ⟨zq_180 zg_8_4_0.2.2.2.2.2.2.2.2.2.2.2.2.2.1 zg_8_4_0.2.2.2.2.2.2.2.2.2.2.2.2.2.2.1 zg_8_4_0.2.2.2.2.2.2.2.2.2.2.2.2.2.2.2.1 rfl, rfl⟩
theorem zd_8_4_34 : zz_D zy_readLayer_8_4 34 (.ldc 114) 2 36 := ⟨zq_18 zg_8_4_0.2.2.2.2.2.2.2.2.2.2.2.2.2.2.2.2.1 zg_8_4_0.2.2.2.2.2.2.2.2.2.2.2.2.2.2.2.2.2.1, rfl⟩
theorem zd_8_4_36 : zz_D zy_readLayer_8_4 36 (.invokevirtual 87) 3 39 := ⟨zq_182 zg_8_4_0.2.2.2.2.2.2.2.2.2.2.2.2.2.2.2.2.2.2.1 zg_8_4_0.2.2.2.2.2.2.2.2.2.2.2.2.2.2.2.2.2.2.2.1 zg_8_4_0.2.2.2.2.2.2.2.2.2.2.2.2.2.2.2.2.2.2.2.2.1 rfl, rfl⟩
theorem zd_8_4_39 : zz_B zy_readLayer_8_4 39 (Instr.ifCond .eq) 59 42 := ⟨20, zq_153 zg_8_4_0.2.2.2.2.2.2.2.2.2.2.2.2.2.2.2.2.2.2.2.2.2.1 zg_8_4_0.2.2.2.2.2.2.2.2.2.2.2.2.2.2.2.2.2.2.2.2.2.2.1 zg_8_4_0.2.2.2.2.2.2.2.2.2.2.2.2.2.2.2.2.2.2.2.2.2.2.2 (by decide), rfl, rfl⟩
theorem zg_8_4_59 : zq_at zy_readLayer_8_4.2.1 59 42 ∧ zq_at zy_readLayer_8_4.2.1 60 180 ∧ zq_at zy_readLayer_8_4.2.1 61 0 ∧ zq_at zy_readLayer_8_4.2.1 62 9 ∧ zq_at zy_readLayer_8_4.2.1 63 18 ∧ zq_at zy_readLayer_8_4.2.1 64 116 ∧ zq_at zy_readLayer_8_4.2.1 65 182 ∧ zq_at zy_readLayer_8_4.2.1 66 0 ∧ zq_at zy_readLayer_8_4.2.1 67 87 ∧ zq_at zy_readLayer_8_4.2.1 68 153 ∧ zq_at zy_readLayer_8_4.2.1 69 0 ∧ zq_at zy_readLayer_8_4.2.1 70 20 ∧ zq_at zy_readLayer_8_4.2.1 88 3 ∧ zq_at zy_readLayer_8_4.2.1 89 172 ∧ zq_at zy_readLayer_8_4.2.1 71 6 ∧ zq_at zy_readLayer_8_4.2.1 72 60 ∧ zq_at zy_readLayer_8_4.2.1 73 42 ∧ zq_at zy_readLayer_8_4.2.1 74 17 ∧ zq_at zy_readLayer_8_4.2.1 75 0 ∧ zq_at zy_readLayer_8_4.2.1 76 224 ∧ zq_at zy_readLayer_8_4.2.1 77 181 ∧ zq_at zy_readLayer_8_4.2.1 78 0 ∧ zq_at zy_readLayer_8_4.2.1 79 35 ∧ zq_at zy_readLayer_8_4.2.1 80 42 := by decide +kernel
theorem zd_8_4_59 : zz_D zy_readLayer_8_4 59 (.aload_n 0) 1 60 := ⟨zq_42 zg_8_4_59.1, rfl⟩
theorem zd_8_4_60 : zz_D zy_readLayer_8_4 60 (.getfield 9) 3 63 := ⟨zq_180 zg_8_4_59.2.1 zg_8_4_59.2.2.1 zg_8_4_59.2.2.2.1 rfl, rfl⟩
theorem zd_8_4_63 : zz_D zy_readLayer_8_4 63 (.ldc 116) 2 65 := ⟨zq_18 zg_8_4_59.2.2.2.2.1 zg_8_4_59.2.2.2.2.2.1, rfl⟩
theorem zd_8_4_65 : zz_D zy_readLayer_8_4 65 (.invokevirtual 87) 3 68 := ⟨zq_182 zg_8_4_59.2.2.2.2.2.2.1 zg_8_4_59.2.2.2.2.2.2.2.1 zg_8_4_59.2.2.2.2.2.2.2.2.1 rfl, rfl⟩
theorem zd_8_4_68 : zz_B zy_readLayer_8_4 68 (Instr.ifCond .eq) 88 71 := ⟨20, zq_153 zg_8_4_59.2.2.2.2.2.2.2.2.2.1 zg_8_4_59.2.2.2.2.2.2.2.2.2.2.1 zg_8_4_59.2.2.2.2.2.2.2.2.2.2.2.1 (by decide), rfl, rfl⟩
theorem zd_8_4_88 : zz_D zy_readLayer_8_4 88 (.iconst 0) 1 89 := ⟨zq_3 zg_8_4_59.2.2.2.2.2.2.2.2.2.2.2.2.1, rfl⟩
theorem zd_8_4_89 : zz_D zy_readLayer_8_4 89 (.ireturn) 1 90 := ⟨zq_172 zg_8_4_59.2.2.2.2.2.2.2.2.2.2.2.2.2.1, rfl⟩
theorem zd_8_4_71 : zz_D zy_readLayer_8_4 71 (.iconst 3) 1 72 := ⟨zq_6 zg_8_4_59.2.2.2.2.2.2.2.2.2.2.2.2.2.2.1, rfl⟩
theorem zd_8_4_72 : zz_D zy_readLayer_8_4 72 (.istore_n 1) 1 73 := ⟨zq_60 zg_8_4_59.2.2.2.2.2.2.2.2.2.2.2.2.2.2.2.1, rfl⟩
theorem zd_8_4_73 : zz_D zy_readLayer_8_4 73 (.aload_n 0) 1 74 := ⟨zq_42 zg_8_4_59.2.2.2.2.2.2.2.2.2.2.2.2.2.2.2.2.1, rfl⟩
theorem zd_8_4_74 : zz_D zy_readLayer_8_4 74 (.sipush 224) 3 77 := ⟨zq_17 zg_8_4_59.2.2.2.2.2.2.2.2.2.2.2.2.2.2.2.2.2.1 zg_8_4_59.2.2.2.2.2.2.2.2.2.2.2.2.2.2.2.2.2.2.1 zg_8_4_59.2.2.2.2.2.2.2.2.2.2.2.2.2.2.2.2.2.2.2.1 (by decide), rfl⟩
theorem zd_8_4_77 : zz_D zy_readLayer_8_4 77 (.putfield 35) 3 80 := ⟨zq_181 zg_8_4_59.2.2.2.2.2.2.2.2.2.2.2.2.2.2.2.2.2.2.2.2.1 zg_8_4_59.2.2.2.2.2.2.2.2.2.2.2.2.2.2.2.2.2.2.2.2.2.1 zg_8_4_59.2.2.2.2.2.2.2.2.2.2.2.2.2.2.2.2.2.2.2.2.2.2.1 rfl, rfl⟩
theorem zd_8_4_80 : zz_D zy_readLayer_8_4 80 (.aload_n 0) 1 81 := ⟨zq_42 zg_8_4_59.2.2.2.2.2.2.2.2.2.2.2.2.2.2.2.2.2.2.2.2.2.2.2, rfl⟩
theorem zg_8_4_81 : zq_at zy_readLayer_8_4.2.1 81 3 ∧ zq_at zy_readLayer_8_4.2.1 82 181 ∧ zq_at zy_readLayer_8_4.2.1 83 0 ∧ zq_at zy_readLayer_8_4.2.1 84 38 ∧ zq_at zy_readLayer_8_4.2.1 85 167 ∧ zq_at zy_readLayer_8_4.2.1 86 0 ∧ zq_at zy_readLayer_8_4.2.1 87 5 ∧ zq_at zy_readLayer_8_4.2.1 90 42 ∧ zq_at zy_readLayer_8_4.2.1 91 182 ∧ zq_at zy_readLayer_8_4.2.1 92 0 ∧ zq_at zy_readLayer_8_4.2.1 93 118 := by decide +kernel
theorem zd_8_4_81 : zz_D zy_readLayer_8_4 81 (.iconst 0) 1 82 := ⟨zq_3 zg_8_4_81.1, rfl⟩
theorem zd_8_4_82 : zz_D zy_readLayer_8_4 82 (.putfield 38) 3 85 := ⟨zq_181 zg_8_4_81.2.1 zg_8_4_81.2.2.1 zg_8_4_81.2.2.2.1 rfl, rfl⟩
theorem zd_8_4_85 : zz_B zy_readLayer_8_4 85 Instr.goto 90 88 := ⟨5, zq_167 zg_8_4_81.2.2.2.2.1 zg_8_4_81.2.2.2.2.2.1 zg_8_4_81.2.2.2.2.2.2.1 (by decide), rfl, rfl⟩
theorem zd_8_4_90 : zz_D zy_readLayer_8_4 90 (.aload_n 0) 1 91 := ⟨zq_42 zg_8_4_81.2.2.2.2.2.2.2.1, rfl⟩
theorem zd_8_4_91 : zz_D zy_readLayer_8_4 91 (.invokevirtual 118) 3 94 := ⟨zq_182 zg_8_4_81.2.2.2.2.2.2.2.2.1 zg_8_4_81.2.2.2.2.2.2.2.2.2.1 zg_8_4_81.2.2.2.2.2.2.2.2.2.2 rfl, rfl⟩
theorem zg_8_5_0 : zq_at zy_readTensor_8_5.2.1 0 42 ∧ zq_at zy_readTensor_8_5.2.1 1 180 ∧ zq_at zy_readTensor_8_5.2.1 2 0 ∧ zq_at zy_readTensor_8_5.2.1 3 9 ∧ zq_at zy_readTensor_8_5.2.1 4 182 ∧ zq_at zy_readTensor_8_5.2.1 5 0 ∧ zq_at zy_readTensor_8_5.2.1 6 59 ∧ zq_at zy_readTensor_8_5.2.1 7 42 ∧ zq_at zy_readTensor_8_5.2.1 8 180 ∧ zq_at zy_readTensor_8_5.2.1 9 0 ∧ zq_at zy_readTensor_8_5.2.1 10 9 ∧ zq_at zy_readTensor_8_5.2.1 11 180 ∧ zq_at zy_readTensor_8_5.2.1 12 0 ∧ zq_at zy_readTensor_8_5.2.1 13 62 ∧ zq_at zy_readTensor_8_5.2.1 14 5 ∧ zq_at zy_readTensor_8_5.2.1 15 160 ∧ zq_at zy_readTensor_8_5.2.1 16 0 ∧ zq_at zy_readTensor_8_5.2.1 17 11 ∧ zq_at zy_readTensor_8_5.2.1 26 42 ∧ zq_at zy_readTensor_8_5.2.1 27 180 ∧ zq_at zy_readTensor_8_5.2.1 28 0 ∧ zq_at zy_readTensor_8_5.2.1 29 9 := by decide +kernel
theorem zd_8_5_0 : zz_D zy_readTensor_8_5 0 (.aload_n 0) 1 1 := ⟨zq_42 zg_8_5_0.1, rfl⟩
theorem zd_8_5_1 : zz_D zy_readTensor_8_5 1 (.getfield 9) 3 4 := ⟨zq_180 zg_8_5_0.2.1 zg_8_5_0.2.2.1 zg_8_5_0.2.2.2.1 rfl, rfl⟩
theorem zd_8_5_4 : zz_D zy_readTensor_8_5 4 (.invokevirtual 59) 3 7 := ⟨zq_182 zg_8_5_0.2.2.2.2.1 zg_8_5_0.2.2.2.2.2.1 zg_8_5_0.2.2.2.2.2.2.1 rfl, rfl⟩
theorem zd_8_5_7 : zz_D zy_readTensor_8_5 7 (.aload_n 0) 1 8 := ⟨zq_42 zg_8_5_0.2.2.2.2.2.2.2.1, rfl⟩
theorem zd_8_5_8 : zz_D zy_readTensor_8_5 8 (.getfield 9) 3 11 := ⟨zq_180 zg_8_5_0.2.2.2.2.2.2.2.2.1 zg_8_5_0.2.2.2.2.2.2.2.2.2.1 zg_8_5_0.2.2.2.2.2.2.2.2.2.2.1 rfl, rfl⟩
theorem zd_8_5_11 : zz_D zy_readTensor_8_5 11 (.getfield 62) 3 14 := ⟨zq_180 zg_8_5_0.2.2.2.2.2.2.2.2.2.2.2.1 zg_8_5_0.2.2.2.2.2.2.2.2.2.2.2.2.1 zg_8_5_0.2.2.2.2.2.2.2.2.2.2.2.2.2.1 rfl, rfl⟩
theorem zd_8_5_14 : zz_D zy_readTensor_8_5 14 (.iconst 2) 1 15 := ⟨zq_5 zg_8_5_0.2.2.2.2.2.2.2.2.2.2.2.2.2.2.1, rfl⟩
theorem zd_8_5_15 : zz_B zy_readTensor_8_5 15 (Instr.if_icmp .ne) 26 18 := ⟨11, zq_160 zg_8_5_0.2.2.2.2.2.2.2.2.2.2.2.2.2.2.2.1 zg_8_5_0.2.2.2.2.2.2.2.2.2.2.2.2.2.2.2.2.1 zg_8_5_0.2.2.2.2.2.2.2.2.2.2.2.2.2.2.2.2.2.1 (by decide), rfl, rfl⟩
theorem zd_8_5_26 : zz_D zy_readTensor_8_5 26 (.aload_n 0) 1 27 := ⟨zq_42 zg_8_5_0.2.2.2.2.2.2.2.2.2.2.2.2.2.2.2.2.2.2.1, rfl⟩
theorem zd_8_5_27 : zz_D zy_readTensor_8_5 27 (.getfield 9) 3 30 := ⟨zq_180 zg_8_5_0.2.2.2.2.2.2.2.2.2.2.2.2.2.2.2.2.2.2.2.1 zg_8_5_0.2.2.2.2.2.2.2.2.2.2.2.2.2.2.2.2.2.2.2.2.1 zg_8_5_0.2.2.2.2.2.2.2.2.2.2.2.2.2.2.2.2.2.2.2.2.2 rfl, rfl⟩
theorem zg_8_5_30 : zq_at zy_readTensor_8_5.2.1 30 180 ∧ zq_at zy_readTensor_8_5.2.1 31 0 ∧ zq_at zy_readTensor_8_5.2.1 32 62 ∧ zq_at zy_readTensor_8_5.2.1 33 4 ∧ zq_at zy_readTensor_8_5.2.1 34 160 ∧ zq_at zy_readTensor_8_5.2.1 35 0 ∧ zq_at zy_readTensor_8_5.2.1 36 10 ∧ zq_at zy_readTensor_8_5.2.1 44 2 ∧ zq_at zy_readTensor_8_5.2.1 45 172 ∧ zq_at zy_readTensor_8_5.2.1 37 42 ∧ zq_at zy_readTensor_8_5.2.1 38 182 ∧ zq_at zy_readTensor_8_5.2.1 39 0 ∧ zq_at zy_readTensor_8_5.2.1 40 128 ∧ zq_at zy_readTensor_8_5.2.1 41 167 ∧ zq_at zy_readTensor_8_5.2.1 42 0 ∧ zq_at zy_readTensor_8_5.2.1 43 4 ∧ zq_at zy_readTensor_8_5.2.1 18 42 ∧ zq_at zy_readTensor_8_5.2.1 19 180 ∧ zq_at zy_readTensor_8_5.2.1 20 0 ∧ zq_at zy_readTensor_8_5.2.1 21 9 ∧ zq_at zy_readTensor_8_5.2.1 22 180 ∧ zq_at zy_readTensor_8_5.2.1 23 0 ∧ zq_at zy_readTensor_8_5.2.1 24 94 ∧ zq_at zy_readTensor_8_5.2.1 25 172 := by decide +kernel
theorem zd_8_5_30 : zz_D zy_readTensor_8_5 30 (.getfield 62) 3 33 := ⟨zq_180 zg_8_5_30.1 zg_8_5_30.2.1 zg_8_5_30.2.2.1 rfl, rfl⟩
theorem zd_8_5_33 : zz_D zy_readTensor_8_5 33 (.iconst 1) 1 34 := ⟨zq_4 zg_8_5_30.2.2.2.1, rfl⟩
theorem zd_8_5_34 : zz_B zy_readTensor_8_5 34 (Instr.if_icmp .ne) 44 37 := ⟨10, zq_160 zg_8_5_30.2.2.2.2.1 zg_8_5_30.2.2.2.2.2.1 zg_8_5_30.2.2.2.2.2.2.1 (by decide), rfl, rfl⟩
theorem zd_8_5_44 : zz_D zy_readTensor_8_5 44 (.iconst (-1)) 1 45 := ⟨zq_2 zg_8_5_30.2.2.2.2.2.2.2.1, rfl⟩
theorem zd_8_5_45 : zz_D zy_readTensor_8_5 45 (.ireturn) 1 46 := ⟨zq_172 zg_8_5_30.2.2.2.2.2.2.2.2.1, rfl⟩
theorem zd_8_5_37 : zz_D zy_readTensor_8_5 37 (.aload_n 0) 1 38 := ⟨zq_42 zg_8_5_30.2.2.2.2.2.2.2.2.2.1, rfl⟩
theorem zd_8_5_38 : zz_D zy_readTensor_8_5 38 (.invokevirtual 128) 3 41 := ⟨zq_182 zg_8_5_30.2.2.2.2.2.2.2.2.2.2.1 zg_8_5_30.2.2.2.2.2.2.2.2.2.2.2.1 zg_8_5_30.2.2.2.2.2.2.2.2.2.2.2.2.1 rfl, rfl⟩
theorem zd_8_5_41 : zz_B zy_readTensor_8_5 41 Instr.goto 45 44 := ⟨4, zq_167 zg_8_5_30.2.2.2.2.2.2.2.2.2.2.2.2.2.1 zg_8_5_30.2.2.2.2.2.2.2.2.2.2.2.2.2.2.1 zg_8_5_30.2.2.2.2.2.2.2.2.2.2.2.2.2.2.2.1 (by decide), rfl, rfl⟩
theorem zd_8_5_18 : zz_D zy_readTensor_8_5 18 (.aload_n 0) 1 19 := ⟨zq_42 zg_8_5_30.2.2.2.2.2.2.2.2.2.2.2.2.2.2.2.2.1, rfl⟩
theorem zd_8_5_19 : zz_D zy_readTensor_8_5 19 (.getfield 9) 3 22 := ⟨zq_180 zg_8_5_30.2.2.2.2.2.2.2.2.2.2.2.2.2.2.2.2.2.1 zg_8_5_30.2.2.2.2.2.2.2.2.2.2.2.2.2.2.2.2.2.2.1 zg_8_5_30.2.2.2.2.2.2.2.2.2.2.2.2.2.2.2.2.2.2.2.1 rfl, rfl⟩
theorem zd_8_5_22 : zz_D zy_readTensor_8_5 22 (.getfield 94) 3 25 := ⟨zq_180 zg_8_5_30.2.2.2.2.2.2.2.2.2.2.2.2.2.2.2.2.2.2.2.2.1 zg_8_5_30.2.2.2.2.2.2.2.2.2.2.2.2.2.2.2.2.2.2.2.2.2.1 zg_8_5_30.2.2.2.2.2.2.2.2.2.2.2.2.2.2.2.2.2.2.2.2.2.2.1 rfl, rfl⟩
theorem zd_8_5_25 : zz_D zy_readTensor_8_5 25 (.ireturn) 1 26 := ⟨zq_172 zg_8_5_30.2.2.2.2.2.2.2.2.2.2.2.2.2.2.2.2.2.2.2.2.2.2.2, rfl⟩
-- TensorForge$NetworkReader readTensor ()I
abbrev zr_readTensor_8_5 : Room := { frames := 2, cells := 0, slots := 0, locals := 28 }
def zp_readTensor_8_5  (S0 : zz_S) : Int → zz_S → Prop := fun r S => zz_G S ∧ zz_fr [(1070, 3), (1070, 4), (1070, 5), (1070, 6)] [] (fun _ _ => False) S0 S ∧ ((-2147483648) ≤ r ∧ r ≤ 2147483647) ∧ (∀ N : Nat → Int, zt_NM (S0 1071) (S0 1074) (S0 1075) (S0 1070 1) N → r = zn_tt (zt_kn (S0 1071) (S0 1070 2) (S0 1070 3)) (zt_tv (S0 1071) (S0 1070 2) (S0 1070 3)) (zt_kc (S0 1071) (S0 1070 2) (S0 1070 3)) N 11) ∧ (S 1070 3 = zt_te (S0 1071) (S0 1070 2) (S0 1070 3)) ∧ (S0 1070 3 ≤ S 1070 3) ∧ (S0 1070 3 ≤ S0 1070 2 → S 1070 3 ≤ S0 1070 2)
theorem zc_readTensor_8_5 {g : mm_G} {l : Launch}  (S0 : zz_S) (n : Nat) (hn : zz_end ≤ n) (G_S0 : zz_G S0)  : mm_Met g l zy_readTensor_8_5 zr_readTensor_8_5 [.ref 1073] (zz_M S0 n) n (zz_QI n (zp_readTensor_8_5  S0)) := by
  refine zz_enter (by decide) (Nat.le_of_ble_eq_true rfl) (zz_less (ls1 := [some (.ref 1073)]) ⟨rfl, trivial⟩ ?_)
  have F_S0 : zz_fr [(1070, 3), (1070, 4), (1070, 5), (1070, 6)] [] (fun _ _ => False) S0 S0 := zz_fr.refl
  refine zz_aload_n (x := 1073) rfl zd_8_5_0 ?_
  refine zz_getr (kd := 0) (z := 1070) zd_8_5_1 zf_NetworkReader_9 zT_1073 rfl (zz_ltn hn rfl) (zz_G.eq G_S0 1073 0 1070 rfl rfl) (by decide) 1070 rfl ?_
  have g1 := zz_G.r G_S0 1070 2 (-1) 1500 rfl rfl
  have g2 := zz_G.r G_S0 1070 3 0 1500 rfl rfl
  refine zz_callVV [] zd_8_5_4 zk_NetworkReader_59 zT_1070 (zz_ltn hn rfl) rfl rfl ⟨Nat.le_of_ble_eq_true rfl, Nat.le_of_ble_eq_true rfl⟩ ⟨rfl, rfl⟩ (Nat.zero_le _) (Nat.zero_le _) (zc_nextToken_11_7  S0 n hn G_S0 ) (fun S3 hP => ?_)
  obtain ⟨G_S3, fS3, o5, o6, o7, o8, o9, o10, o11, o12, o13⟩ := hP
  have F_S3 := zz_fr.trans F_S0 fS3 rfl zz_nv
  refine zz_aload_n (x := 1073) rfl zd_8_5_7 ?_
  refine zz_getr (kd := 0) (z := 1070) zd_8_5_8 zf_NetworkReader_9 zT_1073 rfl (zz_ltn hn rfl) (zz_G.eq G_S3 1073 0 1070 rfl rfl) (by decide) 1070 rfl ?_
  have g14 := zz_G.r G_S3 1070 4 (-2147483648) 2147483647 rfl rfl
  refine zz_geti (z := S3 1070 4) zd_8_5_11 zf_NetworkReader_62 zT_1070 rfl (zz_ltn hn rfl) rfl ?_
  refine zz_iconst zd_8_5_14 ?_
  refine zz_icmp_ne (by omega) (by omega) zd_8_5_15 (fun c15 => ?_) (fun c15 => ?_)
  · refine zz_aload_n (x := 1073) rfl zd_8_5_26 ?_
    refine zz_getr (kd := 0) (z := 1070) zd_8_5_27 zf_NetworkReader_9 zT_1073 rfl (zz_ltn hn rfl) (zz_G.eq G_S3 1073 0 1070 rfl rfl) (by decide) 1070 rfl ?_
    refine zz_geti (z := S3 1070 4) zd_8_5_30 zf_NetworkReader_62 zT_1070 rfl (zz_ltn hn rfl) rfl ?_
    refine zz_iconst zd_8_5_33 ?_
    refine zz_icmp_ne (by omega) (by omega) zd_8_5_34 (fun c16 => ?_) (fun c16 => ?_)
    · refine zz_iconst zd_8_5_44 ?_
      have g17 := zz_G.r G_S3 1070 3 0 1500 rfl rfl
      exact zz_iret zd_8_5_45 rfl (Nat.zero_le _) (Nat.zero_le _) ⟨_, _, rfl, G_S3, F_S3, by omega, (fun N hN => (zn_tto o13 (by omega) (by omega)).symm), by omega, by omega, by omega⟩
    · refine zz_aload_n (x := 1073) rfl zd_8_5_37 ?_
      have g18 := zz_G.r G_S0 1070 1 0 1500 rfl rfl
      have e19 : S3 1070 1 = S0 1070 1 := (zz_rc fS3 rfl rfl (fun h => h) rfl)
      have g20 := zz_G.r G_S3 1070 3 0 1500 rfl rfl
      have g21 := zz_G.r G_S3 1070 5 0 1500 rfl rfl
      refine zz_callVI [] zd_8_5_38 zk_NetworkReader_128 zT_1073 (zz_ltn hn rfl) rfl rfl ⟨Nat.le_of_ble_eq_true rfl, Nat.le_of_ble_eq_true rfl⟩ ⟨rfl, rfl⟩ (Nat.zero_le _) (Nat.zero_le _) (zc_tensorNamed_8_6  S3 n hn G_S3 ) (fun v23 S22 hP => ?_)
      obtain ⟨rfl, o24, o25⟩ := hP
      rw [show S3 1071 = S0 1071 from funext (fun u => (zz_rc fS3 (zz_nc1 rfl) rfl (fun h => h) rfl)), show S3 1074 = S0 1074 from funext (fun u => (zz_rc fS3 (zz_nc1 rfl) rfl (fun h => h) rfl)), show S3 1075 = S0 1075 from funext (fun u => (zz_rc fS3 (zz_nc1 rfl) rfl (fun h => h) rfl)), show S3 1070 1 = S0 1070 1 from (zz_rc fS3 rfl rfl (fun h => h) rfl)] at o25
      refine zz_goto zd_8_5_41 ?_
      exact zz_iret zd_8_5_45 rfl (Nat.zero_le _) (Nat.zero_le _) ⟨_, _, rfl, G_S3, F_S3, by omega, (fun N hN => by rw [zn_ttw hN o13 (by omega)]; exact o25 N _ _ hN o13 (by omega)), by omega, by omega, by omega⟩
  · refine zz_aload_n (x := 1073) rfl zd_8_5_18 ?_
    refine zz_getr (kd := 0) (z := 1070) zd_8_5_19 zf_NetworkReader_9 zT_1073 rfl (zz_ltn hn rfl) (zz_G.eq G_S3 1073 0 1070 rfl rfl) (by decide) 1070 rfl ?_
    have g26 := zz_G.r G_S3 1070 6 (-2147483648) 2147483647 rfl rfl
    refine zz_geti (z := S3 1070 6) zd_8_5_22 zf_NetworkReader_94 zT_1070 rfl (zz_ltn hn rfl) rfl ?_
    have g27 := zz_G.r G_S3 1070 3 0 1500 rfl rfl
    exact zz_iret zd_8_5_25 rfl (Nat.zero_le _) (Nat.zero_le _) ⟨_, _, rfl, G_S3, F_S3, by omega, (fun N hN => by rw [zn_ttn o13 (by omega)]; omega), by omega, by omega, by omega⟩
theorem zk_NetworkReader_118 : mm_Vl "TensorForge$NetworkReader" 118 8 0 zy_readTensor_8_5 := ⟨zyw_readTensor_8_5, (R_NetworkReader, F_NetworkReader, 9), rfl, mm_tb_1 928 (by decide +kernel) rfl, mm_tb_1 930 (by decide +kernel) rfl, mm_tb_s 42 (by decide +kernel) rfl⟩
theorem zk_NetworkReader_125 : mm_Vl "TensorForge$NetworkReader" 125 2 3 zy_reset_4_2 := ⟨zyw_reset_4_2, (R_Layer, F_Layer, 15), rfl, mm_tb_1 944 (by decide +kernel) rfl, mm_tb_1 50 (by decide +kernel) rfl, mm_tb_1 51 (by decide +kernel) rfl⟩
theorem zg_8_4_94 : zq_at zy_readLayer_8_4.2.1 94 61 ∧ zq_at zy_readLayer_8_4.2.1 95 27 ∧ zq_at zy_readLayer_8_4.2.1 96 6 ∧ zq_at zy_readLayer_8_4.2.1 97 160 ∧ zq_at zy_readLayer_8_4.2.1 98 0 ∧ zq_at zy_readLayer_8_4.2.1 99 10 ∧ zq_at zy_readLayer_8_4.2.1 100 42 ∧ zq_at zy_readLayer_8_4.2.1 101 182 ∧ zq_at zy_readLayer_8_4.2.1 102 0 ∧ zq_at zy_readLayer_8_4.2.1 103 118 ∧ zq_at zy_readLayer_8_4.2.1 104 167 ∧ zq_at zy_readLayer_8_4.2.1 105 0 ∧ zq_at zy_readLayer_8_4.2.1 106 4 ∧ zq_at zy_readLayer_8_4.2.1 108 62 ∧ zq_at zy_readLayer_8_4.2.1 109 42 ∧ zq_at zy_readLayer_8_4.2.1 110 180 ∧ zq_at zy_readLayer_8_4.2.1 111 0 ∧ zq_at zy_readLayer_8_4.2.1 112 15 ∧ zq_at zy_readLayer_8_4.2.1 113 182 ∧ zq_at zy_readLayer_8_4.2.1 114 0 ∧ zq_at zy_readLayer_8_4.2.1 115 121 ∧ zq_at zy_readLayer_8_4.2.1 116 27 ∧ zq_at zy_readLayer_8_4.2.1 117 28 ∧ zq_at zy_readLayer_8_4.2.1 118 29 := by decide +kernel
theorem zd_8_4_94 : zz_D zy_readLayer_8_4 94 (.istore_n 2) 1 95 := ⟨zq_61 zg_8_4_94.1, rfl⟩
theorem zd_8_4_95 : zz_D zy_readLayer_8_4 95 (.iload_n 1) 1 96 := ⟨zq_27 zg_8_4_94.2.1, rfl⟩
theorem zd_8_4_96 : zz_D zy_readLayer_8_4 96 (.iconst 3) 1 97 := ⟨zq_6 zg_8_4_94.2.2.1, rfl⟩
theorem zd_8_4_97 : zz_B zy_readLayer_8_4 97 (Instr.if_icmp .ne) 107 100 := ⟨10, zq_160 zg_8_4_94.2.2.2.1 zg_8_4_94.2.2.2.2.1 zg_8_4_94.2.2.2.2.2.1 (by decide), rfl, rfl⟩
theorem zd_8_4_100 : zz_D zy_readLayer_8_4 100 (.aload_n 0) 1 101 := ⟨zq_42 zg_8_4_94.2.2.2.2.2.2.1, rfl⟩
theorem zd_8_4_101 : zz_D zy_readLayer_8_4 101 (.invokevirtual 118) 3 104 := ⟨zq_182 zg_8_4_94.2.2.2.2.2.2.2.1 zg_8_4_94.2.2.2.2.2.2.2.2.1 zg_8_4_94.2.2.2.2.2.2.2.2.2.1 rfl, rfl⟩
theorem zd_8_4_104 : zz_B zy_readLayer_8_4 104 Instr.goto 108 107 := ⟨4, zq_167 zg_8_4_94.2.2.2.2.2.2.2.2.2.2.1 zg_8_4_94.2.2.2.2.2.2.2.2.2.2.2.1 zg_8_4_94.2.2.2.2.2.2.2.2.2.2.2.2.1 (by decide), rfl, rfl⟩
theorem zd_8_4_108 : zz_D zy_readLayer_8_4 108 (.istore_n 3) 1 109 := ⟨zq_62 zg_8_4_94.2.2.2.2.2.2.2.2.2.2.2.2.2.1, rfl⟩
theorem zd_8_4_109 : zz_D zy_readLayer_8_4 109 (.aload_n 0) 1 110 := ⟨zq_42 zg_8_4_94.2.2.2.2.2.2.2.2.2.2.2.2.2.2.1, rfl⟩
theorem zd_8_4_110 : zz_D zy_readLayer_8_4 110 (.getfield 15) 3 113 := ⟨zq_180 zg_8_4_94.2.2.2.2.2.2.2.2.2.2.2.2.2.2.2.1 zg_8_4_94.2.2.2.2.2.2.2.2.2.2.2.2.2.2.2.2.1 zg_8_4_94.2.2.2.2.2.2.2.2.2.2.2.2.2.2.2.2.2.1 rfl, rfl⟩
theorem zd_8_4_113 : zz_D zy_readLayer_8_4 113 (.invokevirtual 121) 3 116 := ⟨zq_182 zg_8_4_94.2.2.2.2.2.2.2.2.2.2.2.2.2.2.2.2.2.2.1 zg_8_4_94.2.2.2.2.2.2.2.2.2.2.2.2.2.2.2.2.2.2.2.1 zg_8_4_94.2.2.2.2.2.2.2.2.2.2.2.2.2.2.2.2.2.2.2.2.1 rfl, rfl⟩
theorem zd_8_4_116 : zz_D zy_readLayer_8_4 116 (.iload_n 1) 1 117 := ⟨zq_27 zg_8_4_94.2.2.2.2.2.2.2.2.2.2.2.2.2.2.2.2.2.2.2.2.2.1, rfl⟩
theorem zd_8_4_117 : zz_D zy_readLayer_8_4 117 (.iload_n 2) 1 118 := ⟨zq_28 zg_8_4_94.2.2.2.2.2.2.2.2.2.2.2.2.2.2.2.2.2.2.2.2.2.2.1, rfl⟩
theorem zd_8_4_118 : zz_D zy_readLayer_8_4 118 (.iload_n 3) 1 119 := ⟨zq_29 zg_8_4_94.2.2.2.2.2.2.2.2.2.2.2.2.2.2.2.2.2.2.2.2.2.2.2, rfl⟩
theorem zg_8_4_119 : zq_at zy_readLayer_8_4.2.1 119 182 ∧ zq_at zy_readLayer_8_4.2.1 120 0 ∧ zq_at zy_readLayer_8_4.2.1 121 125 ∧ zq_at zy_readLayer_8_4.2.1 122 28 ∧ zq_at zy_readLayer_8_4.2.1 123 2 ∧ zq_at zy_readLayer_8_4.2.1 124 159 ∧ zq_at zy_readLayer_8_4.2.1 125 0 ∧ zq_at zy_readLayer_8_4.2.1 126 12 ∧ zq_at zy_readLayer_8_4.2.1 136 3 ∧ zq_at zy_readLayer_8_4.2.1 137 172 ∧ zq_at zy_readLayer_8_4.2.1 127 29 ∧ zq_at zy_readLayer_8_4.2.1 128 2 ∧ zq_at zy_readLayer_8_4.2.1 129 159 ∧ zq_at zy_readLayer_8_4.2.1 130 0 ∧ zq_at zy_readLayer_8_4.2.1 131 7 ∧ zq_at zy_readLayer_8_4.2.1 132 4 ∧ zq_at zy_readLayer_8_4.2.1 133 167 ∧ zq_at zy_readLayer_8_4.2.1 134 0 ∧ zq_at zy_readLayer_8_4.2.1 135 4 ∧ zq_at zy_readLayer_8_4.2.1 42 5 ∧ zq_at zy_readLayer_8_4.2.1 43 60 ∧ zq_at zy_readLayer_8_4.2.1 44 42 := by decide +kernel
theorem zd_8_4_119 : zz_D zy_readLayer_8_4 119 (.invokevirtual 125) 3 122 := ⟨zq_182 zg_8_4_119.1 zg_8_4_119.2.1 zg_8_4_119.2.2.1 rfl, rfl⟩
theorem zd_8_4_122 : zz_D zy_readLayer_8_4 122 (.iload_n 2) 1 123 := ⟨zq_28 zg_8_4_119.2.2.2.1, rfl⟩
theorem zd_8_4_123 : zz_D zy_readLayer_8_4 123 (.iconst (-1)) 1 124 := ⟨zq_2 zg_8_4_119.2.2.2.2.1, rfl⟩
theorem zd_8_4_124 : zz_B zy_readLayer_8_4 124 (Instr.if_icmp .eq) 136 127 := ⟨12, zq_159 zg_8_4_119.2.2.2.2.2.1 zg_8_4_119.2.2.2.2.2.2.1 zg_8_4_119.2.2.2.2.2.2.2.1 (by decide), rfl, rfl⟩
theorem zd_8_4_136 : zz_D zy_readLayer_8_4 136 (.iconst 0) 1 137 := ⟨zq_3 zg_8_4_119.2.2.2.2.2.2.2.2.1, rfl⟩
theorem zd_8_4_137 : zz_D zy_readLayer_8_4 137 (.ireturn) 1 138 := ⟨zq_172 zg_8_4_119.2.2.2.2.2.2.2.2.2.1, rfl⟩
theorem zd_8_4_127 : zz_D zy_readLayer_8_4 127 (.iload_n 3) 1 128 := ⟨zq_29 zg_8_4_119.2.2.2.2.2.2.2.2.2.2.1, rfl⟩
theorem zd_8_4_128 : zz_D zy_readLayer_8_4 128 (.iconst (-1)) 1 129 := ⟨zq_2 zg_8_4_119.2.2.2.2.2.2.2.2.2.2.2.1, rfl⟩
theorem zd_8_4_129 : zz_B zy_readLayer_8_4 129 (Instr.if_icmp .eq) 136 132 := ⟨7, zq_159 zg_8_4_119.2.2.2.2.2.2.2.2.2.2.2.2.1 zg_8_4_119.2.2.2.2.2.2.2.2.2.2.2.2.2.1 zg_8_4_119.2.2.2.2.2.2.2.2.2.2.2.2.2.2.1 (by decide), rfl, rfl⟩
theorem zd_8_4_132 : zz_D zy_readLayer_8_4 132 (.iconst 1) 1 133 := ⟨zq_4 zg_8_4_119.2.2.2.2.2.2.2.2.2.2.2.2.2.2.2.1, rfl⟩
theorem zd_8_4_133 : zz_B zy_readLayer_8_4 133 Instr.goto 137 136 := ⟨4, zq_167 zg_8_4_119.2.2.2.2.2.2.2.2.2.2.2.2.2.2.2.2.1 zg_8_4_119.2.2.2.2.2.2.2.2.2.2.2.2.2.2.2.2.2.1 zg_8_4_119.2.2.2.2.2.2.2.2.2.2.2.2.2.2.2.2.2.2.1 (by decide), rfl, rfl⟩
theorem zd_8_4_42 : zz_D zy_readLayer_8_4 42 (.iconst 2) 1 43 := ⟨zq_5 zg_8_4_119.2.2.2.2.2.2.2.2.2.2.2.2.2.2.2.2.2.2.2.1, rfl⟩
theorem zd_8_4_43 : zz_D zy_readLayer_8_4 43 (.istore_n 1) 1 44 := ⟨zq_60 zg_8_4_119.2.2.2.2.2.2.2.2.2.2.2.2.2.2.2.2.2.2.2.2.1, rfl⟩
theorem zd_8_4_44 : zz_D zy_readLayer_8_4 44 (.aload_n 0) 1 45 := ⟨zq_42 zg_8_4_119.2.2.2.2.2.2.2.2.2.2.2.2.2.2.2.2.2.2.2.2.2, rfl⟩
theorem zg_8_4_45 : zq_at zy_readLayer_8_4.2.1 45 17 ∧ zq_at zy_readLayer_8_4.2.1 46 0 ∧ zq_at zy_readLayer_8_4.2.1 47 137 ∧ zq_at zy_readLayer_8_4.2.1 48 181 ∧ zq_at zy_readLayer_8_4.2.1 49 0 ∧ zq_at zy_readLayer_8_4.2.1 50 35 ∧ zq_at zy_readLayer_8_4.2.1 51 42 ∧ zq_at zy_readLayer_8_4.2.1 52 4 ∧ zq_at zy_readLayer_8_4.2.1 53 181 ∧ zq_at zy_readLayer_8_4.2.1 54 0 ∧ zq_at zy_readLayer_8_4.2.1 55 38 ∧ zq_at zy_readLayer_8_4.2.1 56 167 ∧ zq_at zy_readLayer_8_4.2.1 57 0 ∧ zq_at zy_readLayer_8_4.2.1 58 34 ∧ zq_at zy_readLayer_8_4.2.1 107 28 ∧ zq_at zy_readLayer_8_4.2.1 12 4 ∧ zq_at zy_readLayer_8_4.2.1 13 60 ∧ zq_at zy_readLayer_8_4.2.1 14 42 ∧ zq_at zy_readLayer_8_4.2.1 15 17 ∧ zq_at zy_readLayer_8_4.2.1 16 0 ∧ zq_at zy_readLayer_8_4.2.1 17 255 ∧ zq_at zy_readLayer_8_4.2.1 18 181 ∧ zq_at zy_readLayer_8_4.2.1 19 0 ∧ zq_at zy_readLayer_8_4.2.1 20 35 := by decide +kernel
theorem zd_8_4_45 : zz_D zy_readLayer_8_4 45 (.sipush 137) 3 48 := ⟨zq_17 zg_8_4_45.1 zg_8_4_45.2.1 zg_8_4_45.2.2.1 (by decide), rfl⟩
theorem zd_8_4_48 : zz_D zy_readLayer_8_4 48 (.putfield 35) 3 51 := ⟨zq_181 zg_8_4_45.2.2.2.1 zg_8_4_45.2.2.2.2.1 zg_8_4_45.2.2.2.2.2.1 rfl, rfl⟩
theorem zd_8_4_51 : zz_D zy_readLayer_8_4 51 (.aload_n 0) 1 52 := ⟨zq_42 zg_8_4_45.2.2.2.2.2.2.1, rfl⟩
theorem zd_8_4_52 : zz_D zy_readLayer_8_4 52 (.iconst 1) 1 53 := ⟨zq_4 zg_8_4_45.2.2.2.2.2.2.2.1, rfl⟩
theorem zd_8_4_53 : zz_D zy_readLayer_8_4 53 (.putfield 38) 3 56 := ⟨zq_181 zg_8_4_45.2.2.2.2.2.2.2.2.1 zg_8_4_45.2.2.2.2.2.2.2.2.2.1 zg_8_4_45.2.2.2.2.2.2.2.2.2.2.1 rfl, rfl⟩
theorem zd_8_4_56 : zz_B zy_readLayer_8_4 56 Instr.goto 90 59 := ⟨34, zq_167 zg_8_4_45.2.2.2.2.2.2.2.2.2.2.2.1 zg_8_4_45.2.2.2.2.2.2.2.2.2.2.2.2.1 zg_8_4_45.2.2.2.2.2.2.2.2.2.2.2.2.2.1 (by decide), rfl, rfl⟩
theorem zd_8_4_107 : zz_D zy_readLayer_8_4 107 (.iload_n 2) 1 108 := ⟨zq_28 zg_8_4_45.2.2.2.2.2.2.2.2.2.2.2.2.2.2.1, rfl⟩
theorem zd_8_4_12 : zz_D zy_readLayer_8_4 12 (.iconst 1) 1 13 := ⟨zq_4 zg_8_4_45.2.2.2.2.2.2.2.2.2.2.2.2.2.2.2.1, rfl⟩
theorem zd_8_4_13 : zz_D zy_readLayer_8_4 13 (.istore_n 1) 1 14 := ⟨zq_60 zg_8_4_45.2.2.2.2.2.2.2.2.2.2.2.2.2.2.2.2.1, rfl⟩
theorem zd_8_4_14 : zz_D zy_readLayer_8_4 14 (.aload_n 0) 1 15 := ⟨zq_42 zg_8_4_45.2.2.2.2.2.2.2.2.2.2.2.2.2.2.2.2.2.1, rfl⟩
theorem zd_8_4_15 : zz_D zy_readLayer_8_4 15 (.sipush 255) 3 18 := ⟨zq_17 zg_8_4_45.2.2.2.2.2.2.2.2.2.2.2.2.2.2.2.2.2.2.1 zg_8_4_45.2.2.2.2.2.2.2.2.2.2.2.2.2.2.2.2.2.2.2.1 zg_8_4_45.2.2.2.2.2.2.2.2.2.2.2.2.2.2.2.2.2.2.2.2.1 (by decide), rfl⟩
theorem zd_8_4_18 : zz_D zy_readLayer_8_4 18 (.putfield 35) 3 21 := ⟨zq_181 zg_8_4_45.2.2.2.2.2.2.2.2.2.2.2.2.2.2.2.2.2.2.2.2.2.1 zg_8_4_45.2.2.2.2.2.2.2.2.2.2.2.2.2.2.2.2.2.2.2.2.2.2.1 zg_8_4_45.2.2.2.2.2.2.2.2.2.2.2.2.2.2.2.2.2.2.2.2.2.2.2 rfl, rfl⟩
theorem zg_8_4_21 : zq_at zy_readLayer_8_4.2.1 21 42 ∧ zq_at zy_readLayer_8_4.2.1 22 16 ∧ zq_at zy_readLayer_8_4.2.1 23 7 ∧ zq_at zy_readLayer_8_4.2.1 24 181 ∧ zq_at zy_readLayer_8_4.2.1 25 0 ∧ zq_at zy_readLayer_8_4.2.1 26 38 ∧ zq_at zy_readLayer_8_4.2.1 27 167 ∧ zq_at zy_readLayer_8_4.2.1 28 0 ∧ zq_at zy_readLayer_8_4.2.1 29 63 := by decide +kernel
theorem zd_8_4_21 : zz_D zy_readLayer_8_4 21 (.aload_n 0) 1 22 := ⟨zq_42 zg_8_4_21.1, rfl⟩
theorem zd_8_4_22 : zz_D zy_readLayer_8_4 22 (.bipush 7) 2 24 := ⟨zq_16 zg_8_4_21.2.1 zg_8_4_21.2.2.1 (by decide), rfl⟩
theorem zd_8_4_24 : zz_D zy_readLayer_8_4 24 (.putfield 38) 3 27 := ⟨zq_181 zg_8_4_21.2.2.2.1 zg_8_4_21.2.2.2.2.1 zg_8_4_21.2.2.2.2.2.1 rfl, rfl⟩
theorem zd_8_4_27 : zz_B zy_readLayer_8_4 27 Instr.goto 90 30 := ⟨63, zq_167 zg_8_4_21.2.2.2.2.2.2.1 zg_8_4_21.2.2.2.2.2.2.2.1 zg_8_4_21.2.2.2.2.2.2.2.2 (by decide), rfl, rfl⟩
-- TensorForge$NetworkReader readLayer ()Z
abbrev zr_readLayer_8_4 : Room := { frames := 5, cells := 0, slots := 0, locals := 68 }
def zp_readLayer_8_4  (S0 : zz_S) : Int → zz_S → Prop := fun r S => zz_G S ∧ zz_fr [(1070, 3), (1070, 4), (1070, 5), (1070, 6), (1073, 6), (1073, 7)] [1003, 1004, 1005, 1006, 1007, 1008, 1009, 1010, 1011, 1012, 1013, 1014, 1017, 1018, 1019, 1020, 1021, 1022, 1023, 1024, 1025, 1026, 1027, 1028] (fun _ _ => False) S0 S ∧ (0 ≤ r ∧ r ≤ 1) ∧ (∀ (N : Nat → Int) (a : Int), zt_NM (S0 1071) (S0 1074) (S0 1075) (S0 1070 1) N → zt_NK (S0 1071) (S0 1070 2) a (S0 1070 4) (S0 1070 5) (S0 1070 3) → (zn_kd ((zt_kn (S0 1071) (S0 1070 2)) a) ((zt_kc (S0 1071) (S0 1070 2)) a) = 0 ∧ r = 0) ∨ zn_RL (zt_kn (S0 1071) (S0 1070 2)) (zt_te (S0 1071) (S0 1070 2)) (zt_tv (S0 1071) (S0 1070 2)) (zt_kc (S0 1071) (S0 1070 2)) N S (12 * (S0 1073 1) + S0 (zz_rf 3 (S0 1073 1)) 1) a r) ∧ (S0 1070 3 ≤ S 1070 3) ∧ (S0 1070 3 ≤ S0 1070 2 → S 1070 3 ≤ S0 1070 2) ∧ (∀ a i : Nat, 1001 ≤ a → a ≤ 1028 → a ≠ zz_rf 6 (12 * (S0 1073 1) + S0 (zz_rf 3 (S0 1073 1)) 1) → S a i = S0 a i) ∧ (zz_Hc S)
theorem zc_readLayer_8_4 {g : mm_G} {l : Launch}  (S0 : zz_S) (n : Nat) (hn : zz_end ≤ n) (G_S0 : zz_G S0) (H_S0 : zz_Hc S0) : mm_Met g l zy_readLayer_8_4 zr_readLayer_8_4 [.ref 1073] (zz_M S0 n) n (zz_QI n (zp_readLayer_8_4  S0)) := by
  refine zz_enter (by decide) (Nat.le_of_ble_eq_true rfl) (zz_less (ls1 := [some (.ref 1073)]) ⟨rfl, trivial⟩ ?_)
  have F_S0 : zz_fr [(1070, 3), (1070, 4), (1070, 5), (1070, 6), (1073, 6), (1073, 7)] [1003, 1004, 1005, 1006, 1007, 1008, 1009, 1010, 1011, 1012, 1013, 1014, 1017, 1018, 1019, 1020, 1021, 1022, 1023, 1024, 1025, 1026, 1027, 1028] (fun _ _ => False) S0 S0 := zz_fr.refl
  have gz9 := zz_G.r G_S0 1073 1 0 1 rfl rfl
  have gt9 := zz_G.r G_S0 (zz_rf 3 (S0 1073 1)) 1 1 11 (zR_k3_1 (by omega)) (zB_k3 (by omega))
  refine zz_aload_n (x := 1073) rfl zd_8_4_0 ?_
  refine zz_getr (kd := 0) (z := 1070) zd_8_4_1 zf_NetworkReader_9 zT_1073 rfl (zz_ltn hn rfl) (zz_G.eq G_S0 1073 0 1070 rfl rfl) (by decide) 1070 rfl ?_
  refine zz_ldcs (t := 21) (by decide +kernel) (by decide) zd_8_4_4 ?_
  have g1 := zz_G.r G_S0 1070 3 0 1500 rfl rfl
  have g2 := zz_G.r G_S0 1070 4 (-2147483648) 2147483647 rfl rfl
  have g3 := zz_G.r G_S0 1070 5 0 1500 rfl rfl
  refine zz_callVI [.ref (100 + 21)] zd_8_4_6 zk_NetworkReader_87 zT_1070 (zz_ltn hn rfl) rfl rfl ⟨Nat.le_of_ble_eq_true rfl, Nat.le_of_ble_eq_true rfl⟩ ⟨rfl, rfl⟩ (Nat.zero_le _) (Nat.zero_le _) (zc_isWord_11_9 21 S0 n hn G_S0 (by omega)) (fun v5 S4 hP => ?_)
  obtain ⟨rfl, o6, o7⟩ := hP
  rcases (by omega : v5 = 0 ∨ v5 = 1) with rfl | rfl
  · skip
    refine zz_if_eq (by omega) zd_8_4_9 (fun c8 => ?_) (fun c8 => ?_)
    · refine zz_aload_n (x := 1073) rfl zd_8_4_30 ?_
      refine zz_getr (kd := 0) (z := 1070) zd_8_4_31 zf_NetworkReader_9 zT_1073 rfl (zz_ltn hn rfl) (zz_G.eq G_S0 1073 0 1070 rfl rfl) (by decide) 1070 rfl ?_
      refine zz_ldcs (t := 22) (by decide +kernel) (by decide) zd_8_4_34 ?_
      refine zz_callVI [.ref (100 + 22)] zd_8_4_36 zk_NetworkReader_87 zT_1070 (zz_ltn hn rfl) rfl rfl ⟨Nat.le_of_ble_eq_true rfl, Nat.le_of_ble_eq_true rfl⟩ ⟨rfl, rfl⟩ (Nat.zero_le _) (Nat.zero_le _) (zc_isWord_11_9 22 S0 n hn G_S0 (by omega)) (fun v10 S9 hP => ?_)
      obtain ⟨rfl, o11, o12⟩ := hP
      rcases (by omega : v10 = 0 ∨ v10 = 1) with rfl | rfl
      · skip
        refine zz_if_eq (by omega) zd_8_4_39 (fun c13 => ?_) (fun c13 => ?_)
        · refine zz_aload_n (x := 1073) rfl zd_8_4_59 ?_
          refine zz_getr (kd := 0) (z := 1070) zd_8_4_60 zf_NetworkReader_9 zT_1073 rfl (zz_ltn hn rfl) (zz_G.eq G_S0 1073 0 1070 rfl rfl) (by decide) 1070 rfl ?_
          refine zz_ldcs (t := 23) (by decide +kernel) (by decide) zd_8_4_63 ?_
          refine zz_callVI [.ref (100 + 23)] zd_8_4_65 zk_NetworkReader_87 zT_1070 (zz_ltn hn rfl) rfl rfl ⟨Nat.le_of_ble_eq_true rfl, Nat.le_of_ble_eq_true rfl⟩ ⟨rfl, rfl⟩ (Nat.zero_le _) (Nat.zero_le _) (zc_isWord_11_9 23 S0 n hn G_S0 (by omega)) (fun v15 S14 hP => ?_)
          obtain ⟨rfl, o16, o17⟩ := hP
          rcases (by omega : v15 = 0 ∨ v15 = 1) with rfl | rfl
          · skip
            refine zz_if_eq (by omega) zd_8_4_68 (fun c18 => ?_) (fun c18 => ?_)
            · refine zz_iconst zd_8_4_88 ?_
              have g19 := zz_G.r G_S0 1073 1 0 1 rfl rfl
              have g20 := zz_G.r G_S0 1073 6 (-2147483648) 2147483647 rfl rfl
              have g21 := zz_G.r G_S0 1073 7 (-2147483648) 2147483647 rfl rfl
              exact zz_zret zd_8_4_89 rfl (by omega) (Nat.zero_le _) (Nat.zero_le _) ⟨_, _, rfl, G_S0, F_S0, by omega, (fun N a hN hK => by have h0 := ((zt_NKw hK (t := 21) (by decide) (by decide) o7).resolve_left (fun h => absurd h.1 (by decide))).2; have h1 := ((zt_NKw hK (t := 22) (by decide) (by decide) o12).resolve_left (fun h => absurd h.1 (by decide))).2; have h2 := ((zt_NKw hK (t := 23) (by decide) (by decide) o17).resolve_left (fun h => absurd h.1 (by decide))).2; exact Or.inl ⟨zn_kdN h0 h1 h2, rfl⟩), by omega, by omega, (fun a i h1 h2 h3 => by have hz0_ := zz_rf6 (z := 12 * (S0 1073 1) + S0 (zz_rf 3 (S0 1073 1)) 1) (by omega); exact rfl), H_S0⟩
            · exfalso; omega
          · skip
            refine zz_if_eq (by omega) zd_8_4_68 (fun c22 => ?_) (fun c22 => ?_)
            · exfalso; omega
            · refine zz_iconst zd_8_4_71 ?_
              refine zz_istore_n [some (.ref 1073), some (zi 3)] zd_8_4_72 (by decide) rfl ?_
              refine zz_aload_n (x := 1073) rfl zd_8_4_73 ?_
              refine zz_sipush (by decide) zd_8_4_74 ?_
              refine zz_puti zd_8_4_77 zf_NetworkReader_35 zT_1073 rfl (zz_ltn hn rfl) (fun S23 qS23 => ?_)
              have G_S23 := zz_G.put G_S0 qS23 (-2147483648) 2147483647 rfl (by omega)
              have F_S23 := zz_fr.puts F_S0 qS23 rfl
              have H_S23 : zz_Hc S23 := zz_Hc.fr (q := 0) (zz_fr.put1 qS23) rfl rfl G_S0 (by decide) rfl (fun b j h => by omega) H_S0
              refine zz_aload_n (x := 1073) rfl zd_8_4_80 ?_
              refine zz_iconst zd_8_4_81 ?_
              refine zz_puti zd_8_4_82 zf_NetworkReader_38 zT_1073 rfl (zz_ltn hn rfl) (fun S24 qS24 => ?_)
              have G_S24 := zz_G.put G_S23 qS24 (-2147483648) 2147483647 rfl (by omega)
              have F_S24 := zz_fr.puts F_S23 qS24 rfl
              have H_S24 : zz_Hc S24 := zz_Hc.fr (q := 0) (zz_fr.put1 qS24) rfl rfl G_S23 (by decide) rfl (fun b j h => by omega) H_S23
              refine zz_goto zd_8_4_85 ?_
              refine zz_aload_n (x := 1073) rfl zd_8_4_90 ?_
              have g25 := zz_G.r G_S0 1070 1 0 1500 rfl rfl
              have e26 : S24 1070 1 = S0 1070 1 := (zz_ro qS24 (fun h => absurd h.1 (by decide)) (zz_ro qS23 (fun h => absurd h.1 (by decide)) rfl))
              have g27 := zz_G.r G_S0 1070 2 (-1) 1500 rfl rfl
              have e28 : S24 1070 2 = S0 1070 2 := (zz_ro qS24 (fun h => absurd h.1 (by decide)) (zz_ro qS23 (fun h => absurd h.1 (by decide)) rfl))
              have e29 : S24 1070 3 = S0 1070 3 := (zz_ro qS24 (fun h => absurd h.1 (by decide)) (zz_ro qS23 (fun h => absurd h.1 (by decide)) rfl))
              refine zz_callVI [] zd_8_4_91 zk_NetworkReader_118 zT_1073 (zz_ltn hn rfl) rfl rfl ⟨Nat.le_of_ble_eq_true rfl, Nat.le_of_ble_eq_true rfl⟩ ⟨rfl, rfl⟩ (Nat.zero_le _) (Nat.zero_le _) (zc_readTensor_8_5  S24 n hn G_S24 ) (fun v31 S30 hP => ?_)
              obtain ⟨G_S30, fS30, o32, o33, o34, o35, o36⟩ := hP
              rw [show S24 1071 = S0 1071 from funext (fun u => (zz_ro qS24 (fun h => absurd h.1 (by decide)) (zz_ro qS23 (fun h => absurd h.1 (by decide)) rfl))), show S24 1074 = S0 1074 from funext (fun u => (zz_ro qS24 (fun h => absurd h.1 (by decide)) (zz_ro qS23 (fun h => absurd h.1 (by decide)) rfl))), show S24 1075 = S0 1075 from funext (fun u => (zz_ro qS24 (fun h => absurd h.1 (by decide)) (zz_ro qS23 (fun h => absurd h.1 (by decide)) rfl))), show S24 1070 1 = S0 1070 1 from (zz_ro qS24 (fun h => absurd h.1 (by decide)) (zz_ro qS23 (fun h => absurd h.1 (by decide)) rfl)), show S24 1070 2 = S0 1070 2 from (zz_ro qS24 (fun h => absurd h.1 (by decide)) (zz_ro qS23 (fun h => absurd h.1 (by decide)) rfl)), show S24 1070 3 = S0 1070 3 from (zz_ro qS24 (fun h => absurd h.1 (by decide)) (zz_ro qS23 (fun h => absurd h.1 (by decide)) rfl))] at o33
              rw [show S24 1071 = S0 1071 from funext (fun u => (zz_ro qS24 (fun h => absurd h.1 (by decide)) (zz_ro qS23 (fun h => absurd h.1 (by decide)) rfl))), show S24 1070 2 = S0 1070 2 from (zz_ro qS24 (fun h => absurd h.1 (by decide)) (zz_ro qS23 (fun h => absurd h.1 (by decide)) rfl)), show S24 1070 3 = S0 1070 3 from (zz_ro qS24 (fun h => absurd h.1 (by decide)) (zz_ro qS23 (fun h => absurd h.1 (by decide)) rfl))] at o34
              rw [show S24 1070 3 = S0 1070 3 from (zz_ro qS24 (fun h => absurd h.1 (by decide)) (zz_ro qS23 (fun h => absurd h.1 (by decide)) rfl))] at o35
              rw [show S24 1070 2 = S0 1070 2 from (zz_ro qS24 (fun h => absurd h.1 (by decide)) (zz_ro qS23 (fun h => absurd h.1 (by decide)) rfl)), show S24 1070 3 = S0 1070 3 from (zz_ro qS24 (fun h => absurd h.1 (by decide)) (zz_ro qS23 (fun h => absurd h.1 (by decide)) rfl))] at o36
              have F_S30 := zz_fr.trans F_S24 fS30 rfl zz_nv
              have H_S30 : zz_Hc S30 := zz_Hc.fr (q := 0) fS30 rfl rfl G_S24 (by decide) rfl (fun b j h => h.elim) H_S24
              skip
              refine zz_istore_n [some (.ref 1073), some (zi 3), some (zi v31)] zd_8_4_94 (by decide) rfl ?_
              refine zz_iload_n (x := 3) rfl zd_8_4_95 ?_
              refine zz_iconst zd_8_4_96 ?_
              refine zz_icmp_ne (by omega) (by omega) zd_8_4_97 (fun c37 => ?_) (fun c37 => ?_)
              · exfalso; omega
              · refine zz_aload_n (x := 1073) rfl zd_8_4_100 ?_
                have e38 : S30 1070 1 = S0 1070 1 := (zz_rc fS30 rfl rfl (fun h => h) (zz_ro qS24 (fun h => absurd h.1 (by decide)) (zz_ro qS23 (fun h => absurd h.1 (by decide)) rfl)))
                have e39 : S30 1070 2 = S0 1070 2 := (zz_rc fS30 rfl rfl (fun h => h) (zz_ro qS24 (fun h => absurd h.1 (by decide)) (zz_ro qS23 (fun h => absurd h.1 (by decide)) rfl)))
                have g40 := zz_G.r G_S30 1070 3 0 1500 rfl rfl
                refine zz_callVI [] zd_8_4_101 zk_NetworkReader_118 zT_1073 (zz_ltn hn rfl) rfl rfl ⟨Nat.le_of_ble_eq_true rfl, Nat.le_of_ble_eq_true rfl⟩ ⟨rfl, rfl⟩ (Nat.zero_le _) (Nat.zero_le _) (zc_readTensor_8_5  S30 n hn G_S30 ) (fun v42 S41 hP => ?_)
                obtain ⟨G_S41, fS41, o43, o44, o45, o46, o47⟩ := hP
                rw [show S30 1071 = S0 1071 from funext (fun u => (zz_rc fS30 (zz_nc1 rfl) rfl (fun h => h) (zz_ro qS24 (fun h => absurd h.1 (by decide)) (zz_ro qS23 (fun h => absurd h.1 (by decide)) rfl)))), show S30 1074 = S0 1074 from funext (fun u => (zz_rc fS30 (zz_nc1 rfl) rfl (fun h => h) (zz_ro qS24 (fun h => absurd h.1 (by decide)) (zz_ro qS23 (fun h => absurd h.1 (by decide)) rfl)))), show S30 1075 = S0 1075 from funext (fun u => (zz_rc fS30 (zz_nc1 rfl) rfl (fun h => h) (zz_ro qS24 (fun h => absurd h.1 (by decide)) (zz_ro qS23 (fun h => absurd h.1 (by decide)) rfl)))), show S30 1070 1 = S0 1070 1 from (zz_rc fS30 rfl rfl (fun h => h) (zz_ro qS24 (fun h => absurd h.1 (by decide)) (zz_ro qS23 (fun h => absurd h.1 (by decide)) rfl))), show S30 1070 2 = S0 1070 2 from (zz_rc fS30 rfl rfl (fun h => h) (zz_ro qS24 (fun h => absurd h.1 (by decide)) (zz_ro qS23 (fun h => absurd h.1 (by decide)) rfl)))] at o44
                rw [show S30 1071 = S0 1071 from funext (fun u => (zz_rc fS30 (zz_nc1 rfl) rfl (fun h => h) (zz_ro qS24 (fun h => absurd h.1 (by decide)) (zz_ro qS23 (fun h => absurd h.1 (by decide)) rfl)))), show S30 1070 2 = S0 1070 2 from (zz_rc fS30 rfl rfl (fun h => h) (zz_ro qS24 (fun h => absurd h.1 (by decide)) (zz_ro qS23 (fun h => absurd h.1 (by decide)) rfl)))] at o45
                rw [show S30 1070 2 = S0 1070 2 from (zz_rc fS30 rfl rfl (fun h => h) (zz_ro qS24 (fun h => absurd h.1 (by decide)) (zz_ro qS23 (fun h => absurd h.1 (by decide)) rfl)))] at o47
                have F_S41 := zz_fr.trans F_S30 fS41 rfl zz_nv
                have H_S41 : zz_Hc S41 := zz_Hc.fr (q := 0) fS41 rfl rfl G_S30 (by decide) rfl (fun b j h => h.elim) H_S30
                skip
                refine zz_goto zd_8_4_104 ?_
                refine zz_istore_n [some (.ref 1073), some (zi 3), some (zi v31), some (zi v42)] zd_8_4_108 (by decide) rfl ?_
                refine zz_aload_n (x := 1073) rfl zd_8_4_109 ?_
                have g48 := zz_G.r G_S0 1073 1 0 1 rfl rfl
                refine zz_getr (kd := 1) (z := S0 1073 1) zd_8_4_110 zf_NetworkReader_15 zT_1073 rfl (zz_ltn hn rfl) (zz_rc fS41 rfl rfl (fun h => h) (zz_rc fS30 rfl rfl (fun h => h) (zz_ro qS24 (fun h => absurd h.2 (by decide)) (zz_ro qS23 (fun h => absurd h.2 (by decide)) rfl)))) (by omega) (zz_rf 3 (S0 1073 1)) rfl ?_
                have e49 : S41 (zz_rf 3 (S0 1073 1)) 1 = S0 (zz_rf 3 (S0 1073 1)) 1 := (zz_rc fS41 (zP_k3 (by omega) rfl) (zQ_k3 (by omega) rfl) (fun h => h) (zz_rc fS30 (zP_k3 (by omega) rfl) (zQ_k3 (by omega) rfl) (fun h => h) (zz_ro qS24 (fun h => absurd h.2 (by decide)) (zz_ro qS23 (fun h => absurd h.2 (by decide)) rfl))))
                refine zz_callVA [] zd_8_4_113 zk_NetworkReader_121 (zT_k3 (by omega)) (zN_k3 hn (by omega)) rfl rfl ⟨Nat.le_of_ble_eq_true rfl, Nat.le_of_ble_eq_true rfl⟩ ⟨rfl, rfl⟩ (Nat.zero_le _) (Nat.zero_le _) (zc_draft_7_6 (S0 1073 1) S41 n hn G_S41 (by omega)) (fun v51 S50 hP => ?_)
                obtain ⟨rfl, o52, o53⟩ := hP
                subst o52
                refine zz_iload_n (x := 3) rfl zd_8_4_116 ?_
                refine zz_iload_n (x := v31) rfl zd_8_4_117 ?_
                refine zz_iload_n (x := v42) rfl zd_8_4_118 ?_
                refine zz_callVV [zi 3, zi v31, zi v42] zd_8_4_119 zk_NetworkReader_125 (zT_k6 (by omega)) (zN_k6 hn (by omega)) rfl rfl ⟨Nat.le_of_ble_eq_true rfl, Nat.le_of_ble_eq_true rfl⟩ ⟨rfl, rfl⟩ (Nat.zero_le _) (Nat.zero_le _) (zc_reset_4_2 (12 * (S0 1073 1) + S41 (zz_rf 3 (S0 1073 1)) 1) 3 v31 v42 S41 n hn G_S41 (by omega) (by omega) (by omega) (by omega)) (fun S54 hP => ?_)
                obtain ⟨G_S54, fS54, o56, o57⟩ := hP
                have g58 := zz_G.r G_S0 1073 1 0 1 rfl rfl
                have b59 := zz_G.r G_S41 (zz_rf 3 (S0 1073 1)) 1 1 11 (zR_k3_1 (by omega)) (zB_k3 (by omega))
                have F_S54 := zz_fr.trans F_S41 fS54 rfl (fun a i h => by rcases h with h | h | h | h | h | h | h | h | h | h | h | h | h | h | h; exact Or.inr (Or.inl (h.1 ▸ zM_k6 (z := (12 * (S0 1073 1) + S41 (zz_rf 3 (S0 1073 1)) 1)) (by omega) rfl)); exact Or.inr (Or.inl (h.1 ▸ zM_k6 (z := (12 * (S0 1073 1) + S41 (zz_rf 3 (S0 1073 1)) 1)) (by omega) rfl)); exact Or.inr (Or.inl (h.1 ▸ zM_k6 (z := (12 * (S0 1073 1) + S41 (zz_rf 3 (S0 1073 1)) 1)) (by omega) rfl)); exact Or.inr (Or.inl (h.1 ▸ zM_k6 (z := (12 * (S0 1073 1) + S41 (zz_rf 3 (S0 1073 1)) 1)) (by omega) rfl)); exact Or.inr (Or.inl (h.1 ▸ zM_k6 (z := (12 * (S0 1073 1) + S41 (zz_rf 3 (S0 1073 1)) 1)) (by omega) rfl)); exact Or.inr (Or.inl (h.1 ▸ zM_k6 (z := (12 * (S0 1073 1) + S41 (zz_rf 3 (S0 1073 1)) 1)) (by omega) rfl)); exact Or.inr (Or.inl (h.1 ▸ zM_k6 (z := (12 * (S0 1073 1) + S41 (zz_rf 3 (S0 1073 1)) 1)) (by omega) rfl)); exact Or.inr (Or.inl (h.1 ▸ zM_k6 (z := (12 * (S0 1073 1) + S41 (zz_rf 3 (S0 1073 1)) 1)) (by omega) rfl)); exact Or.inr (Or.inl (h.1 ▸ zM_k6 (z := (12 * (S0 1073 1) + S41 (zz_rf 3 (S0 1073 1)) 1)) (by omega) rfl)); exact Or.inr (Or.inl (h.1 ▸ zM_k6 (z := (12 * (S0 1073 1) + S41 (zz_rf 3 (S0 1073 1)) 1)) (by omega) rfl)); exact Or.inr (Or.inl (h.1 ▸ zM_k6 (z := (12 * (S0 1073 1) + S41 (zz_rf 3 (S0 1073 1)) 1)) (by omega) rfl)); exact Or.inr (Or.inl (h.1 ▸ zM_k6 (z := (12 * (S0 1073 1) + S41 (zz_rf 3 (S0 1073 1)) 1)) (by omega) rfl)); exact Or.inr (Or.inl (h.1 ▸ zM_k6 (z := (12 * (S0 1073 1) + S41 (zz_rf 3 (S0 1073 1)) 1)) (by omega) rfl)); exact Or.inr (Or.inl (h.1 ▸ zM_k6 (z := (12 * (S0 1073 1) + S41 (zz_rf 3 (S0 1073 1)) 1)) (by omega) rfl)); exact Or.inr (Or.inl (h.1 ▸ zM_k6 (z := (12 * (S0 1073 1) + S41 (zz_rf 3 (S0 1073 1)) 1)) (by omega) rfl)))
                have b60 := zz_G.r G_S41 (zz_rf 3 (S0 1073 1)) 1 1 11 (zR_k3_1 (by omega)) (zB_k3 (by omega))
                have b61 := zz_rf6 (z := (12 * (S0 1073 1) + S41 (zz_rf 3 (S0 1073 1)) 1)) (by omega)
                have b62 := zz_rf3 (z := (S0 1073 1)) (by omega)
                have H_S54 : zz_Hc S54 := zz_Hc.fr (q := (S0 1073 1)) (z := 12 * (S0 1073 1) + S41 (zz_rf 3 (S0 1073 1)) 1) fS54 rfl rfl G_S41 (by omega) rfl (fun b j h => by omega) H_S41
                refine zz_iload_n (x := v31) rfl zd_8_4_122 ?_
                refine zz_iconst zd_8_4_123 ?_
                refine zz_icmp_eq (by omega) (by omega) zd_8_4_124 (fun c63 => ?_) (fun c63 => ?_)
                · refine zz_iconst zd_8_4_136 ?_
                  have g64 := zz_G.r G_S41 1070 3 0 1500 rfl rfl
                  have e65 : S54 1070 3 = S41 1070 3 := (zz_rc fS54 rfl rfl (by first | decide | omega) rfl)
                  have e66 : S54 1073 6 = 224 := (zz_rc fS54 rfl rfl (by first | decide | omega) (zz_rc fS41 rfl rfl (fun h => h) (zz_rc fS30 rfl rfl (fun h => h) (zz_ro qS24 (fun h => absurd h.2 (by decide)) (zz_rs qS23)))))
                  have e67 : S54 1073 7 = 0 := (zz_rc fS54 rfl rfl (by first | decide | omega) (zz_rc fS41 rfl rfl (fun h => h) (zz_rc fS30 rfl rfl (fun h => h) (zz_rs qS24))))
                  exact zz_zret zd_8_4_137 rfl (by omega) (Nat.zero_le _) (Nat.zero_le _) ⟨_, _, rfl, G_S54, F_S54, by omega, (fun N a hN hK => by have e0 := hK.2.2.1; have h9 := (zt_NKw hK (t := 23) (by decide) (by decide) o17).resolve_right (fun h => absurd h.1 (by decide)); have k9 : zn_kd ((zt_kn (S0 1071) (S0 1070 2)) a) ((zt_kc (S0 1071) (S0 1070 2)) a) = 3 := (by rw [h9.2.1, h9.2.2]; rfl); have t1 := o33 N hN; rw [e0] at t1; have m1 : zn_m1 (zt_kn (S0 1071) (S0 1070 2)) (zt_te (S0 1071) (S0 1070 2)) (zt_tv (S0 1071) (S0 1070 2)) (zt_kc (S0 1071) (S0 1070 2)) N a = v31 := t1.symm; have p1 : S30 1070 3 = (zt_te (S0 1071) (S0 1070 2)) ((zt_te (S0 1071) (S0 1070 2)) a) := (by rw [← e0]; omega); have t2 := o44 N hN; rw [p1] at t2; have m2 : zn_m2 (zt_kn (S0 1071) (S0 1070 2)) (zt_te (S0 1071) (S0 1070 2)) (zt_tv (S0 1071) (S0 1070 2)) (zt_kc (S0 1071) (S0 1070 2)) N a = v42 := (by unfold zn_m2; rw [k9, if_pos rfl]; exact t2.symm); have l3 : zn_l3 (zt_kn (S0 1071) (S0 1070 2)) (zt_te (S0 1071) (S0 1070 2)) (zt_kc (S0 1071) (S0 1070 2)) a = S54 1070 3 := (by unfold zn_l3; rw [k9, if_pos rfl, ← p1]; omega); have z1 := o56; have z2 := o57; have h3_ := zz_rf3 (z := S0 1073 1) (by omega); rw [show S41 (zz_rf 3 (S0 1073 1)) 1 = S0 (zz_rf 3 (S0 1073 1)) 1 from ((((fS41 _ _ (zz_out1 rfl (by omega)) (zz_out2 rfl (by omega)) (fun h => by first | exact h | omega)).trans (fS30 _ _ (zz_out1 rfl (by omega)) (zz_out2 rfl (by omega)) (fun h => by first | exact h | omega))).trans (zz_ro qS24 (fun h => by omega) rfl)).trans (zz_ro qS23 (fun h => by omega) rfl))] at z1 z2; unfold zn_RL; rw [k9, m1, m2, l3]; exact Or.inr ⟨by decide, (show S54 1073 6 = 224 by omega), (show S54 1073 7 = 0 by omega), (show S54 (zz_rf 6 (12 * (S0 1073 1) + S0 (zz_rf 3 (S0 1073 1)) 1)) 0 = 3 by omega), (show S54 (zz_rf 6 (12 * (S0 1073 1) + S0 (zz_rf 3 (S0 1073 1)) 1)) 1 = v31 by omega), (show S54 (zz_rf 6 (12 * (S0 1073 1) + S0 (zz_rf 3 (S0 1073 1)) 1)) 2 = v42 by omega), ⟨(show S54 (zz_rf 6 (12 * (S0 1073 1) + S0 (zz_rf 3 (S0 1073 1)) 1)) 3 = 1 by omega), (show S54 (zz_rf 6 (12 * (S0 1073 1) + S0 (zz_rf 3 (S0 1073 1)) 1)) 4 = 1 by omega), (show S54 (zz_rf 6 (12 * (S0 1073 1) + S0 (zz_rf 3 (S0 1073 1)) 1)) 12 = 1 by omega), (show S54 (zz_rf 6 (12 * (S0 1073 1) + S0 (zz_rf 3 (S0 1073 1)) 1)) 9 = 0 by omega), (show S54 (zz_rf 6 (12 * (S0 1073 1) + S0 (zz_rf 3 (S0 1073 1)) 1)) 5 = 1 by omega), (show S54 (zz_rf 6 (12 * (S0 1073 1) + S0 (zz_rf 3 (S0 1073 1)) 1)) 6 = 0 by omega), (show S54 (zz_rf 6 (12 * (S0 1073 1) + S0 (zz_rf 3 (S0 1073 1)) 1)) 7 = 0 by omega), (show S54 (zz_rf 6 (12 * (S0 1073 1) + S0 (zz_rf 3 (S0 1073 1)) 1)) 8 = 0 by omega)⟩, rfl, Or.inr ⟨rfl, fun x => by omega⟩⟩), by omega, by omega, (fun a i h1 h2 h3 => by have hz0_ := zz_rf6 (z := 12 * (S0 1073 1) + S0 (zz_rf 3 (S0 1073 1)) 1) (by omega); have hz1_ := zz_rf6 (z := 12 * (S0 1073 1) + S41 (zz_rf 3 (S0 1073 1)) 1) (by omega); exact (((((fS54 a i (zz_out1 rfl ⟨h1, h2⟩) (zz_out2 rfl ⟨h1, h2⟩) (fun h => by first | exact h | omega)).trans (fS41 a i (zz_out1 rfl ⟨h1, h2⟩) (zz_out2 rfl ⟨h1, h2⟩) (fun h => by first | exact h | omega))).trans (fS30 a i (zz_out1 rfl ⟨h1, h2⟩) (zz_out2 rfl ⟨h1, h2⟩) (fun h => by first | exact h | omega))).trans (zz_ro qS24 (fun h => by omega) rfl)).trans (zz_ro qS23 (fun h => by omega) rfl))), H_S54⟩
                · refine zz_iload_n (x := v42) rfl zd_8_4_127 ?_
                  refine zz_iconst zd_8_4_128 ?_
                  refine zz_icmp_eq (by omega) (by omega) zd_8_4_129 (fun c68 => ?_) (fun c68 => ?_)
                  · refine zz_iconst zd_8_4_136 ?_
                    have g69 := zz_G.r G_S41 1070 3 0 1500 rfl rfl
                    have e70 : S54 1070 3 = S41 1070 3 := (zz_rc fS54 rfl rfl (by first | decide | omega) rfl)
                    have e71 : S54 1073 6 = 224 := (zz_rc fS54 rfl rfl (by first | decide | omega) (zz_rc fS41 rfl rfl (fun h => h) (zz_rc fS30 rfl rfl (fun h => h) (zz_ro qS24 (fun h => absurd h.2 (by decide)) (zz_rs qS23)))))
                    have e72 : S54 1073 7 = 0 := (zz_rc fS54 rfl rfl (by first | decide | omega) (zz_rc fS41 rfl rfl (fun h => h) (zz_rc fS30 rfl rfl (fun h => h) (zz_rs qS24))))
                    exact zz_zret zd_8_4_137 rfl (by omega) (Nat.zero_le _) (Nat.zero_le _) ⟨_, _, rfl, G_S54, F_S54, by omega, (fun N a hN hK => by have e0 := hK.2.2.1; have h9 := (zt_NKw hK (t := 23) (by decide) (by decide) o17).resolve_right (fun h => absurd h.1 (by decide)); have k9 : zn_kd ((zt_kn (S0 1071) (S0 1070 2)) a) ((zt_kc (S0 1071) (S0 1070 2)) a) = 3 := (by rw [h9.2.1, h9.2.2]; rfl); have t1 := o33 N hN; rw [e0] at t1; have m1 : zn_m1 (zt_kn (S0 1071) (S0 1070 2)) (zt_te (S0 1071) (S0 1070 2)) (zt_tv (S0 1071) (S0 1070 2)) (zt_kc (S0 1071) (S0 1070 2)) N a = v31 := t1.symm; have p1 : S30 1070 3 = (zt_te (S0 1071) (S0 1070 2)) ((zt_te (S0 1071) (S0 1070 2)) a) := (by rw [← e0]; omega); have t2 := o44 N hN; rw [p1] at t2; have m2 : zn_m2 (zt_kn (S0 1071) (S0 1070 2)) (zt_te (S0 1071) (S0 1070 2)) (zt_tv (S0 1071) (S0 1070 2)) (zt_kc (S0 1071) (S0 1070 2)) N a = v42 := (by unfold zn_m2; rw [k9, if_pos rfl]; exact t2.symm); have l3 : zn_l3 (zt_kn (S0 1071) (S0 1070 2)) (zt_te (S0 1071) (S0 1070 2)) (zt_kc (S0 1071) (S0 1070 2)) a = S54 1070 3 := (by unfold zn_l3; rw [k9, if_pos rfl, ← p1]; omega); have z1 := o56; have z2 := o57; have h3_ := zz_rf3 (z := S0 1073 1) (by omega); rw [show S41 (zz_rf 3 (S0 1073 1)) 1 = S0 (zz_rf 3 (S0 1073 1)) 1 from ((((fS41 _ _ (zz_out1 rfl (by omega)) (zz_out2 rfl (by omega)) (fun h => by first | exact h | omega)).trans (fS30 _ _ (zz_out1 rfl (by omega)) (zz_out2 rfl (by omega)) (fun h => by first | exact h | omega))).trans (zz_ro qS24 (fun h => by omega) rfl)).trans (zz_ro qS23 (fun h => by omega) rfl))] at z1 z2; unfold zn_RL; rw [k9, m1, m2, l3]; exact Or.inr ⟨by decide, (show S54 1073 6 = 224 by omega), (show S54 1073 7 = 0 by omega), (show S54 (zz_rf 6 (12 * (S0 1073 1) + S0 (zz_rf 3 (S0 1073 1)) 1)) 0 = 3 by omega), (show S54 (zz_rf 6 (12 * (S0 1073 1) + S0 (zz_rf 3 (S0 1073 1)) 1)) 1 = v31 by omega), (show S54 (zz_rf 6 (12 * (S0 1073 1) + S0 (zz_rf 3 (S0 1073 1)) 1)) 2 = v42 by omega), ⟨(show S54 (zz_rf 6 (12 * (S0 1073 1) + S0 (zz_rf 3 (S0 1073 1)) 1)) 3 = 1 by omega), (show S54 (zz_rf 6 (12 * (S0 1073 1) + S0 (zz_rf 3 (S0 1073 1)) 1)) 4 = 1 by omega), (show S54 (zz_rf 6 (12 * (S0 1073 1) + S0 (zz_rf 3 (S0 1073 1)) 1)) 12 = 1 by omega), (show S54 (zz_rf 6 (12 * (S0 1073 1) + S0 (zz_rf 3 (S0 1073 1)) 1)) 9 = 0 by omega), (show S54 (zz_rf 6 (12 * (S0 1073 1) + S0 (zz_rf 3 (S0 1073 1)) 1)) 5 = 1 by omega), (show S54 (zz_rf 6 (12 * (S0 1073 1) + S0 (zz_rf 3 (S0 1073 1)) 1)) 6 = 0 by omega), (show S54 (zz_rf 6 (12 * (S0 1073 1) + S0 (zz_rf 3 (S0 1073 1)) 1)) 7 = 0 by omega), (show S54 (zz_rf 6 (12 * (S0 1073 1) + S0 (zz_rf 3 (S0 1073 1)) 1)) 8 = 0 by omega)⟩, rfl, Or.inr ⟨rfl, fun x => by omega⟩⟩), by omega, by omega, (fun a i h1 h2 h3 => by have hz0_ := zz_rf6 (z := 12 * (S0 1073 1) + S0 (zz_rf 3 (S0 1073 1)) 1) (by omega); have hz1_ := zz_rf6 (z := 12 * (S0 1073 1) + S41 (zz_rf 3 (S0 1073 1)) 1) (by omega); exact (((((fS54 a i (zz_out1 rfl ⟨h1, h2⟩) (zz_out2 rfl ⟨h1, h2⟩) (fun h => by first | exact h | omega)).trans (fS41 a i (zz_out1 rfl ⟨h1, h2⟩) (zz_out2 rfl ⟨h1, h2⟩) (fun h => by first | exact h | omega))).trans (fS30 a i (zz_out1 rfl ⟨h1, h2⟩) (zz_out2 rfl ⟨h1, h2⟩) (fun h => by first | exact h | omega))).trans (zz_ro qS24 (fun h => by omega) rfl)).trans (zz_ro qS23 (fun h => by omega) rfl))), H_S54⟩
                  · refine zz_iconst zd_8_4_132 ?_
                    refine zz_goto zd_8_4_133 ?_
                    have g73 := zz_G.r G_S41 1070 3 0 1500 rfl rfl
                    have e74 : S54 1070 3 = S41 1070 3 := (zz_rc fS54 rfl rfl (by first | decide | omega) rfl)
                    have e75 : S54 1073 6 = 224 := (zz_rc fS54 rfl rfl (by first | decide | omega) (zz_rc fS41 rfl rfl (fun h => h) (zz_rc fS30 rfl rfl (fun h => h) (zz_ro qS24 (fun h => absurd h.2 (by decide)) (zz_rs qS23)))))
                    have e76 : S54 1073 7 = 0 := (zz_rc fS54 rfl rfl (by first | decide | omega) (zz_rc fS41 rfl rfl (fun h => h) (zz_rc fS30 rfl rfl (fun h => h) (zz_rs qS24))))
                    exact zz_zret zd_8_4_137 rfl (by omega) (Nat.zero_le _) (Nat.zero_le _) ⟨_, _, rfl, G_S54, F_S54, by omega, (fun N a hN hK => by have e0 := hK.2.2.1; have h9 := (zt_NKw hK (t := 23) (by decide) (by decide) o17).resolve_right (fun h => absurd h.1 (by decide)); have k9 : zn_kd ((zt_kn (S0 1071) (S0 1070 2)) a) ((zt_kc (S0 1071) (S0 1070 2)) a) = 3 := (by rw [h9.2.1, h9.2.2]; rfl); have t1 := o33 N hN; rw [e0] at t1; have m1 : zn_m1 (zt_kn (S0 1071) (S0 1070 2)) (zt_te (S0 1071) (S0 1070 2)) (zt_tv (S0 1071) (S0 1070 2)) (zt_kc (S0 1071) (S0 1070 2)) N a = v31 := t1.symm; have p1 : S30 1070 3 = (zt_te (S0 1071) (S0 1070 2)) ((zt_te (S0 1071) (S0 1070 2)) a) := (by rw [← e0]; omega); have t2 := o44 N hN; rw [p1] at t2; have m2 : zn_m2 (zt_kn (S0 1071) (S0 1070 2)) (zt_te (S0 1071) (S0 1070 2)) (zt_tv (S0 1071) (S0 1070 2)) (zt_kc (S0 1071) (S0 1070 2)) N a = v42 := (by unfold zn_m2; rw [k9, if_pos rfl]; exact t2.symm); have l3 : zn_l3 (zt_kn (S0 1071) (S0 1070 2)) (zt_te (S0 1071) (S0 1070 2)) (zt_kc (S0 1071) (S0 1070 2)) a = S54 1070 3 := (by unfold zn_l3; rw [k9, if_pos rfl, ← p1]; omega); have z1 := o56; have z2 := o57; have h3_ := zz_rf3 (z := S0 1073 1) (by omega); rw [show S41 (zz_rf 3 (S0 1073 1)) 1 = S0 (zz_rf 3 (S0 1073 1)) 1 from ((((fS41 _ _ (zz_out1 rfl (by omega)) (zz_out2 rfl (by omega)) (fun h => by first | exact h | omega)).trans (fS30 _ _ (zz_out1 rfl (by omega)) (zz_out2 rfl (by omega)) (fun h => by first | exact h | omega))).trans (zz_ro qS24 (fun h => by omega) rfl)).trans (zz_ro qS23 (fun h => by omega) rfl))] at z1 z2; unfold zn_RL; rw [k9, m1, m2, l3]; exact Or.inr ⟨by decide, (show S54 1073 6 = 224 by omega), (show S54 1073 7 = 0 by omega), (show S54 (zz_rf 6 (12 * (S0 1073 1) + S0 (zz_rf 3 (S0 1073 1)) 1)) 0 = 3 by omega), (show S54 (zz_rf 6 (12 * (S0 1073 1) + S0 (zz_rf 3 (S0 1073 1)) 1)) 1 = v31 by omega), (show S54 (zz_rf 6 (12 * (S0 1073 1) + S0 (zz_rf 3 (S0 1073 1)) 1)) 2 = v42 by omega), ⟨(show S54 (zz_rf 6 (12 * (S0 1073 1) + S0 (zz_rf 3 (S0 1073 1)) 1)) 3 = 1 by omega), (show S54 (zz_rf 6 (12 * (S0 1073 1) + S0 (zz_rf 3 (S0 1073 1)) 1)) 4 = 1 by omega), (show S54 (zz_rf 6 (12 * (S0 1073 1) + S0 (zz_rf 3 (S0 1073 1)) 1)) 12 = 1 by omega), (show S54 (zz_rf 6 (12 * (S0 1073 1) + S0 (zz_rf 3 (S0 1073 1)) 1)) 9 = 0 by omega), (show S54 (zz_rf 6 (12 * (S0 1073 1) + S0 (zz_rf 3 (S0 1073 1)) 1)) 5 = 1 by omega), (show S54 (zz_rf 6 (12 * (S0 1073 1) + S0 (zz_rf 3 (S0 1073 1)) 1)) 6 = 0 by omega), (show S54 (zz_rf 6 (12 * (S0 1073 1) + S0 (zz_rf 3 (S0 1073 1)) 1)) 7 = 0 by omega), (show S54 (zz_rf 6 (12 * (S0 1073 1) + S0 (zz_rf 3 (S0 1073 1)) 1)) 8 = 0 by omega)⟩, rfl, Or.inl ⟨rfl, by omega, by omega⟩⟩), by omega, by omega, (fun a i h1 h2 h3 => by have hz0_ := zz_rf6 (z := 12 * (S0 1073 1) + S0 (zz_rf 3 (S0 1073 1)) 1) (by omega); have hz1_ := zz_rf6 (z := 12 * (S0 1073 1) + S41 (zz_rf 3 (S0 1073 1)) 1) (by omega); exact (((((fS54 a i (zz_out1 rfl ⟨h1, h2⟩) (zz_out2 rfl ⟨h1, h2⟩) (fun h => by first | exact h | omega)).trans (fS41 a i (zz_out1 rfl ⟨h1, h2⟩) (zz_out2 rfl ⟨h1, h2⟩) (fun h => by first | exact h | omega))).trans (fS30 a i (zz_out1 rfl ⟨h1, h2⟩) (zz_out2 rfl ⟨h1, h2⟩) (fun h => by first | exact h | omega))).trans (zz_ro qS24 (fun h => by omega) rfl)).trans (zz_ro qS23 (fun h => by omega) rfl))), H_S54⟩
        · exfalso; omega
      · skip
        refine zz_if_eq (by omega) zd_8_4_39 (fun c77 => ?_) (fun c77 => ?_)
        · exfalso; omega
        · refine zz_iconst zd_8_4_42 ?_
          refine zz_istore_n [some (.ref 1073), some (zi 2)] zd_8_4_43 (by decide) rfl ?_
          refine zz_aload_n (x := 1073) rfl zd_8_4_44 ?_
          refine zz_sipush (by decide) zd_8_4_45 ?_
          refine zz_puti zd_8_4_48 zf_NetworkReader_35 zT_1073 rfl (zz_ltn hn rfl) (fun S78 qS78 => ?_)
          have G_S78 := zz_G.put G_S0 qS78 (-2147483648) 2147483647 rfl (by omega)
          have F_S78 := zz_fr.puts F_S0 qS78 rfl
          have H_S78 : zz_Hc S78 := zz_Hc.fr (q := 0) (zz_fr.put1 qS78) rfl rfl G_S0 (by decide) rfl (fun b j h => by omega) H_S0
          refine zz_aload_n (x := 1073) rfl zd_8_4_51 ?_
          refine zz_iconst zd_8_4_52 ?_
          refine zz_puti zd_8_4_53 zf_NetworkReader_38 zT_1073 rfl (zz_ltn hn rfl) (fun S79 qS79 => ?_)
          have G_S79 := zz_G.put G_S78 qS79 (-2147483648) 2147483647 rfl (by omega)
          have F_S79 := zz_fr.puts F_S78 qS79 rfl
          have H_S79 : zz_Hc S79 := zz_Hc.fr (q := 0) (zz_fr.put1 qS79) rfl rfl G_S78 (by decide) rfl (fun b j h => by omega) H_S78
          refine zz_goto zd_8_4_56 ?_
          refine zz_aload_n (x := 1073) rfl zd_8_4_90 ?_
          have g80 := zz_G.r G_S0 1070 1 0 1500 rfl rfl
          have e81 : S79 1070 1 = S0 1070 1 := (zz_ro qS79 (fun h => absurd h.1 (by decide)) (zz_ro qS78 (fun h => absurd h.1 (by decide)) rfl))
          have g82 := zz_G.r G_S0 1070 2 (-1) 1500 rfl rfl
          have e83 : S79 1070 2 = S0 1070 2 := (zz_ro qS79 (fun h => absurd h.1 (by decide)) (zz_ro qS78 (fun h => absurd h.1 (by decide)) rfl))
          have e84 : S79 1070 3 = S0 1070 3 := (zz_ro qS79 (fun h => absurd h.1 (by decide)) (zz_ro qS78 (fun h => absurd h.1 (by decide)) rfl))
          refine zz_callVI [] zd_8_4_91 zk_NetworkReader_118 zT_1073 (zz_ltn hn rfl) rfl rfl ⟨Nat.le_of_ble_eq_true rfl, Nat.le_of_ble_eq_true rfl⟩ ⟨rfl, rfl⟩ (Nat.zero_le _) (Nat.zero_le _) (zc_readTensor_8_5  S79 n hn G_S79 ) (fun v86 S85 hP => ?_)
          obtain ⟨G_S85, fS85, o87, o88, o89, o90, o91⟩ := hP
          rw [show S79 1071 = S0 1071 from funext (fun u => (zz_ro qS79 (fun h => absurd h.1 (by decide)) (zz_ro qS78 (fun h => absurd h.1 (by decide)) rfl))), show S79 1074 = S0 1074 from funext (fun u => (zz_ro qS79 (fun h => absurd h.1 (by decide)) (zz_ro qS78 (fun h => absurd h.1 (by decide)) rfl))), show S79 1075 = S0 1075 from funext (fun u => (zz_ro qS79 (fun h => absurd h.1 (by decide)) (zz_ro qS78 (fun h => absurd h.1 (by decide)) rfl))), show S79 1070 1 = S0 1070 1 from (zz_ro qS79 (fun h => absurd h.1 (by decide)) (zz_ro qS78 (fun h => absurd h.1 (by decide)) rfl)), show S79 1070 2 = S0 1070 2 from (zz_ro qS79 (fun h => absurd h.1 (by decide)) (zz_ro qS78 (fun h => absurd h.1 (by decide)) rfl)), show S79 1070 3 = S0 1070 3 from (zz_ro qS79 (fun h => absurd h.1 (by decide)) (zz_ro qS78 (fun h => absurd h.1 (by decide)) rfl))] at o88
          rw [show S79 1071 = S0 1071 from funext (fun u => (zz_ro qS79 (fun h => absurd h.1 (by decide)) (zz_ro qS78 (fun h => absurd h.1 (by decide)) rfl))), show S79 1070 2 = S0 1070 2 from (zz_ro qS79 (fun h => absurd h.1 (by decide)) (zz_ro qS78 (fun h => absurd h.1 (by decide)) rfl)), show S79 1070 3 = S0 1070 3 from (zz_ro qS79 (fun h => absurd h.1 (by decide)) (zz_ro qS78 (fun h => absurd h.1 (by decide)) rfl))] at o89
          rw [show S79 1070 3 = S0 1070 3 from (zz_ro qS79 (fun h => absurd h.1 (by decide)) (zz_ro qS78 (fun h => absurd h.1 (by decide)) rfl))] at o90
          rw [show S79 1070 2 = S0 1070 2 from (zz_ro qS79 (fun h => absurd h.1 (by decide)) (zz_ro qS78 (fun h => absurd h.1 (by decide)) rfl)), show S79 1070 3 = S0 1070 3 from (zz_ro qS79 (fun h => absurd h.1 (by decide)) (zz_ro qS78 (fun h => absurd h.1 (by decide)) rfl))] at o91
          have F_S85 := zz_fr.trans F_S79 fS85 rfl zz_nv
          have H_S85 : zz_Hc S85 := zz_Hc.fr (q := 0) fS85 rfl rfl G_S79 (by decide) rfl (fun b j h => h.elim) H_S79
          skip
          refine zz_istore_n [some (.ref 1073), some (zi 2), some (zi v86)] zd_8_4_94 (by decide) rfl ?_
          refine zz_iload_n (x := 2) rfl zd_8_4_95 ?_
          refine zz_iconst zd_8_4_96 ?_
          refine zz_icmp_ne (by omega) (by omega) zd_8_4_97 (fun c92 => ?_) (fun c92 => ?_)
          · refine zz_iload_n (x := v86) rfl zd_8_4_107 ?_
            refine zz_istore_n [some (.ref 1073), some (zi 2), some (zi v86), some (zi v86)] zd_8_4_108 (by decide) rfl ?_
            refine zz_aload_n (x := 1073) rfl zd_8_4_109 ?_
            have g93 := zz_G.r G_S0 1073 1 0 1 rfl rfl
            refine zz_getr (kd := 1) (z := S0 1073 1) zd_8_4_110 zf_NetworkReader_15 zT_1073 rfl (zz_ltn hn rfl) (zz_rc fS85 rfl rfl (fun h => h) (zz_ro qS79 (fun h => absurd h.2 (by decide)) (zz_ro qS78 (fun h => absurd h.2 (by decide)) rfl))) (by omega) (zz_rf 3 (S0 1073 1)) rfl ?_
            have e94 : S85 (zz_rf 3 (S0 1073 1)) 1 = S0 (zz_rf 3 (S0 1073 1)) 1 := (zz_rc fS85 (zP_k3 (by omega) rfl) (zQ_k3 (by omega) rfl) (fun h => h) (zz_ro qS79 (fun h => absurd h.2 (by decide)) (zz_ro qS78 (fun h => absurd h.2 (by decide)) rfl)))
            refine zz_callVA [] zd_8_4_113 zk_NetworkReader_121 (zT_k3 (by omega)) (zN_k3 hn (by omega)) rfl rfl ⟨Nat.le_of_ble_eq_true rfl, Nat.le_of_ble_eq_true rfl⟩ ⟨rfl, rfl⟩ (Nat.zero_le _) (Nat.zero_le _) (zc_draft_7_6 (S0 1073 1) S85 n hn G_S85 (by omega)) (fun v96 S95 hP => ?_)
            obtain ⟨rfl, o97, o98⟩ := hP
            subst o97
            refine zz_iload_n (x := 2) rfl zd_8_4_116 ?_
            refine zz_iload_n (x := v86) rfl zd_8_4_117 ?_
            refine zz_iload_n (x := v86) rfl zd_8_4_118 ?_
            refine zz_callVV [zi 2, zi v86, zi v86] zd_8_4_119 zk_NetworkReader_125 (zT_k6 (by omega)) (zN_k6 hn (by omega)) rfl rfl ⟨Nat.le_of_ble_eq_true rfl, Nat.le_of_ble_eq_true rfl⟩ ⟨rfl, rfl⟩ (Nat.zero_le _) (Nat.zero_le _) (zc_reset_4_2 (12 * (S0 1073 1) + S85 (zz_rf 3 (S0 1073 1)) 1) 2 v86 v86 S85 n hn G_S85 (by omega) (by omega) (by omega) (by omega)) (fun S99 hP => ?_)
            obtain ⟨G_S99, fS99, o101, o102⟩ := hP
            have g103 := zz_G.r G_S0 1073 1 0 1 rfl rfl
            have b104 := zz_G.r G_S85 (zz_rf 3 (S0 1073 1)) 1 1 11 (zR_k3_1 (by omega)) (zB_k3 (by omega))
            have F_S99 := zz_fr.trans F_S85 fS99 rfl (fun a i h => by rcases h with h | h | h | h | h | h | h | h | h | h | h | h | h | h | h; exact Or.inr (Or.inl (h.1 ▸ zM_k6 (z := (12 * (S0 1073 1) + S85 (zz_rf 3 (S0 1073 1)) 1)) (by omega) rfl)); exact Or.inr (Or.inl (h.1 ▸ zM_k6 (z := (12 * (S0 1073 1) + S85 (zz_rf 3 (S0 1073 1)) 1)) (by omega) rfl)); exact Or.inr (Or.inl (h.1 ▸ zM_k6 (z := (12 * (S0 1073 1) + S85 (zz_rf 3 (S0 1073 1)) 1)) (by omega) rfl)); exact Or.inr (Or.inl (h.1 ▸ zM_k6 (z := (12 * (S0 1073 1) + S85 (zz_rf 3 (S0 1073 1)) 1)) (by omega) rfl)); exact Or.inr (Or.inl (h.1 ▸ zM_k6 (z := (12 * (S0 1073 1) + S85 (zz_rf 3 (S0 1073 1)) 1)) (by omega) rfl)); exact Or.inr (Or.inl (h.1 ▸ zM_k6 (z := (12 * (S0 1073 1) + S85 (zz_rf 3 (S0 1073 1)) 1)) (by omega) rfl)); exact Or.inr (Or.inl (h.1 ▸ zM_k6 (z := (12 * (S0 1073 1) + S85 (zz_rf 3 (S0 1073 1)) 1)) (by omega) rfl)); exact Or.inr (Or.inl (h.1 ▸ zM_k6 (z := (12 * (S0 1073 1) + S85 (zz_rf 3 (S0 1073 1)) 1)) (by omega) rfl)); exact Or.inr (Or.inl (h.1 ▸ zM_k6 (z := (12 * (S0 1073 1) + S85 (zz_rf 3 (S0 1073 1)) 1)) (by omega) rfl)); exact Or.inr (Or.inl (h.1 ▸ zM_k6 (z := (12 * (S0 1073 1) + S85 (zz_rf 3 (S0 1073 1)) 1)) (by omega) rfl)); exact Or.inr (Or.inl (h.1 ▸ zM_k6 (z := (12 * (S0 1073 1) + S85 (zz_rf 3 (S0 1073 1)) 1)) (by omega) rfl)); exact Or.inr (Or.inl (h.1 ▸ zM_k6 (z := (12 * (S0 1073 1) + S85 (zz_rf 3 (S0 1073 1)) 1)) (by omega) rfl)); exact Or.inr (Or.inl (h.1 ▸ zM_k6 (z := (12 * (S0 1073 1) + S85 (zz_rf 3 (S0 1073 1)) 1)) (by omega) rfl)); exact Or.inr (Or.inl (h.1 ▸ zM_k6 (z := (12 * (S0 1073 1) + S85 (zz_rf 3 (S0 1073 1)) 1)) (by omega) rfl)); exact Or.inr (Or.inl (h.1 ▸ zM_k6 (z := (12 * (S0 1073 1) + S85 (zz_rf 3 (S0 1073 1)) 1)) (by omega) rfl)))
            have b105 := zz_G.r G_S85 (zz_rf 3 (S0 1073 1)) 1 1 11 (zR_k3_1 (by omega)) (zB_k3 (by omega))
            have b106 := zz_rf6 (z := (12 * (S0 1073 1) + S85 (zz_rf 3 (S0 1073 1)) 1)) (by omega)
            have b107 := zz_rf3 (z := (S0 1073 1)) (by omega)
            have H_S99 : zz_Hc S99 := zz_Hc.fr (q := (S0 1073 1)) (z := 12 * (S0 1073 1) + S85 (zz_rf 3 (S0 1073 1)) 1) fS99 rfl rfl G_S85 (by omega) rfl (fun b j h => by omega) H_S85
            refine zz_iload_n (x := v86) rfl zd_8_4_122 ?_
            refine zz_iconst zd_8_4_123 ?_
            refine zz_icmp_eq (by omega) (by omega) zd_8_4_124 (fun c108 => ?_) (fun c108 => ?_)
            · refine zz_iconst zd_8_4_136 ?_
              have g109 := zz_G.r G_S85 1070 3 0 1500 rfl rfl
              have e110 : S99 1070 3 = S85 1070 3 := (zz_rc fS99 rfl rfl (by first | decide | omega) rfl)
              have e111 : S99 1073 6 = 137 := (zz_rc fS99 rfl rfl (by first | decide | omega) (zz_rc fS85 rfl rfl (fun h => h) (zz_ro qS79 (fun h => absurd h.2 (by decide)) (zz_rs qS78))))
              have e112 : S99 1073 7 = 1 := (zz_rc fS99 rfl rfl (by first | decide | omega) (zz_rc fS85 rfl rfl (fun h => h) (zz_rs qS79)))
              exact zz_zret zd_8_4_137 rfl (by omega) (Nat.zero_le _) (Nat.zero_le _) ⟨_, _, rfl, G_S99, F_S99, by omega, (fun N a hN hK => by have e0 := hK.2.2.1; have h9 := (zt_NKw hK (t := 22) (by decide) (by decide) o12).resolve_right (fun h => absurd h.1 (by decide)); have k9 : zn_kd ((zt_kn (S0 1071) (S0 1070 2)) a) ((zt_kc (S0 1071) (S0 1070 2)) a) = 2 := (by rw [h9.2.1, h9.2.2]; rfl); have t1 := o88 N hN; rw [e0] at t1; have m1 : zn_m1 (zt_kn (S0 1071) (S0 1070 2)) (zt_te (S0 1071) (S0 1070 2)) (zt_tv (S0 1071) (S0 1070 2)) (zt_kc (S0 1071) (S0 1070 2)) N a = v86 := t1.symm; have m2 : zn_m2 (zt_kn (S0 1071) (S0 1070 2)) (zt_te (S0 1071) (S0 1070 2)) (zt_tv (S0 1071) (S0 1070 2)) (zt_kc (S0 1071) (S0 1070 2)) N a = v86 := (by unfold zn_m2; rw [k9, if_neg (by decide)]; exact m1); have l3 : zn_l3 (zt_kn (S0 1071) (S0 1070 2)) (zt_te (S0 1071) (S0 1070 2)) (zt_kc (S0 1071) (S0 1070 2)) a = S99 1070 3 := (by unfold zn_l3; rw [k9, if_neg (by decide), ← e0]; omega); have z1 := o101; have z2 := o102; have h3_ := zz_rf3 (z := S0 1073 1) (by omega); rw [show S85 (zz_rf 3 (S0 1073 1)) 1 = S0 (zz_rf 3 (S0 1073 1)) 1 from (((fS85 _ _ (zz_out1 rfl (by omega)) (zz_out2 rfl (by omega)) (fun h => by first | exact h | omega)).trans (zz_ro qS79 (fun h => by omega) rfl)).trans (zz_ro qS78 (fun h => by omega) rfl))] at z1 z2; unfold zn_RL; rw [k9, m1, m2, l3]; exact Or.inr ⟨by decide, (show S99 1073 6 = 137 by omega), (show S99 1073 7 = 1 by omega), (show S99 (zz_rf 6 (12 * (S0 1073 1) + S0 (zz_rf 3 (S0 1073 1)) 1)) 0 = 2 by omega), (show S99 (zz_rf 6 (12 * (S0 1073 1) + S0 (zz_rf 3 (S0 1073 1)) 1)) 1 = v86 by omega), (show S99 (zz_rf 6 (12 * (S0 1073 1) + S0 (zz_rf 3 (S0 1073 1)) 1)) 2 = v86 by omega), ⟨(show S99 (zz_rf 6 (12 * (S0 1073 1) + S0 (zz_rf 3 (S0 1073 1)) 1)) 3 = 1 by omega), (show S99 (zz_rf 6 (12 * (S0 1073 1) + S0 (zz_rf 3 (S0 1073 1)) 1)) 4 = 1 by omega), (show S99 (zz_rf 6 (12 * (S0 1073 1) + S0 (zz_rf 3 (S0 1073 1)) 1)) 12 = 1 by omega), (show S99 (zz_rf 6 (12 * (S0 1073 1) + S0 (zz_rf 3 (S0 1073 1)) 1)) 9 = 0 by omega), (show S99 (zz_rf 6 (12 * (S0 1073 1) + S0 (zz_rf 3 (S0 1073 1)) 1)) 5 = 1 by omega), (show S99 (zz_rf 6 (12 * (S0 1073 1) + S0 (zz_rf 3 (S0 1073 1)) 1)) 6 = 0 by omega), (show S99 (zz_rf 6 (12 * (S0 1073 1) + S0 (zz_rf 3 (S0 1073 1)) 1)) 7 = 0 by omega), (show S99 (zz_rf 6 (12 * (S0 1073 1) + S0 (zz_rf 3 (S0 1073 1)) 1)) 8 = 0 by omega)⟩, rfl, Or.inr ⟨rfl, fun x => by omega⟩⟩), by omega, by omega, (fun a i h1 h2 h3 => by have hz0_ := zz_rf6 (z := 12 * (S0 1073 1) + S0 (zz_rf 3 (S0 1073 1)) 1) (by omega); have hz1_ := zz_rf6 (z := 12 * (S0 1073 1) + S85 (zz_rf 3 (S0 1073 1)) 1) (by omega); exact ((((fS99 a i (zz_out1 rfl ⟨h1, h2⟩) (zz_out2 rfl ⟨h1, h2⟩) (fun h => by first | exact h | omega)).trans (fS85 a i (zz_out1 rfl ⟨h1, h2⟩) (zz_out2 rfl ⟨h1, h2⟩) (fun h => by first | exact h | omega))).trans (zz_ro qS79 (fun h => by omega) rfl)).trans (zz_ro qS78 (fun h => by omega) rfl))), H_S99⟩
            · refine zz_iload_n (x := v86) rfl zd_8_4_127 ?_
              refine zz_iconst zd_8_4_128 ?_
              refine zz_icmp_eq (by omega) (by omega) zd_8_4_129 (fun c113 => ?_) (fun c113 => ?_)
              · refine zz_iconst zd_8_4_136 ?_
                have g114 := zz_G.r G_S85 1070 3 0 1500 rfl rfl
                have e115 : S99 1070 3 = S85 1070 3 := (zz_rc fS99 rfl rfl (by first | decide | omega) rfl)
                have e116 : S99 1073 6 = 137 := (zz_rc fS99 rfl rfl (by first | decide | omega) (zz_rc fS85 rfl rfl (fun h => h) (zz_ro qS79 (fun h => absurd h.2 (by decide)) (zz_rs qS78))))
                have e117 : S99 1073 7 = 1 := (zz_rc fS99 rfl rfl (by first | decide | omega) (zz_rc fS85 rfl rfl (fun h => h) (zz_rs qS79)))
                exact zz_zret zd_8_4_137 rfl (by omega) (Nat.zero_le _) (Nat.zero_le _) ⟨_, _, rfl, G_S99, F_S99, by omega, (fun N a hN hK => by have e0 := hK.2.2.1; have h9 := (zt_NKw hK (t := 22) (by decide) (by decide) o12).resolve_right (fun h => absurd h.1 (by decide)); have k9 : zn_kd ((zt_kn (S0 1071) (S0 1070 2)) a) ((zt_kc (S0 1071) (S0 1070 2)) a) = 2 := (by rw [h9.2.1, h9.2.2]; rfl); have t1 := o88 N hN; rw [e0] at t1; have m1 : zn_m1 (zt_kn (S0 1071) (S0 1070 2)) (zt_te (S0 1071) (S0 1070 2)) (zt_tv (S0 1071) (S0 1070 2)) (zt_kc (S0 1071) (S0 1070 2)) N a = v86 := t1.symm; have m2 : zn_m2 (zt_kn (S0 1071) (S0 1070 2)) (zt_te (S0 1071) (S0 1070 2)) (zt_tv (S0 1071) (S0 1070 2)) (zt_kc (S0 1071) (S0 1070 2)) N a = v86 := (by unfold zn_m2; rw [k9, if_neg (by decide)]; exact m1); have l3 : zn_l3 (zt_kn (S0 1071) (S0 1070 2)) (zt_te (S0 1071) (S0 1070 2)) (zt_kc (S0 1071) (S0 1070 2)) a = S99 1070 3 := (by unfold zn_l3; rw [k9, if_neg (by decide), ← e0]; omega); have z1 := o101; have z2 := o102; have h3_ := zz_rf3 (z := S0 1073 1) (by omega); rw [show S85 (zz_rf 3 (S0 1073 1)) 1 = S0 (zz_rf 3 (S0 1073 1)) 1 from (((fS85 _ _ (zz_out1 rfl (by omega)) (zz_out2 rfl (by omega)) (fun h => by first | exact h | omega)).trans (zz_ro qS79 (fun h => by omega) rfl)).trans (zz_ro qS78 (fun h => by omega) rfl))] at z1 z2; unfold zn_RL; rw [k9, m1, m2, l3]; exact Or.inr ⟨by decide, (show S99 1073 6 = 137 by omega), (show S99 1073 7 = 1 by omega), (show S99 (zz_rf 6 (12 * (S0 1073 1) + S0 (zz_rf 3 (S0 1073 1)) 1)) 0 = 2 by omega), (show S99 (zz_rf 6 (12 * (S0 1073 1) + S0 (zz_rf 3 (S0 1073 1)) 1)) 1 = v86 by omega), (show S99 (zz_rf 6 (12 * (S0 1073 1) + S0 (zz_rf 3 (S0 1073 1)) 1)) 2 = v86 by omega), ⟨(show S99 (zz_rf 6 (12 * (S0 1073 1) + S0 (zz_rf 3 (S0 1073 1)) 1)) 3 = 1 by omega), (show S99 (zz_rf 6 (12 * (S0 1073 1) + S0 (zz_rf 3 (S0 1073 1)) 1)) 4 = 1 by omega), (show S99 (zz_rf 6 (12 * (S0 1073 1) + S0 (zz_rf 3 (S0 1073 1)) 1)) 12 = 1 by omega), (show S99 (zz_rf 6 (12 * (S0 1073 1) + S0 (zz_rf 3 (S0 1073 1)) 1)) 9 = 0 by omega), (show S99 (zz_rf 6 (12 * (S0 1073 1) + S0 (zz_rf 3 (S0 1073 1)) 1)) 5 = 1 by omega), (show S99 (zz_rf 6 (12 * (S0 1073 1) + S0 (zz_rf 3 (S0 1073 1)) 1)) 6 = 0 by omega), (show S99 (zz_rf 6 (12 * (S0 1073 1) + S0 (zz_rf 3 (S0 1073 1)) 1)) 7 = 0 by omega), (show S99 (zz_rf 6 (12 * (S0 1073 1) + S0 (zz_rf 3 (S0 1073 1)) 1)) 8 = 0 by omega)⟩, rfl, Or.inr ⟨rfl, fun x => by omega⟩⟩), by omega, by omega, (fun a i h1 h2 h3 => by have hz0_ := zz_rf6 (z := 12 * (S0 1073 1) + S0 (zz_rf 3 (S0 1073 1)) 1) (by omega); have hz1_ := zz_rf6 (z := 12 * (S0 1073 1) + S85 (zz_rf 3 (S0 1073 1)) 1) (by omega); exact ((((fS99 a i (zz_out1 rfl ⟨h1, h2⟩) (zz_out2 rfl ⟨h1, h2⟩) (fun h => by first | exact h | omega)).trans (fS85 a i (zz_out1 rfl ⟨h1, h2⟩) (zz_out2 rfl ⟨h1, h2⟩) (fun h => by first | exact h | omega))).trans (zz_ro qS79 (fun h => by omega) rfl)).trans (zz_ro qS78 (fun h => by omega) rfl))), H_S99⟩
              · refine zz_iconst zd_8_4_132 ?_
                refine zz_goto zd_8_4_133 ?_
                have g118 := zz_G.r G_S85 1070 3 0 1500 rfl rfl
                have e119 : S99 1070 3 = S85 1070 3 := (zz_rc fS99 rfl rfl (by first | decide | omega) rfl)
                have e120 : S99 1073 6 = 137 := (zz_rc fS99 rfl rfl (by first | decide | omega) (zz_rc fS85 rfl rfl (fun h => h) (zz_ro qS79 (fun h => absurd h.2 (by decide)) (zz_rs qS78))))
                have e121 : S99 1073 7 = 1 := (zz_rc fS99 rfl rfl (by first | decide | omega) (zz_rc fS85 rfl rfl (fun h => h) (zz_rs qS79)))
                exact zz_zret zd_8_4_137 rfl (by omega) (Nat.zero_le _) (Nat.zero_le _) ⟨_, _, rfl, G_S99, F_S99, by omega, (fun N a hN hK => by have e0 := hK.2.2.1; have h9 := (zt_NKw hK (t := 22) (by decide) (by decide) o12).resolve_right (fun h => absurd h.1 (by decide)); have k9 : zn_kd ((zt_kn (S0 1071) (S0 1070 2)) a) ((zt_kc (S0 1071) (S0 1070 2)) a) = 2 := (by rw [h9.2.1, h9.2.2]; rfl); have t1 := o88 N hN; rw [e0] at t1; have m1 : zn_m1 (zt_kn (S0 1071) (S0 1070 2)) (zt_te (S0 1071) (S0 1070 2)) (zt_tv (S0 1071) (S0 1070 2)) (zt_kc (S0 1071) (S0 1070 2)) N a = v86 := t1.symm; have m2 : zn_m2 (zt_kn (S0 1071) (S0 1070 2)) (zt_te (S0 1071) (S0 1070 2)) (zt_tv (S0 1071) (S0 1070 2)) (zt_kc (S0 1071) (S0 1070 2)) N a = v86 := (by unfold zn_m2; rw [k9, if_neg (by decide)]; exact m1); have l3 : zn_l3 (zt_kn (S0 1071) (S0 1070 2)) (zt_te (S0 1071) (S0 1070 2)) (zt_kc (S0 1071) (S0 1070 2)) a = S99 1070 3 := (by unfold zn_l3; rw [k9, if_neg (by decide), ← e0]; omega); have z1 := o101; have z2 := o102; have h3_ := zz_rf3 (z := S0 1073 1) (by omega); rw [show S85 (zz_rf 3 (S0 1073 1)) 1 = S0 (zz_rf 3 (S0 1073 1)) 1 from (((fS85 _ _ (zz_out1 rfl (by omega)) (zz_out2 rfl (by omega)) (fun h => by first | exact h | omega)).trans (zz_ro qS79 (fun h => by omega) rfl)).trans (zz_ro qS78 (fun h => by omega) rfl))] at z1 z2; unfold zn_RL; rw [k9, m1, m2, l3]; exact Or.inr ⟨by decide, (show S99 1073 6 = 137 by omega), (show S99 1073 7 = 1 by omega), (show S99 (zz_rf 6 (12 * (S0 1073 1) + S0 (zz_rf 3 (S0 1073 1)) 1)) 0 = 2 by omega), (show S99 (zz_rf 6 (12 * (S0 1073 1) + S0 (zz_rf 3 (S0 1073 1)) 1)) 1 = v86 by omega), (show S99 (zz_rf 6 (12 * (S0 1073 1) + S0 (zz_rf 3 (S0 1073 1)) 1)) 2 = v86 by omega), ⟨(show S99 (zz_rf 6 (12 * (S0 1073 1) + S0 (zz_rf 3 (S0 1073 1)) 1)) 3 = 1 by omega), (show S99 (zz_rf 6 (12 * (S0 1073 1) + S0 (zz_rf 3 (S0 1073 1)) 1)) 4 = 1 by omega), (show S99 (zz_rf 6 (12 * (S0 1073 1) + S0 (zz_rf 3 (S0 1073 1)) 1)) 12 = 1 by omega), (show S99 (zz_rf 6 (12 * (S0 1073 1) + S0 (zz_rf 3 (S0 1073 1)) 1)) 9 = 0 by omega), (show S99 (zz_rf 6 (12 * (S0 1073 1) + S0 (zz_rf 3 (S0 1073 1)) 1)) 5 = 1 by omega), (show S99 (zz_rf 6 (12 * (S0 1073 1) + S0 (zz_rf 3 (S0 1073 1)) 1)) 6 = 0 by omega), (show S99 (zz_rf 6 (12 * (S0 1073 1) + S0 (zz_rf 3 (S0 1073 1)) 1)) 7 = 0 by omega), (show S99 (zz_rf 6 (12 * (S0 1073 1) + S0 (zz_rf 3 (S0 1073 1)) 1)) 8 = 0 by omega)⟩, rfl, Or.inl ⟨rfl, by omega, by omega⟩⟩), by omega, by omega, (fun a i h1 h2 h3 => by have hz0_ := zz_rf6 (z := 12 * (S0 1073 1) + S0 (zz_rf 3 (S0 1073 1)) 1) (by omega); have hz1_ := zz_rf6 (z := 12 * (S0 1073 1) + S85 (zz_rf 3 (S0 1073 1)) 1) (by omega); exact ((((fS99 a i (zz_out1 rfl ⟨h1, h2⟩) (zz_out2 rfl ⟨h1, h2⟩) (fun h => by first | exact h | omega)).trans (fS85 a i (zz_out1 rfl ⟨h1, h2⟩) (zz_out2 rfl ⟨h1, h2⟩) (fun h => by first | exact h | omega))).trans (zz_ro qS79 (fun h => by omega) rfl)).trans (zz_ro qS78 (fun h => by omega) rfl))), H_S99⟩
          · exfalso; omega
    · exfalso; omega
  · skip
    refine zz_if_eq (by omega) zd_8_4_9 (fun c122 => ?_) (fun c122 => ?_)
    · exfalso; omega
    · refine zz_iconst zd_8_4_12 ?_
      refine zz_istore_n [some (.ref 1073), some (zi 1)] zd_8_4_13 (by decide) rfl ?_
      refine zz_aload_n (x := 1073) rfl zd_8_4_14 ?_
      refine zz_sipush (by decide) zd_8_4_15 ?_
      refine zz_puti zd_8_4_18 zf_NetworkReader_35 zT_1073 rfl (zz_ltn hn rfl) (fun S123 qS123 => ?_)
      have G_S123 := zz_G.put G_S0 qS123 (-2147483648) 2147483647 rfl (by omega)
      have F_S123 := zz_fr.puts F_S0 qS123 rfl
      have H_S123 : zz_Hc S123 := zz_Hc.fr (q := 0) (zz_fr.put1 qS123) rfl rfl G_S0 (by decide) rfl (fun b j h => by omega) H_S0
      refine zz_aload_n (x := 1073) rfl zd_8_4_21 ?_
      refine zz_bipush (by decide) zd_8_4_22 ?_
      refine zz_puti zd_8_4_24 zf_NetworkReader_38 zT_1073 rfl (zz_ltn hn rfl) (fun S124 qS124 => ?_)
      have G_S124 := zz_G.put G_S123 qS124 (-2147483648) 2147483647 rfl (by omega)
      have F_S124 := zz_fr.puts F_S123 qS124 rfl
      have H_S124 : zz_Hc S124 := zz_Hc.fr (q := 0) (zz_fr.put1 qS124) rfl rfl G_S123 (by decide) rfl (fun b j h => by omega) H_S123
      refine zz_goto zd_8_4_27 ?_
      refine zz_aload_n (x := 1073) rfl zd_8_4_90 ?_
      have g125 := zz_G.r G_S0 1070 1 0 1500 rfl rfl
      have e126 : S124 1070 1 = S0 1070 1 := (zz_ro qS124 (fun h => absurd h.1 (by decide)) (zz_ro qS123 (fun h => absurd h.1 (by decide)) rfl))
      have g127 := zz_G.r G_S0 1070 2 (-1) 1500 rfl rfl
      have e128 : S124 1070 2 = S0 1070 2 := (zz_ro qS124 (fun h => absurd h.1 (by decide)) (zz_ro qS123 (fun h => absurd h.1 (by decide)) rfl))
      have e129 : S124 1070 3 = S0 1070 3 := (zz_ro qS124 (fun h => absurd h.1 (by decide)) (zz_ro qS123 (fun h => absurd h.1 (by decide)) rfl))
      refine zz_callVI [] zd_8_4_91 zk_NetworkReader_118 zT_1073 (zz_ltn hn rfl) rfl rfl ⟨Nat.le_of_ble_eq_true rfl, Nat.le_of_ble_eq_true rfl⟩ ⟨rfl, rfl⟩ (Nat.zero_le _) (Nat.zero_le _) (zc_readTensor_8_5  S124 n hn G_S124 ) (fun v131 S130 hP => ?_)
      obtain ⟨G_S130, fS130, o132, o133, o134, o135, o136⟩ := hP
      rw [show S124 1071 = S0 1071 from funext (fun u => (zz_ro qS124 (fun h => absurd h.1 (by decide)) (zz_ro qS123 (fun h => absurd h.1 (by decide)) rfl))), show S124 1074 = S0 1074 from funext (fun u => (zz_ro qS124 (fun h => absurd h.1 (by decide)) (zz_ro qS123 (fun h => absurd h.1 (by decide)) rfl))), show S124 1075 = S0 1075 from funext (fun u => (zz_ro qS124 (fun h => absurd h.1 (by decide)) (zz_ro qS123 (fun h => absurd h.1 (by decide)) rfl))), show S124 1070 1 = S0 1070 1 from (zz_ro qS124 (fun h => absurd h.1 (by decide)) (zz_ro qS123 (fun h => absurd h.1 (by decide)) rfl)), show S124 1070 2 = S0 1070 2 from (zz_ro qS124 (fun h => absurd h.1 (by decide)) (zz_ro qS123 (fun h => absurd h.1 (by decide)) rfl)), show S124 1070 3 = S0 1070 3 from (zz_ro qS124 (fun h => absurd h.1 (by decide)) (zz_ro qS123 (fun h => absurd h.1 (by decide)) rfl))] at o133
      rw [show S124 1071 = S0 1071 from funext (fun u => (zz_ro qS124 (fun h => absurd h.1 (by decide)) (zz_ro qS123 (fun h => absurd h.1 (by decide)) rfl))), show S124 1070 2 = S0 1070 2 from (zz_ro qS124 (fun h => absurd h.1 (by decide)) (zz_ro qS123 (fun h => absurd h.1 (by decide)) rfl)), show S124 1070 3 = S0 1070 3 from (zz_ro qS124 (fun h => absurd h.1 (by decide)) (zz_ro qS123 (fun h => absurd h.1 (by decide)) rfl))] at o134
      rw [show S124 1070 3 = S0 1070 3 from (zz_ro qS124 (fun h => absurd h.1 (by decide)) (zz_ro qS123 (fun h => absurd h.1 (by decide)) rfl))] at o135
      rw [show S124 1070 2 = S0 1070 2 from (zz_ro qS124 (fun h => absurd h.1 (by decide)) (zz_ro qS123 (fun h => absurd h.1 (by decide)) rfl)), show S124 1070 3 = S0 1070 3 from (zz_ro qS124 (fun h => absurd h.1 (by decide)) (zz_ro qS123 (fun h => absurd h.1 (by decide)) rfl))] at o136
      have F_S130 := zz_fr.trans F_S124 fS130 rfl zz_nv
      have H_S130 : zz_Hc S130 := zz_Hc.fr (q := 0) fS130 rfl rfl G_S124 (by decide) rfl (fun b j h => h.elim) H_S124
      skip
      refine zz_istore_n [some (.ref 1073), some (zi 1), some (zi v131)] zd_8_4_94 (by decide) rfl ?_
      refine zz_iload_n (x := 1) rfl zd_8_4_95 ?_
      refine zz_iconst zd_8_4_96 ?_
      refine zz_icmp_ne (by omega) (by omega) zd_8_4_97 (fun c137 => ?_) (fun c137 => ?_)
      · refine zz_iload_n (x := v131) rfl zd_8_4_107 ?_
        refine zz_istore_n [some (.ref 1073), some (zi 1), some (zi v131), some (zi v131)] zd_8_4_108 (by decide) rfl ?_
        refine zz_aload_n (x := 1073) rfl zd_8_4_109 ?_
        have g138 := zz_G.r G_S0 1073 1 0 1 rfl rfl
        refine zz_getr (kd := 1) (z := S0 1073 1) zd_8_4_110 zf_NetworkReader_15 zT_1073 rfl (zz_ltn hn rfl) (zz_rc fS130 rfl rfl (fun h => h) (zz_ro qS124 (fun h => absurd h.2 (by decide)) (zz_ro qS123 (fun h => absurd h.2 (by decide)) rfl))) (by omega) (zz_rf 3 (S0 1073 1)) rfl ?_
        have e139 : S130 (zz_rf 3 (S0 1073 1)) 1 = S0 (zz_rf 3 (S0 1073 1)) 1 := (zz_rc fS130 (zP_k3 (by omega) rfl) (zQ_k3 (by omega) rfl) (fun h => h) (zz_ro qS124 (fun h => absurd h.2 (by decide)) (zz_ro qS123 (fun h => absurd h.2 (by decide)) rfl)))
        refine zz_callVA [] zd_8_4_113 zk_NetworkReader_121 (zT_k3 (by omega)) (zN_k3 hn (by omega)) rfl rfl ⟨Nat.le_of_ble_eq_true rfl, Nat.le_of_ble_eq_true rfl⟩ ⟨rfl, rfl⟩ (Nat.zero_le _) (Nat.zero_le _) (zc_draft_7_6 (S0 1073 1) S130 n hn G_S130 (by omega)) (fun v141 S140 hP => ?_)
        obtain ⟨rfl, o142, o143⟩ := hP
        subst o142
        refine zz_iload_n (x := 1) rfl zd_8_4_116 ?_
        refine zz_iload_n (x := v131) rfl zd_8_4_117 ?_
        refine zz_iload_n (x := v131) rfl zd_8_4_118 ?_
        refine zz_callVV [zi 1, zi v131, zi v131] zd_8_4_119 zk_NetworkReader_125 (zT_k6 (by omega)) (zN_k6 hn (by omega)) rfl rfl ⟨Nat.le_of_ble_eq_true rfl, Nat.le_of_ble_eq_true rfl⟩ ⟨rfl, rfl⟩ (Nat.zero_le _) (Nat.zero_le _) (zc_reset_4_2 (12 * (S0 1073 1) + S130 (zz_rf 3 (S0 1073 1)) 1) 1 v131 v131 S130 n hn G_S130 (by omega) (by omega) (by omega) (by omega)) (fun S144 hP => ?_)
        obtain ⟨G_S144, fS144, o146, o147⟩ := hP
        have g148 := zz_G.r G_S0 1073 1 0 1 rfl rfl
        have b149 := zz_G.r G_S130 (zz_rf 3 (S0 1073 1)) 1 1 11 (zR_k3_1 (by omega)) (zB_k3 (by omega))
        have F_S144 := zz_fr.trans F_S130 fS144 rfl (fun a i h => by rcases h with h | h | h | h | h | h | h | h | h | h | h | h | h | h | h; exact Or.inr (Or.inl (h.1 ▸ zM_k6 (z := (12 * (S0 1073 1) + S130 (zz_rf 3 (S0 1073 1)) 1)) (by omega) rfl)); exact Or.inr (Or.inl (h.1 ▸ zM_k6 (z := (12 * (S0 1073 1) + S130 (zz_rf 3 (S0 1073 1)) 1)) (by omega) rfl)); exact Or.inr (Or.inl (h.1 ▸ zM_k6 (z := (12 * (S0 1073 1) + S130 (zz_rf 3 (S0 1073 1)) 1)) (by omega) rfl)); exact Or.inr (Or.inl (h.1 ▸ zM_k6 (z := (12 * (S0 1073 1) + S130 (zz_rf 3 (S0 1073 1)) 1)) (by omega) rfl)); exact Or.inr (Or.inl (h.1 ▸ zM_k6 (z := (12 * (S0 1073 1) + S130 (zz_rf 3 (S0 1073 1)) 1)) (by omega) rfl)); exact Or.inr (Or.inl (h.1 ▸ zM_k6 (z := (12 * (S0 1073 1) + S130 (zz_rf 3 (S0 1073 1)) 1)) (by omega) rfl)); exact Or.inr (Or.inl (h.1 ▸ zM_k6 (z := (12 * (S0 1073 1) + S130 (zz_rf 3 (S0 1073 1)) 1)) (by omega) rfl)); exact Or.inr (Or.inl (h.1 ▸ zM_k6 (z := (12 * (S0 1073 1) + S130 (zz_rf 3 (S0 1073 1)) 1)) (by omega) rfl)); exact Or.inr (Or.inl (h.1 ▸ zM_k6 (z := (12 * (S0 1073 1) + S130 (zz_rf 3 (S0 1073 1)) 1)) (by omega) rfl)); exact Or.inr (Or.inl (h.1 ▸ zM_k6 (z := (12 * (S0 1073 1) + S130 (zz_rf 3 (S0 1073 1)) 1)) (by omega) rfl)); exact Or.inr (Or.inl (h.1 ▸ zM_k6 (z := (12 * (S0 1073 1) + S130 (zz_rf 3 (S0 1073 1)) 1)) (by omega) rfl)); exact Or.inr (Or.inl (h.1 ▸ zM_k6 (z := (12 * (S0 1073 1) + S130 (zz_rf 3 (S0 1073 1)) 1)) (by omega) rfl)); exact Or.inr (Or.inl (h.1 ▸ zM_k6 (z := (12 * (S0 1073 1) + S130 (zz_rf 3 (S0 1073 1)) 1)) (by omega) rfl)); exact Or.inr (Or.inl (h.1 ▸ zM_k6 (z := (12 * (S0 1073 1) + S130 (zz_rf 3 (S0 1073 1)) 1)) (by omega) rfl)); exact Or.inr (Or.inl (h.1 ▸ zM_k6 (z := (12 * (S0 1073 1) + S130 (zz_rf 3 (S0 1073 1)) 1)) (by omega) rfl)))
        have b150 := zz_G.r G_S130 (zz_rf 3 (S0 1073 1)) 1 1 11 (zR_k3_1 (by omega)) (zB_k3 (by omega))
        have b151 := zz_rf6 (z := (12 * (S0 1073 1) + S130 (zz_rf 3 (S0 1073 1)) 1)) (by omega)
        have b152 := zz_rf3 (z := (S0 1073 1)) (by omega)
        have H_S144 : zz_Hc S144 := zz_Hc.fr (q := (S0 1073 1)) (z := 12 * (S0 1073 1) + S130 (zz_rf 3 (S0 1073 1)) 1) fS144 rfl rfl G_S130 (by omega) rfl (fun b j h => by omega) H_S130
        refine zz_iload_n (x := v131) rfl zd_8_4_122 ?_
        refine zz_iconst zd_8_4_123 ?_
        refine zz_icmp_eq (by omega) (by omega) zd_8_4_124 (fun c153 => ?_) (fun c153 => ?_)
        · refine zz_iconst zd_8_4_136 ?_
          have g154 := zz_G.r G_S130 1070 3 0 1500 rfl rfl
          have e155 : S144 1070 3 = S130 1070 3 := (zz_rc fS144 rfl rfl (by first | decide | omega) rfl)
          have e156 : S144 1073 6 = 255 := (zz_rc fS144 rfl rfl (by first | decide | omega) (zz_rc fS130 rfl rfl (fun h => h) (zz_ro qS124 (fun h => absurd h.2 (by decide)) (zz_rs qS123))))
          have e157 : S144 1073 7 = 7 := (zz_rc fS144 rfl rfl (by first | decide | omega) (zz_rc fS130 rfl rfl (fun h => h) (zz_rs qS124)))
          exact zz_zret zd_8_4_137 rfl (by omega) (Nat.zero_le _) (Nat.zero_le _) ⟨_, _, rfl, G_S144, F_S144, by omega, (fun N a hN hK => by have e0 := hK.2.2.1; have h9 := (zt_NKw hK (t := 21) (by decide) (by decide) o7).resolve_right (fun h => absurd h.1 (by decide)); have k9 : zn_kd ((zt_kn (S0 1071) (S0 1070 2)) a) ((zt_kc (S0 1071) (S0 1070 2)) a) = 1 := (by rw [h9.2.1, h9.2.2]; rfl); have t1 := o133 N hN; rw [e0] at t1; have m1 : zn_m1 (zt_kn (S0 1071) (S0 1070 2)) (zt_te (S0 1071) (S0 1070 2)) (zt_tv (S0 1071) (S0 1070 2)) (zt_kc (S0 1071) (S0 1070 2)) N a = v131 := t1.symm; have m2 : zn_m2 (zt_kn (S0 1071) (S0 1070 2)) (zt_te (S0 1071) (S0 1070 2)) (zt_tv (S0 1071) (S0 1070 2)) (zt_kc (S0 1071) (S0 1070 2)) N a = v131 := (by unfold zn_m2; rw [k9, if_neg (by decide)]; exact m1); have l3 : zn_l3 (zt_kn (S0 1071) (S0 1070 2)) (zt_te (S0 1071) (S0 1070 2)) (zt_kc (S0 1071) (S0 1070 2)) a = S144 1070 3 := (by unfold zn_l3; rw [k9, if_neg (by decide), ← e0]; omega); have z1 := o146; have z2 := o147; have h3_ := zz_rf3 (z := S0 1073 1) (by omega); rw [show S130 (zz_rf 3 (S0 1073 1)) 1 = S0 (zz_rf 3 (S0 1073 1)) 1 from (((fS130 _ _ (zz_out1 rfl (by omega)) (zz_out2 rfl (by omega)) (fun h => by first | exact h | omega)).trans (zz_ro qS124 (fun h => by omega) rfl)).trans (zz_ro qS123 (fun h => by omega) rfl))] at z1 z2; unfold zn_RL; rw [k9, m1, m2, l3]; exact Or.inr ⟨by decide, (show S144 1073 6 = 255 by omega), (show S144 1073 7 = 7 by omega), (show S144 (zz_rf 6 (12 * (S0 1073 1) + S0 (zz_rf 3 (S0 1073 1)) 1)) 0 = 1 by omega), (show S144 (zz_rf 6 (12 * (S0 1073 1) + S0 (zz_rf 3 (S0 1073 1)) 1)) 1 = v131 by omega), (show S144 (zz_rf 6 (12 * (S0 1073 1) + S0 (zz_rf 3 (S0 1073 1)) 1)) 2 = v131 by omega), ⟨(show S144 (zz_rf 6 (12 * (S0 1073 1) + S0 (zz_rf 3 (S0 1073 1)) 1)) 3 = 1 by omega), (show S144 (zz_rf 6 (12 * (S0 1073 1) + S0 (zz_rf 3 (S0 1073 1)) 1)) 4 = 1 by omega), (show S144 (zz_rf 6 (12 * (S0 1073 1) + S0 (zz_rf 3 (S0 1073 1)) 1)) 12 = 1 by omega), (show S144 (zz_rf 6 (12 * (S0 1073 1) + S0 (zz_rf 3 (S0 1073 1)) 1)) 9 = 0 by omega), (show S144 (zz_rf 6 (12 * (S0 1073 1) + S0 (zz_rf 3 (S0 1073 1)) 1)) 5 = 1 by omega), (show S144 (zz_rf 6 (12 * (S0 1073 1) + S0 (zz_rf 3 (S0 1073 1)) 1)) 6 = 0 by omega), (show S144 (zz_rf 6 (12 * (S0 1073 1) + S0 (zz_rf 3 (S0 1073 1)) 1)) 7 = 0 by omega), (show S144 (zz_rf 6 (12 * (S0 1073 1) + S0 (zz_rf 3 (S0 1073 1)) 1)) 8 = 0 by omega)⟩, rfl, Or.inr ⟨rfl, fun x => by omega⟩⟩), by omega, by omega, (fun a i h1 h2 h3 => by have hz0_ := zz_rf6 (z := 12 * (S0 1073 1) + S0 (zz_rf 3 (S0 1073 1)) 1) (by omega); have hz1_ := zz_rf6 (z := 12 * (S0 1073 1) + S130 (zz_rf 3 (S0 1073 1)) 1) (by omega); exact ((((fS144 a i (zz_out1 rfl ⟨h1, h2⟩) (zz_out2 rfl ⟨h1, h2⟩) (fun h => by first | exact h | omega)).trans (fS130 a i (zz_out1 rfl ⟨h1, h2⟩) (zz_out2 rfl ⟨h1, h2⟩) (fun h => by first | exact h | omega))).trans (zz_ro qS124 (fun h => by omega) rfl)).trans (zz_ro qS123 (fun h => by omega) rfl))), H_S144⟩
        · refine zz_iload_n (x := v131) rfl zd_8_4_127 ?_
          refine zz_iconst zd_8_4_128 ?_
          refine zz_icmp_eq (by omega) (by omega) zd_8_4_129 (fun c158 => ?_) (fun c158 => ?_)
          · refine zz_iconst zd_8_4_136 ?_
            have g159 := zz_G.r G_S130 1070 3 0 1500 rfl rfl
            have e160 : S144 1070 3 = S130 1070 3 := (zz_rc fS144 rfl rfl (by first | decide | omega) rfl)
            have e161 : S144 1073 6 = 255 := (zz_rc fS144 rfl rfl (by first | decide | omega) (zz_rc fS130 rfl rfl (fun h => h) (zz_ro qS124 (fun h => absurd h.2 (by decide)) (zz_rs qS123))))
            have e162 : S144 1073 7 = 7 := (zz_rc fS144 rfl rfl (by first | decide | omega) (zz_rc fS130 rfl rfl (fun h => h) (zz_rs qS124)))
            exact zz_zret zd_8_4_137 rfl (by omega) (Nat.zero_le _) (Nat.zero_le _) ⟨_, _, rfl, G_S144, F_S144, by omega, (fun N a hN hK => by have e0 := hK.2.2.1; have h9 := (zt_NKw hK (t := 21) (by decide) (by decide) o7).resolve_right (fun h => absurd h.1 (by decide)); have k9 : zn_kd ((zt_kn (S0 1071) (S0 1070 2)) a) ((zt_kc (S0 1071) (S0 1070 2)) a) = 1 := (by rw [h9.2.1, h9.2.2]; rfl); have t1 := o133 N hN; rw [e0] at t1; have m1 : zn_m1 (zt_kn (S0 1071) (S0 1070 2)) (zt_te (S0 1071) (S0 1070 2)) (zt_tv (S0 1071) (S0 1070 2)) (zt_kc (S0 1071) (S0 1070 2)) N a = v131 := t1.symm; have m2 : zn_m2 (zt_kn (S0 1071) (S0 1070 2)) (zt_te (S0 1071) (S0 1070 2)) (zt_tv (S0 1071) (S0 1070 2)) (zt_kc (S0 1071) (S0 1070 2)) N a = v131 := (by unfold zn_m2; rw [k9, if_neg (by decide)]; exact m1); have l3 : zn_l3 (zt_kn (S0 1071) (S0 1070 2)) (zt_te (S0 1071) (S0 1070 2)) (zt_kc (S0 1071) (S0 1070 2)) a = S144 1070 3 := (by unfold zn_l3; rw [k9, if_neg (by decide), ← e0]; omega); have z1 := o146; have z2 := o147; have h3_ := zz_rf3 (z := S0 1073 1) (by omega); rw [show S130 (zz_rf 3 (S0 1073 1)) 1 = S0 (zz_rf 3 (S0 1073 1)) 1 from (((fS130 _ _ (zz_out1 rfl (by omega)) (zz_out2 rfl (by omega)) (fun h => by first | exact h | omega)).trans (zz_ro qS124 (fun h => by omega) rfl)).trans (zz_ro qS123 (fun h => by omega) rfl))] at z1 z2; unfold zn_RL; rw [k9, m1, m2, l3]; exact Or.inr ⟨by decide, (show S144 1073 6 = 255 by omega), (show S144 1073 7 = 7 by omega), (show S144 (zz_rf 6 (12 * (S0 1073 1) + S0 (zz_rf 3 (S0 1073 1)) 1)) 0 = 1 by omega), (show S144 (zz_rf 6 (12 * (S0 1073 1) + S0 (zz_rf 3 (S0 1073 1)) 1)) 1 = v131 by omega), (show S144 (zz_rf 6 (12 * (S0 1073 1) + S0 (zz_rf 3 (S0 1073 1)) 1)) 2 = v131 by omega), ⟨(show S144 (zz_rf 6 (12 * (S0 1073 1) + S0 (zz_rf 3 (S0 1073 1)) 1)) 3 = 1 by omega), (show S144 (zz_rf 6 (12 * (S0 1073 1) + S0 (zz_rf 3 (S0 1073 1)) 1)) 4 = 1 by omega), (show S144 (zz_rf 6 (12 * (S0 1073 1) + S0 (zz_rf 3 (S0 1073 1)) 1)) 12 = 1 by omega), (show S144 (zz_rf 6 (12 * (S0 1073 1) + S0 (zz_rf 3 (S0 1073 1)) 1)) 9 = 0 by omega), (show S144 (zz_rf 6 (12 * (S0 1073 1) + S0 (zz_rf 3 (S0 1073 1)) 1)) 5 = 1 by omega), (show S144 (zz_rf 6 (12 * (S0 1073 1) + S0 (zz_rf 3 (S0 1073 1)) 1)) 6 = 0 by omega), (show S144 (zz_rf 6 (12 * (S0 1073 1) + S0 (zz_rf 3 (S0 1073 1)) 1)) 7 = 0 by omega), (show S144 (zz_rf 6 (12 * (S0 1073 1) + S0 (zz_rf 3 (S0 1073 1)) 1)) 8 = 0 by omega)⟩, rfl, Or.inr ⟨rfl, fun x => by omega⟩⟩), by omega, by omega, (fun a i h1 h2 h3 => by have hz0_ := zz_rf6 (z := 12 * (S0 1073 1) + S0 (zz_rf 3 (S0 1073 1)) 1) (by omega); have hz1_ := zz_rf6 (z := 12 * (S0 1073 1) + S130 (zz_rf 3 (S0 1073 1)) 1) (by omega); exact ((((fS144 a i (zz_out1 rfl ⟨h1, h2⟩) (zz_out2 rfl ⟨h1, h2⟩) (fun h => by first | exact h | omega)).trans (fS130 a i (zz_out1 rfl ⟨h1, h2⟩) (zz_out2 rfl ⟨h1, h2⟩) (fun h => by first | exact h | omega))).trans (zz_ro qS124 (fun h => by omega) rfl)).trans (zz_ro qS123 (fun h => by omega) rfl))), H_S144⟩
          · refine zz_iconst zd_8_4_132 ?_
            refine zz_goto zd_8_4_133 ?_
            have g163 := zz_G.r G_S130 1070 3 0 1500 rfl rfl
            have e164 : S144 1070 3 = S130 1070 3 := (zz_rc fS144 rfl rfl (by first | decide | omega) rfl)
            have e165 : S144 1073 6 = 255 := (zz_rc fS144 rfl rfl (by first | decide | omega) (zz_rc fS130 rfl rfl (fun h => h) (zz_ro qS124 (fun h => absurd h.2 (by decide)) (zz_rs qS123))))
            have e166 : S144 1073 7 = 7 := (zz_rc fS144 rfl rfl (by first | decide | omega) (zz_rc fS130 rfl rfl (fun h => h) (zz_rs qS124)))
            exact zz_zret zd_8_4_137 rfl (by omega) (Nat.zero_le _) (Nat.zero_le _) ⟨_, _, rfl, G_S144, F_S144, by omega, (fun N a hN hK => by have e0 := hK.2.2.1; have h9 := (zt_NKw hK (t := 21) (by decide) (by decide) o7).resolve_right (fun h => absurd h.1 (by decide)); have k9 : zn_kd ((zt_kn (S0 1071) (S0 1070 2)) a) ((zt_kc (S0 1071) (S0 1070 2)) a) = 1 := (by rw [h9.2.1, h9.2.2]; rfl); have t1 := o133 N hN; rw [e0] at t1; have m1 : zn_m1 (zt_kn (S0 1071) (S0 1070 2)) (zt_te (S0 1071) (S0 1070 2)) (zt_tv (S0 1071) (S0 1070 2)) (zt_kc (S0 1071) (S0 1070 2)) N a = v131 := t1.symm; have m2 : zn_m2 (zt_kn (S0 1071) (S0 1070 2)) (zt_te (S0 1071) (S0 1070 2)) (zt_tv (S0 1071) (S0 1070 2)) (zt_kc (S0 1071) (S0 1070 2)) N a = v131 := (by unfold zn_m2; rw [k9, if_neg (by decide)]; exact m1); have l3 : zn_l3 (zt_kn (S0 1071) (S0 1070 2)) (zt_te (S0 1071) (S0 1070 2)) (zt_kc (S0 1071) (S0 1070 2)) a = S144 1070 3 := (by unfold zn_l3; rw [k9, if_neg (by decide), ← e0]; omega); have z1 := o146; have z2 := o147; have h3_ := zz_rf3 (z := S0 1073 1) (by omega); rw [show S130 (zz_rf 3 (S0 1073 1)) 1 = S0 (zz_rf 3 (S0 1073 1)) 1 from (((fS130 _ _ (zz_out1 rfl (by omega)) (zz_out2 rfl (by omega)) (fun h => by first | exact h | omega)).trans (zz_ro qS124 (fun h => by omega) rfl)).trans (zz_ro qS123 (fun h => by omega) rfl))] at z1 z2; unfold zn_RL; rw [k9, m1, m2, l3]; exact Or.inr ⟨by decide, (show S144 1073 6 = 255 by omega), (show S144 1073 7 = 7 by omega), (show S144 (zz_rf 6 (12 * (S0 1073 1) + S0 (zz_rf 3 (S0 1073 1)) 1)) 0 = 1 by omega), (show S144 (zz_rf 6 (12 * (S0 1073 1) + S0 (zz_rf 3 (S0 1073 1)) 1)) 1 = v131 by omega), (show S144 (zz_rf 6 (12 * (S0 1073 1) + S0 (zz_rf 3 (S0 1073 1)) 1)) 2 = v131 by omega), ⟨(show S144 (zz_rf 6 (12 * (S0 1073 1) + S0 (zz_rf 3 (S0 1073 1)) 1)) 3 = 1 by omega), (show S144 (zz_rf 6 (12 * (S0 1073 1) + S0 (zz_rf 3 (S0 1073 1)) 1)) 4 = 1 by omega), (show S144 (zz_rf 6 (12 * (S0 1073 1) + S0 (zz_rf 3 (S0 1073 1)) 1)) 12 = 1 by omega), (show S144 (zz_rf 6 (12 * (S0 1073 1) + S0 (zz_rf 3 (S0 1073 1)) 1)) 9 = 0 by omega), (show S144 (zz_rf 6 (12 * (S0 1073 1) + S0 (zz_rf 3 (S0 1073 1)) 1)) 5 = 1 by omega), (show S144 (zz_rf 6 (12 * (S0 1073 1) + S0 (zz_rf 3 (S0 1073 1)) 1)) 6 = 0 by omega), (show S144 (zz_rf 6 (12 * (S0 1073 1) + S0 (zz_rf 3 (S0 1073 1)) 1)) 7 = 0 by omega), (show S144 (zz_rf 6 (12 * (S0 1073 1) + S0 (zz_rf 3 (S0 1073 1)) 1)) 8 = 0 by omega)⟩, rfl, Or.inl ⟨rfl, by omega, by omega⟩⟩), by omega, by omega, (fun a i h1 h2 h3 => by have hz0_ := zz_rf6 (z := 12 * (S0 1073 1) + S0 (zz_rf 3 (S0 1073 1)) 1) (by omega); have hz1_ := zz_rf6 (z := 12 * (S0 1073 1) + S130 (zz_rf 3 (S0 1073 1)) 1) (by omega); exact ((((fS144 a i (zz_out1 rfl ⟨h1, h2⟩) (zz_out2 rfl ⟨h1, h2⟩) (fun h => by first | exact h | omega)).trans (fS130 a i (zz_out1 rfl ⟨h1, h2⟩) (zz_out2 rfl ⟨h1, h2⟩) (fun h => by first | exact h | omega))).trans (zz_ro qS124 (fun h => by omega) rfl)).trans (zz_ro qS123 (fun h => by omega) rfl))), H_S144⟩
      · exfalso; omega
theorem zk_NetworkReader_65 : mm_Vl "TensorForge$NetworkReader" 65 8 0 zy_readLayer_8_4 := ⟨zyw_readLayer_8_4, (R_NetworkReader, F_NetworkReader, 9), rfl, mm_tb_1 920 (by decide +kernel) rfl, mm_tb_1 922 (by decide +kernel) rfl, mm_tb_s 41 (by decide +kernel) rfl⟩
theorem zk_NetworkReader_71 : mm_Vl "TensorForge$NetworkReader" 71 1 0 zy_offer_7_7 := ⟨zyw_offer_7_7, (R_Network, F_Network, 2), rfl, mm_tb_1 989 (by decide +kernel) rfl, mm_tb_1 990 (by decide +kernel) rfl, mm_tb_1 991 (by decide +kernel) rfl⟩
theorem zg_8_2_66 : zq_at zy_readInto_8_2.2.1 66 153 ∧ zq_at zy_readInto_8_2.2.1 67 0 ∧ zq_at zy_readInto_8_2.2.1 68 24 ∧ zq_at zy_readInto_8_2.2.1 90 3 ∧ zq_at zy_readInto_8_2.2.1 91 167 ∧ zq_at zy_readInto_8_2.2.1 92 0 ∧ zq_at zy_readInto_8_2.2.1 93 22 ∧ zq_at zy_readInto_8_2.2.1 69 42 ∧ zq_at zy_readInto_8_2.2.1 70 182 ∧ zq_at zy_readInto_8_2.2.1 71 0 ∧ zq_at zy_readInto_8_2.2.1 72 68 ∧ zq_at zy_readInto_8_2.2.1 73 153 ∧ zq_at zy_readInto_8_2.2.1 74 0 ∧ zq_at zy_readInto_8_2.2.1 75 17 ∧ zq_at zy_readInto_8_2.2.1 76 42 ∧ zq_at zy_readInto_8_2.2.1 77 180 ∧ zq_at zy_readInto_8_2.2.1 78 0 ∧ zq_at zy_readInto_8_2.2.1 79 15 ∧ zq_at zy_readInto_8_2.2.1 80 182 ∧ zq_at zy_readInto_8_2.2.1 81 0 ∧ zq_at zy_readInto_8_2.2.1 82 71 ∧ zq_at zy_readInto_8_2.2.1 83 154 ∧ zq_at zy_readInto_8_2.2.1 84 0 ∧ zq_at zy_readInto_8_2.2.1 85 7 := by decide +kernel
theorem zd_8_2_66 : zz_B zy_readInto_8_2 66 (Instr.ifCond .eq) 90 69 := ⟨24, zq_153 zg_8_2_66.1 zg_8_2_66.2.1 zg_8_2_66.2.2.1 (by decide), rfl, rfl⟩
theorem zd_8_2_90 : zz_D zy_readInto_8_2 90 (.iconst 0) 1 91 := ⟨zq_3 zg_8_2_66.2.2.2.1, rfl⟩
theorem zd_8_2_91 : zz_B zy_readInto_8_2 91 Instr.goto 113 94 := ⟨22, zq_167 zg_8_2_66.2.2.2.2.1 zg_8_2_66.2.2.2.2.2.1 zg_8_2_66.2.2.2.2.2.2.1 (by decide), rfl, rfl⟩
theorem zd_8_2_69 : zz_D zy_readInto_8_2 69 (.aload_n 0) 1 70 := ⟨zq_42 zg_8_2_66.2.2.2.2.2.2.2.1, rfl⟩
theorem zd_8_2_70 : zz_D zy_readInto_8_2 70 (.invokevirtual 68) 3 73 := ⟨zq_182 zg_8_2_66.2.2.2.2.2.2.2.2.1 zg_8_2_66.2.2.2.2.2.2.2.2.2.1 zg_8_2_66.2.2.2.2.2.2.2.2.2.2.1 rfl, rfl⟩
theorem zd_8_2_73 : zz_B zy_readInto_8_2 73 (Instr.ifCond .eq) 90 76 := ⟨17, zq_153 zg_8_2_66.2.2.2.2.2.2.2.2.2.2.2.1 zg_8_2_66.2.2.2.2.2.2.2.2.2.2.2.2.1 zg_8_2_66.2.2.2.2.2.2.2.2.2.2.2.2.2.1 (by decide), rfl, rfl⟩
theorem zd_8_2_76 : zz_D zy_readInto_8_2 76 (.aload_n 0) 1 77 := ⟨zq_42 zg_8_2_66.2.2.2.2.2.2.2.2.2.2.2.2.2.2.1, rfl⟩
theorem zd_8_2_77 : zz_D zy_readInto_8_2 77 (.getfield 15) 3 80 := ⟨zq_180 zg_8_2_66.2.2.2.2.2.2.2.2.2.2.2.2.2.2.2.1 zg_8_2_66.2.2.2.2.2.2.2.2.2.2.2.2.2.2.2.2.1 zg_8_2_66.2.2.2.2.2.2.2.2.2.2.2.2.2.2.2.2.2.1 rfl, rfl⟩
theorem zd_8_2_80 : zz_D zy_readInto_8_2 80 (.invokevirtual 71) 3 83 := ⟨zq_182 zg_8_2_66.2.2.2.2.2.2.2.2.2.2.2.2.2.2.2.2.2.2.1 zg_8_2_66.2.2.2.2.2.2.2.2.2.2.2.2.2.2.2.2.2.2.2.1 zg_8_2_66.2.2.2.2.2.2.2.2.2.2.2.2.2.2.2.2.2.2.2.2.1 rfl, rfl⟩
theorem zd_8_2_83 : zz_B zy_readInto_8_2 83 (Instr.ifCond .ne) 90 86 := ⟨7, zq_154 zg_8_2_66.2.2.2.2.2.2.2.2.2.2.2.2.2.2.2.2.2.2.2.2.2.1 zg_8_2_66.2.2.2.2.2.2.2.2.2.2.2.2.2.2.2.2.2.2.2.2.2.2.1 zg_8_2_66.2.2.2.2.2.2.2.2.2.2.2.2.2.2.2.2.2.2.2.2.2.2.2 (by decide), rfl, rfl⟩
theorem zg_8_2_86 : zq_at zy_readInto_8_2.2.1 86 4 ∧ zq_at zy_readInto_8_2.2.1 87 167 ∧ zq_at zy_readInto_8_2.2.1 88 0 ∧ zq_at zy_readInto_8_2.2.1 89 26 := by decide +kernel
theorem zd_8_2_86 : zz_D zy_readInto_8_2 86 (.iconst 1) 1 87 := ⟨zq_4 zg_8_2_86.1, rfl⟩
theorem zd_8_2_87 : zz_B zy_readInto_8_2 87 Instr.goto 113 90 := ⟨26, zq_167 zg_8_2_86.2.1 zg_8_2_86.2.2.1 zg_8_2_86.2.2.2 (by decide), rfl, rfl⟩

-- TensorForge$NetworkReader readInto (LTensorForge$Network;)I
abbrev zr_readInto_8_2 : Room := { frames := 9, cells := 0, slots := 0, locals := 123 }
def zp_readInto_8_2 (p0 : Int) (S0 : zz_S) : Int → zz_S → Prop := fun r S => zz_G S ∧ zz_fr [(1070, 2), (1070, 3), (1070, 4), (1070, 5), (1070, 6), (1073, 1), (1073, 4), (1073, 5), (1073, 6), (1073, 7), (1073, 8), (1075, 0), (1075, 1), (1075, 2), (1075, 3), (1075, 4), (1075, 5), (1075, 6), (1075, 7), (1075, 8), (1075, 9), (1075, 10)] [1003, 1004, 1005, 1006, 1007, 1008, 1009, 1010, 1011, 1012, 1013, 1014, 1017, 1018, 1019, 1020, 1021, 1022, 1023, 1024, 1025, 1026, 1027, 1028, 1074, 1075] (fun a i => (a = zz_rf 3 (p0) ∧ i = 1) ∨ (a = zz_rf 3 p0 ∧ i = 1)) S0 S ∧ ((-2147483648) ≤ r ∧ r ≤ 2147483647) ∧ (r = (zn_nt (S0 1071) (S0 1070 1) 1502 0 0 0 zn_v0).1) ∧ (r = -1 → zn_V (zn_nt (S0 1071) (S0 1070 1) 1502 0 0 0 zn_v0).2 ∧ zn_C S p0 (zn_nt (S0 1071) (S0 1070 1) 1502 0 0 0 zn_v0).2) ∧ (∀ a i : Nat, 1001 ≤ a → a ≤ 1028 → ((a : Int) < 1001 + 14 * p0 ∨ 1014 + 14 * p0 < (a : Int)) → S a i = S0 a i) ∧ (zz_Hc S)
set_option maxHeartbeats 20000000 in
theorem zb_readInto_8_2_24 {g : mm_G} {l : Launch} (p0 : Int) (S0 : zz_S) (n : Nat) (hn : zz_end ≤ n) (G_S0 : zz_G S0) (hp0 : 0 ≤ p0 ∧ p0 ≤ 1) (H_S0 : zz_Hc S0) (x2 : Int) (x3 : Int) (S : zz_S) (G_S : zz_G S) (F_S : zz_fr [(1070, 2), (1070, 3), (1070, 4), (1070, 5), (1070, 6), (1073, 1), (1073, 4), (1073, 5), (1073, 6), (1073, 7), (1073, 8), (1075, 0), (1075, 1), (1075, 2), (1075, 3), (1075, 4), (1075, 5), (1075, 6), (1075, 7), (1075, 8), (1075, 9), (1075, 10)] [1003, 1004, 1005, 1006, 1007, 1008, 1009, 1010, 1011, 1012, 1013, 1014, 1017, 1018, 1019, 1020, 1021, 1022, 1023, 1024, 1025, 1026, 1027, 1028, 1074, 1075] (fun a i => (a = zz_rf 3 (p0) ∧ i = 1) ∨ (a = zz_rf 3 p0 ∧ i = 1)) S0 S) (i24_0 : 0 ≤ x2 ∧ x2 ≤ 1) (i24_1 : 0 ≤ x3 ∧ x3 ≤ 1501) (i24_2 : x3 ≤ S 1070 2 + 1) (i24_3 : -1 ≤ S 1070 2 ∧ S 1070 2 ≤ S0 1070 1) (i24_4 : S 1073 1 = p0) (i24_5 : zn_RI (S0 1071) (S0 1070 1) p0 x2 x3 (S 1070 2 + 1) S (zn_nt (S0 1071) (S0 1070 1) 1502 0 0 0 zn_v0)) (i24_6 : ∀ a i : Nat, 1001 ≤ a → a ≤ 1028 → ((a : Int) < 1001 + 14 * p0 ∨ 1014 + 14 * p0 < (a : Int)) → S a i = S0 a i) (i24_7 : zz_Hc S) (R : Nat) (hR : (1500 + 1 - x3).toNat = R) (k24 : ∀ (x2 : Int) (x3 : Int) (S : zz_S), zz_G S → zz_fr [(1070, 2), (1070, 3), (1070, 4), (1070, 5), (1070, 6), (1073, 1), (1073, 4), (1073, 5), (1073, 6), (1073, 7), (1073, 8), (1075, 0), (1075, 1), (1075, 2), (1075, 3), (1075, 4), (1075, 5), (1075, 6), (1075, 7), (1075, 8), (1075, 9), (1075, 10)] [1003, 1004, 1005, 1006, 1007, 1008, 1009, 1010, 1011, 1012, 1013, 1014, 1017, 1018, 1019, 1020, 1021, 1022, 1023, 1024, 1025, 1026, 1027, 1028, 1074, 1075] (fun a i => (a = zz_rf 3 (p0) ∧ i = 1) ∨ (a = zz_rf 3 p0 ∧ i = 1)) S0 S → (0 ≤ x2 ∧ x2 ≤ 1) → (0 ≤ x3 ∧ x3 ≤ 1501) → (x3 ≤ S 1070 2 + 1) → (-1 ≤ S 1070 2 ∧ S 1070 2 ≤ S0 1070 1) → (S 1073 1 = p0) → (zn_RI (S0 1071) (S0 1070 1) p0 x2 x3 (S 1070 2 + 1) S (zn_nt (S0 1071) (S0 1070 1) 1502 0 0 0 zn_v0)) → (∀ a i : Nat, 1001 ≤ a → a ≤ 1028 → ((a : Int) < 1001 + 14 * p0 ∨ 1014 + 14 * p0 < (a : Int)) → S a i = S0 a i) → (zz_Hc S) → (1500 + 1 - x3).toNat < R → zz_E g l zy_readInto_8_2 zr_readInto_8_2 (zz_QI n (zp_readInto_8_2 p0 S0)) S n 24 [some (.ref 1073), none, some (zi x2), some (zi x3)] [] 0 0) : zz_E g l zy_readInto_8_2 zr_readInto_8_2 (zz_QI n (zp_readInto_8_2 p0 S0)) S n 24 [some (.ref 1073), none, some (zi x2), some (zi x3)] [] 0 0 := by
  have b_p0 := zz_rf3 (z := p0) (by omega)
  have H_S := i24_7
  have gc9 := zz_G.r G_S0 1070 1 0 1500 rfl rfl
  refine zz_iload_n (x := x3) rfl zd_8_2_24 ?_
  refine zz_sipush (by decide) zd_8_2_25 ?_
  refine zz_icmp_gt (by omega) (by omega) zd_8_2_28 (fun c20 => ?_) (fun c20 => ?_)
  · refine zz_iload_n (x := x2) rfl zd_8_2_143 ?_
    refine zz_if_eq (by omega) zd_8_2_144 (fun c21 => ?_) (fun c21 => ?_)
    · refine zz_iload_n (x := x3) rfl zd_8_2_151 ?_
      exact zz_iret zd_8_2_152 rfl (Nat.zero_le _) (Nat.zero_le _) ⟨_, _, rfl, G_S, F_S, by omega, (by have h9 := zn_RIE i24_5 (by omega) (by omega); rcases (by omega : x2 = 0 ∨ x2 = 1) with q | q; have y := h9.2 q; omega; have y := (h9.1 q).1; omega), (fun hr => by have h9 := zn_RIE i24_5 (by omega) (by omega); have h8 := h9.1 (by omega); exact ⟨h8.2.1, h8.2.2⟩), (fun a i h1 h2 h3 => by have h3_ := zz_rf3 (z := p0) (by omega); exact (i24_6 a i h1 h2 h3)), H_S⟩
    · refine zz_iconst zd_8_2_147 ?_
      refine zz_goto zd_8_2_148 ?_
      exact zz_iret zd_8_2_152 rfl (Nat.zero_le _) (Nat.zero_le _) ⟨_, _, rfl, G_S, F_S, by omega, (by have h9 := zn_RIE i24_5 (by omega) (by omega); rcases (by omega : x2 = 0 ∨ x2 = 1) with q | q; have y := h9.2 q; omega; have y := (h9.1 q).1; omega), (fun hr => by have h9 := zn_RIE i24_5 (by omega) (by omega); have h8 := h9.1 (by omega); exact ⟨h8.2.1, h8.2.2⟩), (fun a i h1 h2 h3 => by have h3_ := zz_rf3 (z := p0) (by omega); exact (i24_6 a i h1 h2 h3)), H_S⟩
  · refine zz_aload_n (x := 1073) rfl zd_8_2_31 ?_
    refine zz_getr (kd := 0) (z := 1070) zd_8_2_32 zf_NetworkReader_9 zT_1073 rfl (zz_ltn hn rfl) (zz_G.eq G_S 1073 0 1070 rfl rfl) (by decide) 1070 rfl ?_
    have g22 := zz_G.r G_S0 1070 1 0 1500 rfl rfl
    have e23 : S 1070 1 = S0 1070 1 := (zz_rc F_S rfl rfl (by first | decide | omega) rfl)
    have g24 := zz_G.r G_S 1070 2 (-1) 1500 rfl rfl
    have g25 := zz_G.r G_S 1070 3 0 1500 rfl rfl
    refine zz_callVI [] zd_8_2_35 zk_NetworkReader_55 zT_1070 (zz_ltn hn rfl) rfl rfl ⟨Nat.le_of_ble_eq_true rfl, Nat.le_of_ble_eq_true rfl⟩ ⟨rfl, rfl⟩ (Nat.zero_le _) (Nat.zero_le _) (zc_nextLine_11_6  S n hn G_S ) (fun v27 S26 hP => ?_)
    obtain ⟨G_S26, fS26, o28, o29⟩ := hP
    rw [show S 1071 = S0 1071 from funext (fun u => (zz_rc F_S (zz_nc1 rfl) rfl (by first | decide | omega) rfl)), show S 1070 1 = S0 1070 1 from (zz_rc F_S rfl rfl (by first | decide | omega) rfl)] at o29
    have F_S26 := zz_fr.trans F_S fS26 rfl zz_nv
    have H_S26 : zz_Hc S26 := zz_Hc.fr (q := 0) fS26 rfl rfl G_S (by decide) rfl (fun b j h => h.elim) H_S
    rcases (by omega : v27 = 0 ∨ v27 = 1) with rfl | rfl
    · refine zz_if_eq (by omega) zd_8_2_38 (fun c30 => ?_) (fun c30 => ?_)
      · refine zz_iload_n (x := x2) rfl zd_8_2_143 ?_
        refine zz_if_eq (by omega) zd_8_2_144 (fun c31 => ?_) (fun c31 => ?_)
        · refine zz_iload_n (x := x3) rfl zd_8_2_151 ?_
          exact zz_iret zd_8_2_152 rfl (Nat.zero_le _) (Nat.zero_le _) ⟨_, _, rfl, G_S26, F_S26, by omega, (by have h9 := zn_RIE i24_5 (by omega) (by omega); rcases (by omega : x2 = 0 ∨ x2 = 1) with q | q; have y := h9.2 q; omega; have y := (h9.1 q).1; omega), (fun hr => by have h9 := zn_RIE i24_5 (by omega) (by omega); have h8 := h9.1 (by omega); exact ⟨h8.2.1, (h8.2.2.fr0 h8.2.1 fS26 rfl rfl (by omega))⟩), (fun a i h1 h2 h3 => by have h3_ := zz_rf3 (z := p0) (by omega); exact ((fS26 a i (zz_out1 rfl ⟨h1, h2⟩) (zz_out2 rfl ⟨h1, h2⟩) (fun h => by first | exact h | omega)).trans (i24_6 a i h1 h2 h3))), H_S26⟩
        · refine zz_iconst zd_8_2_147 ?_
          refine zz_goto zd_8_2_148 ?_
          exact zz_iret zd_8_2_152 rfl (Nat.zero_le _) (Nat.zero_le _) ⟨_, _, rfl, G_S26, F_S26, by omega, (by have h9 := zn_RIE i24_5 (by omega) (by omega); rcases (by omega : x2 = 0 ∨ x2 = 1) with q | q; have y := h9.2 q; omega; have y := (h9.1 q).1; omega), (fun hr => by have h9 := zn_RIE i24_5 (by omega) (by omega); have h8 := h9.1 (by omega); exact ⟨h8.2.1, (h8.2.2.fr0 h8.2.1 fS26 rfl rfl (by omega))⟩), (fun a i h1 h2 h3 => by have h3_ := zz_rf3 (z := p0) (by omega); exact ((fS26 a i (zz_out1 rfl ⟨h1, h2⟩) (zz_out2 rfl ⟨h1, h2⟩) (fun h => by first | exact h | omega)).trans (i24_6 a i h1 h2 h3))), H_S26⟩
      · exfalso; omega
    · refine zz_if_eq (by omega) zd_8_2_38 (fun c32 => ?_) (fun c32 => ?_)
      · exfalso; omega
      · refine zz_aload_n (x := 1073) rfl zd_8_2_41 ?_
        refine zz_getr (kd := 0) (z := 1070) zd_8_2_42 zf_NetworkReader_9 zT_1073 rfl (zz_ltn hn rfl) (zz_G.eq G_S26 1073 0 1070 rfl rfl) (by decide) 1070 rfl ?_
        have g33 := zz_G.r G_S26 1070 2 (-1) 1500 rfl rfl
        have g34 := zz_G.r G_S26 1070 3 0 1500 rfl rfl
        refine zz_callVV [] zd_8_2_45 zk_NetworkReader_59 zT_1070 (zz_ltn hn rfl) rfl rfl ⟨Nat.le_of_ble_eq_true rfl, Nat.le_of_ble_eq_true rfl⟩ ⟨rfl, rfl⟩ (Nat.zero_le _) (Nat.zero_le _) (zc_nextToken_11_7  S26 n hn G_S26 ) (fun S35 hP => ?_)
        obtain ⟨G_S35, fS35, o37, o38, o39, o40, o41, o42, o43, o44, o45⟩ := hP
        rw [show S26 1071 = S0 1071 from funext (fun u => (zz_rc fS26 (zz_nc1 rfl) rfl (fun h => h) (zz_rc F_S (zz_nc1 rfl) rfl (by first | decide | omega) rfl)))] at o37
        rw [show S26 1071 = S0 1071 from funext (fun u => (zz_rc fS26 (zz_nc1 rfl) rfl (fun h => h) (zz_rc F_S (zz_nc1 rfl) rfl (by first | decide | omega) rfl)))] at o38
        rw [show S26 1071 = S0 1071 from funext (fun u => (zz_rc fS26 (zz_nc1 rfl) rfl (fun h => h) (zz_rc F_S (zz_nc1 rfl) rfl (by first | decide | omega) rfl)))] at o39
        rw [show S26 1071 = S0 1071 from funext (fun u => (zz_rc fS26 (zz_nc1 rfl) rfl (fun h => h) (zz_rc F_S (zz_nc1 rfl) rfl (by first | decide | omega) rfl)))] at o45
        have F_S35 := zz_fr.trans F_S26 fS35 rfl zz_nv
        have H_S35 : zz_Hc S35 := zz_Hc.fr (q := 0) fS35 rfl rfl G_S26 (by decide) rfl (fun b j h => h.elim) H_S26
        have hu9 : S26 1070 2 = zt_U 10 (S0 1071) (S0 1070 1) (S 1070 2 + 1) := by omega
        have hb8 := (zt_Ub (c := 10) (f := (S0 1071)) (e := S0 1070 1) (p := S 1070 2 + 1) (by omega)).1
        have hk9 := o45
        rw [show S26 1070 3 = S 1070 2 + 1 by omega] at hk9
        have tl9_ : S35 1070 3 ≤ S26 1070 2 := o44 (by omega); clear o37 o39 o42 o43 o44
        refine zz_aload_n (x := 1073) rfl zd_8_2_48 ?_
        refine zz_getr (kd := 0) (z := 1070) zd_8_2_49 zf_NetworkReader_9 zT_1073 rfl (zz_ltn hn rfl) (zz_G.eq G_S35 1073 0 1070 rfl rfl) (by decide) 1070 rfl ?_
        have g46 := zz_G.r G_S35 1070 4 (-2147483648) 2147483647 rfl rfl
        refine zz_geti (z := S35 1070 4) zd_8_2_52 zf_NetworkReader_62 zT_1070 rfl (zz_ltn hn rfl) rfl ?_
        refine zz_if_eq (by omega) zd_8_2_55 (fun c47 => ?_) (fun c47 => ?_)
        · have hz9 : zt_kn (S0 1071) (S26 1070 2) (S 1070 2 + 1) = 0 := (zt_NKs hk9).1.mpr (by omega)
          refine zz_iinc [some (.ref 1073), none, some (zi x2), some (zi (x3 + 1))] zd_8_2_137 rfl rfl ?_
          refine zz_goto zd_8_2_140 ?_
          have e48 : S35 1070 2 = S26 1070 2 := (zz_rc fS35 rfl rfl (fun h => h) rfl)
          have g49 := zz_G.r G_S 1073 1 0 1 rfl rfl
          have e50 : S35 1073 1 = S 1073 1 := (zz_rc fS35 rfl rfl (fun h => h) (zz_rc fS26 rfl rfl (fun h => h) rfl))
          refine zz_less (ls1 := [some (.ref 1073), none, some (zi x2), some (zi (x3 + 1))]) ⟨rfl, ⟨rfl, ⟨rfl, trivial⟩⟩⟩ ?_
          exact k24 x2 (x3 + 1) S35 G_S35 F_S35 (by omega) (by omega) (by omega) (by omega) (by omega) (zn_RIB i24_5 (by omega) (by omega) hu9 hz9 (show S35 1070 2 + 1 = S26 1070 2 + 1 by omega) rfl (fun v hV hC => (hC.fr0 hV fS26 rfl rfl (by omega)).fr0 hV fS35 rfl rfl (by omega)) (funext (fun u => (fS35 1074 u (zz_nc1 rfl) rfl (fun h => h)).trans (fS26 1074 u (zz_nc1 rfl) rfl (fun h => h)))) (funext (fun u => (fS35 1075 u (zz_nc1 rfl) rfl (fun h => h)).trans (fS26 1075 u (zz_nc1 rfl) rfl (fun h => h))))) (fun a i h1 h2 h3 => by have h3_ := zz_rf3 (z := p0) (by omega); exact (((fS35 a i (zz_out1 rfl ⟨h1, h2⟩) (zz_out2 rfl ⟨h1, h2⟩) (fun h => by first | exact h | omega)).trans (fS26 a i (zz_out1 rfl ⟨h1, h2⟩) (zz_out2 rfl ⟨h1, h2⟩) (fun h => by first | exact h | omega))).trans (i24_6 a i h1 h2 h3))) H_S35 (by omega)
        · have hz9 : zt_kn (S0 1071) (S26 1070 2) (S 1070 2 + 1) ≠ 0 := fun h => absurd ((zt_NKs hk9).1.mp h) (by omega)
          refine zz_iload_n (x := x2) rfl zd_8_2_58 ?_
          refine zz_if_eq (by omega) zd_8_2_59 (fun c51 => ?_) (fun c51 => ?_)
          · refine zz_aload_n (x := 1073) rfl zd_8_2_94 ?_
            have e52 : S35 1070 2 = S26 1070 2 := (zz_rc fS35 rfl rfl (fun h => h) rfl)
            have g53 := zz_G.r G_S35 1070 3 0 1500 rfl rfl
            have g54 := zz_G.r G_S35 1070 5 0 1500 rfl rfl
            have g55 := zz_G.r G_S 1073 1 0 1 rfl rfl
            have e56 : S35 1073 1 = S 1073 1 := (zz_rc fS35 rfl rfl (fun h => h) (zz_rc fS26 rfl rfl (fun h => h) rfl))
            refine zz_callVI [] zd_8_2_95 zk_NetworkReader_75 zT_1073 (zz_ltn hn rfl) rfl rfl ⟨Nat.le_of_ble_eq_true rfl, Nat.le_of_ble_eq_true rfl⟩ ⟨rfl, rfl⟩ (Nat.zero_le _) (Nat.zero_le _) (zc_readInput_8_3  S35 n hn G_S35 H_S35) (fun v58 S57 hP => ?_)
            obtain ⟨G_S57, fS57, o59, o60, o61, o62, o63⟩ := hP
            rw [show S35 1071 = S0 1071 from funext (fun u => (zz_rc fS35 (zz_nc1 rfl) rfl (fun h => h) (zz_rc fS26 (zz_nc1 rfl) rfl (fun h => h) (zz_rc F_S (zz_nc1 rfl) rfl (by first | decide | omega) rfl)))), show S35 1070 2 = S26 1070 2 from (zz_rc fS35 rfl rfl (fun h => h) rfl), show S35 1073 1 = p0 from ((zz_rc fS35 rfl rfl (fun h => h) (zz_rc fS26 rfl rfl (fun h => h) rfl)).trans (by omega))] at o60
            rw [show S35 1070 2 = S26 1070 2 from (zz_rc fS35 rfl rfl (fun h => h) rfl)] at o62
            rw [show S35 1073 1 = p0 from ((zz_rc fS35 rfl rfl (fun h => h) (zz_rc fS26 rfl rfl (fun h => h) rfl)).trans (by omega))] at fS57
            have F_S57 := zz_fr.trans F_S35 fS57 rfl (fun a i h => by rcases h with h | h | h | h | h | h | h | h | h | h | h | h | h | h | h | h; exact Or.inr (Or.inr (Or.inl h)); exact Or.inr (Or.inl (h.1 ▸ zM_k6 (z := (12 * (p0) + 0)) (by omega) rfl)); exact Or.inr (Or.inl (h.1 ▸ zM_k6 (z := (12 * (p0) + 0)) (by omega) rfl)); exact Or.inr (Or.inl (h.1 ▸ zM_k6 (z := (12 * (p0) + 0)) (by omega) rfl)); exact Or.inr (Or.inl (h.1 ▸ zM_k6 (z := (12 * (p0) + 0)) (by omega) rfl)); exact Or.inr (Or.inl (h.1 ▸ zM_k6 (z := (12 * (p0) + 0)) (by omega) rfl)); exact Or.inr (Or.inl (h.1 ▸ zM_k6 (z := (12 * (p0) + 0)) (by omega) rfl)); exact Or.inr (Or.inl (h.1 ▸ zM_k6 (z := (12 * (p0) + 0)) (by omega) rfl)); exact Or.inr (Or.inl (h.1 ▸ zM_k6 (z := (12 * (p0) + 0)) (by omega) rfl)); exact Or.inr (Or.inl (h.1 ▸ zM_k6 (z := (12 * (p0) + 0)) (by omega) rfl)); exact Or.inr (Or.inl (h.1 ▸ zM_k6 (z := (12 * (p0) + 0)) (by omega) rfl)); exact Or.inr (Or.inl (h.1 ▸ zM_k6 (z := (12 * (p0) + 0)) (by omega) rfl)); exact Or.inr (Or.inl (h.1 ▸ zM_k6 (z := (12 * (p0) + 0)) (by omega) rfl)); exact Or.inr (Or.inl (h.1 ▸ zM_k6 (z := (12 * (p0) + 0)) (by omega) rfl)); exact Or.inr (Or.inl (h.1 ▸ zM_k6 (z := (12 * (p0) + 0)) (by omega) rfl)); exact Or.inr (Or.inl (h.1 ▸ zM_k6 (z := (12 * (p0) + 0)) (by omega) rfl)))
            have b64 := zz_rf3 (z := (p0)) (by omega)
            have b65 := zz_rf6 (z := (12 * (p0) + 0)) (by omega)
            have H_S57 : zz_Hc S57 := o63
            rcases (by omega : v58 = 0 ∨ v58 = 1) with rfl | rfl
            · have tl8_ := o62 (by omega); clear o62
              refine zz_if_eq (by omega) zd_8_2_98 (fun c66 => ?_) (fun c66 => ?_)
              · refine zz_iconst zd_8_2_112 ?_
                refine zz_istore [some (.ref 1073), none, some (zi x2), some (zi x3), some (zi 0)] zd_8_2_113 (by decide) rfl ?_
                refine zz_iload (x := 0) rfl zd_8_2_115 ?_
                refine zz_if_ne (by omega) zd_8_2_117 (fun c67 => ?_) (fun c67 => ?_)
                · exfalso; omega
                · refine zz_iload_n (x := x3) rfl zd_8_2_120 ?_
                  exact zz_iret zd_8_2_121 rfl (Nat.zero_le _) (Nat.zero_le _) ⟨_, _, rfl, G_S57, F_S57, by omega, (by have i9 := i24_5; rw [show x2 = 0 by omega] at i9; have n9 := o60 _ hk9; exact (zn_RIJ i9 (by omega) (by omega) hu9 hz9 (fun g => (n9.resolve_left (fun h => absurd h.1 (by decide))).2 (zn_igx.mp g).1)).symm), fun hr => absurd hr (by omega), (fun a i h1 h2 h3 => by have h3_ := zz_rf3 (z := p0) (by omega); have hz1_ := zz_rf6 (z := 12 * (p0) + 0) (by omega); exact ((((fS57 a i (zz_out1 rfl ⟨h1, h2⟩) (zz_out2 rfl ⟨h1, h2⟩) (fun h => by first | exact h | omega)).trans (fS35 a i (zz_out1 rfl ⟨h1, h2⟩) (zz_out2 rfl ⟨h1, h2⟩) (fun h => by first | exact h | omega))).trans (fS26 a i (zz_out1 rfl ⟨h1, h2⟩) (zz_out2 rfl ⟨h1, h2⟩) (fun h => by first | exact h | omega))).trans (i24_6 a i h1 h2 h3))), H_S57⟩
              · exfalso; omega
            · have tl8_ := o62 (by omega); clear o62
              refine zz_if_eq (by omega) zd_8_2_98 (fun c68 => ?_) (fun c68 => ?_)
              · exfalso; omega
              · refine zz_aload_n (x := 1073) rfl zd_8_2_101 ?_
                have e69 : S57 1070 1 = S0 1070 1 := (zz_rc fS57 rfl rfl (by first | decide | omega) (zz_rc fS35 rfl rfl (fun h => h) (zz_rc fS26 rfl rfl (fun h => h) (zz_rc F_S rfl rfl (by first | decide | omega) rfl))))
                have e70 : S57 1070 2 = S26 1070 2 := (zz_rc fS57 rfl rfl (by first | decide | omega) (zz_rc fS35 rfl rfl (fun h => h) rfl))
                have g71 := zz_G.r G_S57 1070 3 0 1500 rfl rfl
                have e72 : S57 1073 1 = S 1073 1 := (zz_rc fS57 rfl rfl (by first | decide | omega) (zz_rc fS35 rfl rfl (fun h => h) (zz_rc fS26 rfl rfl (fun h => h) rfl)))
                have g73 := zz_G.r G_S57 1073 6 (-2147483648) 2147483647 rfl rfl
                have g74 := zz_G.r G_S57 1073 7 (-2147483648) 2147483647 rfl rfl
                refine zz_callVI [] zd_8_2_102 zk_NetworkReader_68 zT_1073 (zz_ltn hn rfl) rfl rfl ⟨Nat.le_of_ble_eq_true rfl, Nat.le_of_ble_eq_true rfl⟩ ⟨rfl, rfl⟩ (Nat.zero_le _) (Nat.zero_le _) (zc_readOptions_8_7  S57 n hn G_S57 H_S57) (fun v76 S75 hP => ?_)
                obtain ⟨G_S75, fS75, o77, o78, o79, o80, o81⟩ := hP
                rw [show S57 1071 = S0 1071 from funext (fun u => (zz_rc fS57 (zz_nc1 rfl) rfl (by first | decide | omega) (zz_rc fS35 (zz_nc1 rfl) rfl (fun h => h) (zz_rc fS26 (zz_nc1 rfl) rfl (fun h => h) (zz_rc F_S (zz_nc1 rfl) rfl (by first | decide | omega) rfl))))), show S57 1074 = S 1074 from funext (fun u => (zz_rc fS57 (zz_nc1 rfl) rfl (by first | decide | omega) (zz_rc fS35 (zz_nc1 rfl) rfl (fun h => h) (zz_rc fS26 (zz_nc1 rfl) rfl (fun h => h) rfl)))), show S57 1075 = S 1075 from funext (fun u => (zz_rc fS57 (zz_nc1 rfl) rfl (by first | decide | omega) (zz_rc fS35 (zz_nc1 rfl) rfl (fun h => h) (zz_rc fS26 (zz_nc1 rfl) rfl (fun h => h) rfl)))), show S57 1070 1 = S0 1070 1 from (zz_rc fS57 rfl rfl (by first | decide | omega) (zz_rc fS35 rfl rfl (fun h => h) (zz_rc fS26 rfl rfl (fun h => h) (zz_rc F_S rfl rfl (by first | decide | omega) rfl)))), show S57 1070 2 = S26 1070 2 from (zz_rc fS57 rfl rfl (by first | decide | omega) (zz_rc fS35 rfl rfl (fun h => h) rfl)), show S57 1073 1 = p0 from ((zz_rc fS57 rfl rfl (by first | decide | omega) (zz_rc fS35 rfl rfl (fun h => h) (zz_rc fS26 rfl rfl (fun h => h) rfl))).trans (by omega))] at o78
                rw [show S57 1073 1 = p0 from ((zz_rc fS57 rfl rfl (by first | decide | omega) (zz_rc fS35 rfl rfl (fun h => h) (zz_rc fS26 rfl rfl (fun h => h) rfl))).trans (by omega))] at o79
                rw [show S57 1073 1 = p0 from ((zz_rc fS57 rfl rfl (by first | decide | omega) (zz_rc fS35 rfl rfl (fun h => h) (zz_rc fS26 rfl rfl (fun h => h) rfl))).trans (by omega))] at o80
                have F_S75 := zz_fr.trans F_S57 fS75 rfl zz_nv
                have H_S75 : zz_Hc S75 := o81
                rcases (by omega : v76 = 0 ∨ v76 = 1) with rfl | rfl
                · refine zz_if_eq (by omega) zd_8_2_105 (fun c82 => ?_) (fun c82 => ?_)
                  · refine zz_iconst zd_8_2_112 ?_
                    refine zz_istore [some (.ref 1073), none, some (zi x2), some (zi x3), some (zi 0)] zd_8_2_113 (by decide) rfl ?_
                    refine zz_iload (x := 0) rfl zd_8_2_115 ?_
                    refine zz_if_ne (by omega) zd_8_2_117 (fun c83 => ?_) (fun c83 => ?_)
                    · exfalso; omega
                    · refine zz_iload_n (x := x3) rfl zd_8_2_120 ?_
                      exact zz_iret zd_8_2_121 rfl (Nat.zero_le _) (Nat.zero_le _) ⟨_, _, rfl, G_S75, F_S75, by omega, (by have i9 := i24_5; rw [show x2 = 0 by omega] at i9; have n9 := o60 _ hk9; have m9 := (n9.resolve_right (fun h => absurd h.1 (by decide))).2; have i7 := i9; obtain ⟨v9, _, _, z9⟩ := i7; have p9 := o78 (fun _ => 0) 0 (zt_NM0 (z9 rfl)) (by omega) (by omega) (by decide) (show S57 1073 6 = 128 by omega) (show S57 1073 7 = 0 by omega) (fun x => absurd rfl x); rw [m9.2.2.2.1] at p9; exact (zn_RIJ i9 (by omega) (by omega) hu9 hz9 (fun g => (p9.resolve_left (fun h => absurd h.1 (by decide))).2 ⟨by have w := (zn_igx.mp g).2; rw [zn_ioe (by omega)] at w; exact w, zn_ne0 _⟩)).symm), fun hr => absurd hr (by omega), (fun a i h1 h2 h3 => by have h3_ := zz_rf3 (z := p0) (by omega); have hg1_ := zz_G.r G_S57 (zz_rf 3 p0) 1 1 11 (zR_k3_1 (by omega)) (zB_k3 (by omega)); have hz1_ := zz_rf6 (z := 12 * p0 + S57 (zz_rf 3 p0) 1) (by omega); have hz2_ := zz_rf6 (z := 12 * (p0) + 0) (by omega); exact (((((o79 a i h1 h2 (by omega)).trans (fS57 a i (zz_out1 rfl ⟨h1, h2⟩) (zz_out2 rfl ⟨h1, h2⟩) (fun h => by first | exact h | omega))).trans (fS35 a i (zz_out1 rfl ⟨h1, h2⟩) (zz_out2 rfl ⟨h1, h2⟩) (fun h => by first | exact h | omega))).trans (fS26 a i (zz_out1 rfl ⟨h1, h2⟩) (zz_out2 rfl ⟨h1, h2⟩) (fun h => by first | exact h | omega))).trans (i24_6 a i h1 h2 h3))), H_S75⟩
                  · exfalso; omega
                · refine zz_if_eq (by omega) zd_8_2_105 (fun c84 => ?_) (fun c84 => ?_)
                  · exfalso; omega
                  · refine zz_iconst zd_8_2_108 ?_
                    refine zz_goto zd_8_2_109 ?_
                    refine zz_istore [some (.ref 1073), none, some (zi x2), some (zi x3), some (zi 1)] zd_8_2_113 (by decide) rfl ?_
                    refine zz_iload (x := 1) rfl zd_8_2_115 ?_
                    refine zz_if_ne (by omega) zd_8_2_117 (fun c85 => ?_) (fun c85 => ?_)
                    · refine zz_iconst zd_8_2_122 ?_
                      refine zz_istore_n [some (.ref 1073), none, some (zi 1), some (zi x3), some (zi 1)] zd_8_2_123 (by decide) rfl ?_
                      refine zz_aload_n (x := 1073) rfl zd_8_2_124 ?_
                      refine zz_aload_n (x := 1073) rfl zd_8_2_125 ?_
                      refine zz_getr (kd := 1) (z := p0) zd_8_2_126 zf_NetworkReader_15 zT_1073 rfl (zz_ltn hn rfl) ((zz_rc fS75 rfl rfl (fun h => h) (zz_rc fS57 rfl rfl (by first | decide | omega) (zz_rc fS35 rfl rfl (fun h => h) (zz_rc fS26 rfl rfl (fun h => h) rfl)))).trans (by omega)) (by omega) (zz_rf 3 p0) rfl ?_
                      have g86 := zz_G.r G_S57 (zz_rf 3 p0) 1 1 11 (zR_k3_1 (by omega)) (zB_k3 (by omega))
                      refine zz_geti (z := S57 (zz_rf 3 p0) 1) zd_8_2_129 zf_NetworkReader_78 (zT_k3 (by omega)) rfl (zN_k3 hn (by omega)) (zz_rc fS75 (zP_k3 (by omega) rfl) (zQ_k3 (by omega) rfl) (fun h => h) rfl) ?_
                      refine zz_iconst zd_8_2_132 ?_
                      refine zz_isub zd_8_2_133 ?_
                      have g87 := zz_G.r G_S75 1073 4 0 1500 rfl rfl
                      have g88 := zz_G.r G_S75 1073 5 (-1500) 1500 rfl rfl
                      refine zz_callVV [zi ((S57 (zz_rf 3 p0) 1) - 1)] zd_8_2_134 zk_NetworkReader_81 zT_1073 (zz_ltn hn rfl) rfl rfl ⟨Nat.le_of_ble_eq_true rfl, Nat.le_of_ble_eq_true rfl⟩ ⟨rfl, rfl⟩ (Nat.zero_le _) (Nat.zero_le _) (zc_keepName_8_13 ((S57 (zz_rf 3 p0) 1) - 1) S75 n hn G_S75 (by omega)) (fun S89 hP => ?_)
                      obtain ⟨G_S89, fS89, o91, o92⟩ := hP
                      have F_S89 := zz_fr.trans F_S75 fS89 rfl (fun a i h => by rcases h with h | h; exact Or.inr (Or.inl (by rw [h.1]; rfl)); exact Or.inr (Or.inl (by rw [h.1]; rfl)))
                      have H_S89 : zz_Hc S89 := zz_Hc.fr (q := 0) fS89 rfl rfl G_S75 (by decide) rfl (fun b j h => by have h0_ := zz_rf3 (z := p0) (by omega); have h1_ := zz_rf3 (z := p0) (by omega); omega) H_S75
                      skip
                      refine zz_iinc [some (.ref 1073), none, some (zi 1), some (zi (x3 + 1)), some (zi 1)] zd_8_2_137 rfl rfl ?_
                      refine zz_goto zd_8_2_140 ?_
                      have e93 : S89 1070 2 = S26 1070 2 := (zz_rc fS89 rfl rfl (by first | decide | (intro h; rcases h with h | h; exact absurd h.1 (by decide); exact absurd h.1 (by decide)) | omega) (zz_rc fS75 rfl rfl (fun h => h) (zz_rc fS57 rfl rfl (by first | decide | omega) (zz_rc fS35 rfl rfl (fun h => h) rfl))))
                      have e94 : S89 1073 1 = S 1073 1 := (zz_rc fS89 rfl rfl (by first | decide | (intro h; rcases h with h | h; exact absurd h.1 (by decide); exact absurd h.1 (by decide)) | omega) (zz_rc fS75 rfl rfl (fun h => h) (zz_rc fS57 rfl rfl (by first | decide | omega) (zz_rc fS35 rfl rfl (fun h => h) (zz_rc fS26 rfl rfl (fun h => h) rfl)))))
                      refine zz_less (ls1 := [some (.ref 1073), none, some (zi 1), some (zi (x3 + 1))]) ⟨rfl, ⟨rfl, ⟨rfl, trivial⟩⟩⟩ ?_
                      exact k24 1 (x3 + 1) S89 G_S89 F_S89 (by omega) (by omega) (by omega) (by omega) (by omega) (by have i9 := i24_5; rw [show x2 = 0 by omega] at i9; have n9 := o60 _ hk9; have m9 := (n9.resolve_right (fun h => absurd h.1 (by decide))).2; have i7 := i9; obtain ⟨v9, _, _, z9⟩ := i7; have p9 := o78 (fun _ => 0) 0 (zt_NM0 (z9 rfl)) (by omega) (by omega) (by decide) (show S57 1073 6 = 128 by omega) (show S57 1073 7 = 0 by omega) (fun x => absurd rfl x); rw [m9.2.2.2.1] at p9; have q9 := (p9.resolve_right (fun h => absurd h.1 (by decide))).2; have f9 := m9.1.2.2.2.2.2.2; have h3_ := zz_rf3 (z := p0) (by omega); have t3 : S57 (zz_rf 3 p0) 1 = 1 := (m9.2.2.2.2 0).1; have t4 : S75 (zz_rf 3 p0) 1 = 1 := ((m9.2.2.2.2 0).kp (zn_Vip (nm := 0) f9.1 f9.2.1 f9.2.2.1 f9.2.2.2) o79 (by omega)).1; obtain ⟨y1, y2, y3, y4, y5⟩ := zn_inpY (n := S0 1070 1) (z := p0) (S1 := S) (S2 := S89) (by omega) m9.1 (z9 rfl) q9.1 (fun nm => by have c3 := m9.2.2.2.2 nm; have V3 := zn_Vip (nm := nm) f9.1 f9.2.1 f9.2.2.1 f9.2.2.2; have c4 := c3.kp V3 o79 (by omega); exact zn_C.fr c4 V3 fS89 rfl rfl (by omega) (fS89 (zz_rf 3 p0) 1 rfl rfl (fun h => by omega)) (fun a i h => by omega)) (fun i hi => ((o92 i (by omega)).1).trans ((((fS75 1074 i (zz_nc1 rfl) rfl (fun h => by first | exact h | omega)).trans (fS57 1074 i (zz_nc1 rfl) rfl (fun h => by first | exact h | omega))).trans (fS35 1074 i (zz_nc1 rfl) rfl (fun h => by first | exact h | omega))).trans (fS26 1074 i (zz_nc1 rfl) rfl (fun h => by first | exact h | omega)))) (fun i hi => ((o92 i (by omega)).2).trans ((((fS75 1075 i (zz_nc1 rfl) rfl (fun h => by first | exact h | omega)).trans (fS57 1075 i (zz_nc1 rfl) rfl (fun h => by first | exact h | omega))).trans (fS35 1075 i (zz_nc1 rfl) rfl (fun h => by first | exact h | omega))).trans (fS26 1075 i (zz_nc1 rfl) rfl (fun h => by first | exact h | omega)))) (by have w := o91 (by omega); rw [show ((S57 (zz_rf 3 p0) 1) - 1).toNat = 0 by omega] at w; rw [w.1, w.2]; exact q9.2.2.1.2); exact zn_RII i9 (by omega) (by omega) hu9 hz9 (show S89 1070 2 + 1 = S26 1070 2 + 1 by omega) rfl y1 y2 y3 y4 y5) (fun a i h1 h2 h3 => by have h3_ := zz_rf3 (z := p0) (by omega); have hg1_ := zz_G.r G_S57 (zz_rf 3 p0) 1 1 11 (zR_k3_1 (by omega)) (zB_k3 (by omega)); have hz1_ := zz_rf6 (z := 12 * p0 + S57 (zz_rf 3 p0) 1) (by omega); have hz2_ := zz_rf6 (z := 12 * (p0) + 0) (by omega); exact ((((((fS89 a i (zz_out1 rfl ⟨h1, h2⟩) (zz_out2 rfl ⟨h1, h2⟩) (fun h => by first | exact h | omega)).trans (o79 a i h1 h2 (by omega))).trans (fS57 a i (zz_out1 rfl ⟨h1, h2⟩) (zz_out2 rfl ⟨h1, h2⟩) (fun h => by first | exact h | omega))).trans (fS35 a i (zz_out1 rfl ⟨h1, h2⟩) (zz_out2 rfl ⟨h1, h2⟩) (fun h => by first | exact h | omega))).trans (fS26 a i (zz_out1 rfl ⟨h1, h2⟩) (zz_out2 rfl ⟨h1, h2⟩) (fun h => by first | exact h | omega))).trans (i24_6 a i h1 h2 h3))) H_S89 (by omega)
                    · exfalso; omega
          · refine zz_aload_n (x := 1073) rfl zd_8_2_62 ?_
            have e95 : S35 1070 1 = S0 1070 1 := (zz_rc fS35 rfl rfl (fun h => h) (zz_rc fS26 rfl rfl (fun h => h) (zz_rc F_S rfl rfl (by first | decide | omega) rfl)))
            have e96 : S35 1070 2 = S26 1070 2 := (zz_rc fS35 rfl rfl (fun h => h) rfl)
            have g97 := zz_G.r G_S35 1070 3 0 1500 rfl rfl
            have g98 := zz_G.r G_S35 1070 5 0 1500 rfl rfl
            have g99 := zz_G.r G_S 1073 1 0 1 rfl rfl
            have e100 : S35 1073 1 = S 1073 1 := (zz_rc fS35 rfl rfl (fun h => h) (zz_rc fS26 rfl rfl (fun h => h) rfl))
            refine zz_callVI [] zd_8_2_63 zk_NetworkReader_65 zT_1073 (zz_ltn hn rfl) rfl rfl ⟨Nat.le_of_ble_eq_true rfl, Nat.le_of_ble_eq_true rfl⟩ ⟨rfl, rfl⟩ (Nat.zero_le _) (Nat.zero_le _) (zc_readLayer_8_4  S35 n hn G_S35 H_S35) (fun v102 S101 hP => ?_)
            obtain ⟨G_S101, fS101, o103, o104, o105, o106, o107, o108⟩ := hP
            rw [show S35 1071 = S0 1071 from funext (fun u => (zz_rc fS35 (zz_nc1 rfl) rfl (fun h => h) (zz_rc fS26 (zz_nc1 rfl) rfl (fun h => h) (zz_rc F_S (zz_nc1 rfl) rfl (by first | decide | omega) rfl)))), show S35 1074 = S 1074 from funext (fun u => (zz_rc fS35 (zz_nc1 rfl) rfl (fun h => h) (zz_rc fS26 (zz_nc1 rfl) rfl (fun h => h) rfl))), show S35 1075 = S 1075 from funext (fun u => (zz_rc fS35 (zz_nc1 rfl) rfl (fun h => h) (zz_rc fS26 (zz_nc1 rfl) rfl (fun h => h) rfl))), show S35 1070 1 = S0 1070 1 from (zz_rc fS35 rfl rfl (fun h => h) (zz_rc fS26 rfl rfl (fun h => h) (zz_rc F_S rfl rfl (by first | decide | omega) rfl))), show S35 1070 2 = S26 1070 2 from (zz_rc fS35 rfl rfl (fun h => h) rfl), show S35 1073 1 = p0 from ((zz_rc fS35 rfl rfl (fun h => h) (zz_rc fS26 rfl rfl (fun h => h) rfl)).trans (by omega))] at o104
            rw [show S35 1070 2 = S26 1070 2 from (zz_rc fS35 rfl rfl (fun h => h) rfl)] at o106
            rw [show S35 1073 1 = p0 from ((zz_rc fS35 rfl rfl (fun h => h) (zz_rc fS26 rfl rfl (fun h => h) rfl)).trans (by omega))] at o107
            have F_S101 := zz_fr.trans F_S35 fS101 rfl zz_nv
            have H_S101 : zz_Hc S101 := o108
            rcases (by omega : v102 = 0 ∨ v102 = 1) with rfl | rfl
            · have tl8_ := o106 (by omega); clear o106
              have hT3 : S101 (zz_rf 3 p0) 1 = S (zz_rf 3 p0) 1 := by have h3_ := zz_rf3 (z := p0) (by omega); have hg_ := zz_G.r G_S35 (zz_rf 3 p0) 1 1 11 (zR_k3_1 (by omega)) (zB_k3 (by omega)); have hz_ := zz_rf6 (z := 12 * p0 + S35 (zz_rf 3 p0) 1) (by omega); exact (((o107 _ _ (by omega) (by omega) (by omega)).trans (fS35 _ _ (zz_out1 rfl (by omega)) (zz_out2 rfl (by omega)) (fun h => by first | exact h | omega))).trans (fS26 _ _ (zz_out1 rfl (by omega)) (zz_out2 rfl (by omega)) (fun h => by first | exact h | omega)))
              have hT2 : S35 (zz_rf 3 p0) 1 = S (zz_rf 3 p0) 1 := by have h3_ := zz_rf3 (z := p0) (by omega); exact ((fS35 _ _ (zz_out1 rfl (by omega)) (zz_out2 rfl (by omega)) (fun h => by first | exact h | omega)).trans (fS26 _ _ (zz_out1 rfl (by omega)) (zz_out2 rfl (by omega)) (fun h => by first | exact h | omega)))
              refine zz_if_eq (by omega) zd_8_2_66 (fun c109 => ?_) (fun c109 => ?_)
              · refine zz_iconst zd_8_2_90 ?_
                refine zz_goto zd_8_2_91 ?_
                refine zz_istore [some (.ref 1073), none, some (zi x2), some (zi x3), some (zi 0)] zd_8_2_113 (by decide) rfl ?_
                refine zz_iload (x := 0) rfl zd_8_2_115 ?_
                refine zz_if_ne (by omega) zd_8_2_117 (fun c110 => ?_) (fun c110 => ?_)
                · exfalso; omega
                · refine zz_iload_n (x := x3) rfl zd_8_2_120 ?_
                  exact zz_iret zd_8_2_121 rfl (Nat.zero_le _) (Nat.zero_le _) ⟨_, _, rfl, G_S101, F_S101, by omega, (by have i9 := i24_5; rw [show x2 = 1 by omega] at i9; exact (zn_RIN i9 (by omega) (by omega) hu9 hz9 (fun v hV hC hN hz => by have l9 := o104 (v 14) _ hN hk9; have V9 := hV.1; have cl := zn_kcl (f := (S0 1071)) (e := S26 1070 2) (a := S 1070 2 + 1); rcases l9 with x | x; exact zn_lineN0 x.1; exact zn_lineN1 hz (by omega) cl ⟨Int.le_refl _, by omega⟩ x)).symm), fun hr => absurd hr (by omega), (fun a i h1 h2 h3 => by have h3_ := zz_rf3 (z := p0) (by omega); have hg1_ := zz_G.r G_S35 (zz_rf 3 p0) 1 1 11 (zR_k3_1 (by omega)) (zB_k3 (by omega)); have hz1_ := zz_rf6 (z := 12 * p0 + S35 (zz_rf 3 p0) 1) (by omega); exact ((((o107 a i h1 h2 (by omega)).trans (fS35 a i (zz_out1 rfl ⟨h1, h2⟩) (zz_out2 rfl ⟨h1, h2⟩) (fun h => by first | exact h | omega))).trans (fS26 a i (zz_out1 rfl ⟨h1, h2⟩) (zz_out2 rfl ⟨h1, h2⟩) (fun h => by first | exact h | omega))).trans (i24_6 a i h1 h2 h3))), H_S101⟩
              · exfalso; omega
            · have tl8_ := o106 (by omega); clear o106
              have hT3 : S101 (zz_rf 3 p0) 1 = S (zz_rf 3 p0) 1 := by have h3_ := zz_rf3 (z := p0) (by omega); have hg_ := zz_G.r G_S35 (zz_rf 3 p0) 1 1 11 (zR_k3_1 (by omega)) (zB_k3 (by omega)); have hz_ := zz_rf6 (z := 12 * p0 + S35 (zz_rf 3 p0) 1) (by omega); exact (((o107 _ _ (by omega) (by omega) (by omega)).trans (fS35 _ _ (zz_out1 rfl (by omega)) (zz_out2 rfl (by omega)) (fun h => by first | exact h | omega))).trans (fS26 _ _ (zz_out1 rfl (by omega)) (zz_out2 rfl (by omega)) (fun h => by first | exact h | omega)))
              have hT2 : S35 (zz_rf 3 p0) 1 = S (zz_rf 3 p0) 1 := by have h3_ := zz_rf3 (z := p0) (by omega); exact ((fS35 _ _ (zz_out1 rfl (by omega)) (zz_out2 rfl (by omega)) (fun h => by first | exact h | omega)).trans (fS26 _ _ (zz_out1 rfl (by omega)) (zz_out2 rfl (by omega)) (fun h => by first | exact h | omega)))
              refine zz_if_eq (by omega) zd_8_2_66 (fun c111 => ?_) (fun c111 => ?_)
              · exfalso; omega
              · refine zz_aload_n (x := 1073) rfl zd_8_2_69 ?_
                have e112 : S101 1070 1 = S0 1070 1 := (zz_rc fS101 rfl rfl (fun h => h) (zz_rc fS35 rfl rfl (fun h => h) (zz_rc fS26 rfl rfl (fun h => h) (zz_rc F_S rfl rfl (by first | decide | omega) rfl))))
                have e113 : S101 1070 2 = S26 1070 2 := (zz_rc fS101 rfl rfl (fun h => h) (zz_rc fS35 rfl rfl (fun h => h) rfl))
                have g114 := zz_G.r G_S101 1070 3 0 1500 rfl rfl
                have e115 : S101 1073 1 = S 1073 1 := (zz_rc fS101 rfl rfl (fun h => h) (zz_rc fS35 rfl rfl (fun h => h) (zz_rc fS26 rfl rfl (fun h => h) rfl)))
                have g116 := zz_G.r G_S101 1073 6 (-2147483648) 2147483647 rfl rfl
                have g117 := zz_G.r G_S101 1073 7 (-2147483648) 2147483647 rfl rfl
                refine zz_callVI [] zd_8_2_70 zk_NetworkReader_68 zT_1073 (zz_ltn hn rfl) rfl rfl ⟨Nat.le_of_ble_eq_true rfl, Nat.le_of_ble_eq_true rfl⟩ ⟨rfl, rfl⟩ (Nat.zero_le _) (Nat.zero_le _) (zc_readOptions_8_7  S101 n hn G_S101 H_S101) (fun v119 S118 hP => ?_)
                obtain ⟨G_S118, fS118, o120, o121, o122, o123, o124⟩ := hP
                rw [show S101 1071 = S0 1071 from funext (fun u => (zz_rc fS101 (zz_nc1 rfl) rfl (fun h => h) (zz_rc fS35 (zz_nc1 rfl) rfl (fun h => h) (zz_rc fS26 (zz_nc1 rfl) rfl (fun h => h) (zz_rc F_S (zz_nc1 rfl) rfl (by first | decide | omega) rfl))))), show S101 1074 = S 1074 from funext (fun u => (zz_rc fS101 (zz_nc1 rfl) rfl (fun h => h) (zz_rc fS35 (zz_nc1 rfl) rfl (fun h => h) (zz_rc fS26 (zz_nc1 rfl) rfl (fun h => h) rfl)))), show S101 1075 = S 1075 from funext (fun u => (zz_rc fS101 (zz_nc1 rfl) rfl (fun h => h) (zz_rc fS35 (zz_nc1 rfl) rfl (fun h => h) (zz_rc fS26 (zz_nc1 rfl) rfl (fun h => h) rfl)))), show S101 1070 1 = S0 1070 1 from (zz_rc fS101 rfl rfl (fun h => h) (zz_rc fS35 rfl rfl (fun h => h) (zz_rc fS26 rfl rfl (fun h => h) (zz_rc F_S rfl rfl (by first | decide | omega) rfl)))), show S101 1070 2 = S26 1070 2 from (zz_rc fS101 rfl rfl (fun h => h) (zz_rc fS35 rfl rfl (fun h => h) rfl)), show S101 1073 1 = p0 from ((zz_rc fS101 rfl rfl (fun h => h) (zz_rc fS35 rfl rfl (fun h => h) (zz_rc fS26 rfl rfl (fun h => h) rfl))).trans (by omega))] at o121
                rw [show S101 1073 1 = p0 from ((zz_rc fS101 rfl rfl (fun h => h) (zz_rc fS35 rfl rfl (fun h => h) (zz_rc fS26 rfl rfl (fun h => h) rfl))).trans (by omega))] at o122
                rw [show S101 1073 1 = p0 from ((zz_rc fS101 rfl rfl (fun h => h) (zz_rc fS35 rfl rfl (fun h => h) (zz_rc fS26 rfl rfl (fun h => h) rfl))).trans (by omega))] at o123
                have F_S118 := zz_fr.trans F_S101 fS118 rfl zz_nv
                have H_S118 : zz_Hc S118 := o124
                rcases (by omega : v119 = 0 ∨ v119 = 1) with rfl | rfl
                · have hT4 : S118 (zz_rf 3 p0) 1 = S (zz_rf 3 p0) 1 := by have h3_ := zz_rf3 (z := p0) (by omega); have hg_ := zz_G.r G_S101 (zz_rf 3 p0) 1 1 11 (zR_k3_1 (by omega)) (zB_k3 (by omega)); have hz_ := zz_rf6 (z := 12 * p0 + S101 (zz_rf 3 p0) 1) (by omega); exact (o122 _ _ (by omega) (by omega) (by omega)).trans hT3
                  refine zz_if_eq (by omega) zd_8_2_73 (fun c125 => ?_) (fun c125 => ?_)
                  · refine zz_iconst zd_8_2_90 ?_
                    refine zz_goto zd_8_2_91 ?_
                    refine zz_istore [some (.ref 1073), none, some (zi x2), some (zi x3), some (zi 0)] zd_8_2_113 (by decide) rfl ?_
                    refine zz_iload (x := 0) rfl zd_8_2_115 ?_
                    refine zz_if_ne (by omega) zd_8_2_117 (fun c126 => ?_) (fun c126 => ?_)
                    · exfalso; omega
                    · refine zz_iload_n (x := x3) rfl zd_8_2_120 ?_
                      exact zz_iret zd_8_2_121 rfl (Nat.zero_le _) (Nat.zero_le _) ⟨_, _, rfl, G_S118, F_S118, by omega, (by have i9 := i24_5; rw [show x2 = 1 by omega] at i9; exact (zn_RIN i9 (by omega) (by omega) hu9 hz9 (fun v hV hC hN hz => by have l9 := o104 (v 14) _ hN hk9; have V9 := hV.1; have cl := zn_kcl (f := (S0 1071)) (e := S26 1070 2) (a := S 1070 2 + 1); rw [hT2] at l9; have g9 := l9.resolve_left (fun h => absurd h.2 (by decide)); have p9 := o121 (v 14) _ hN (by omega) (by omega) (zn_kdr _ _) g9.2.1 g9.2.2.1 (fun _ => by have w := g9.2.2.2.2.2.2.1; first | exact w | (rw [show S101 (zz_rf 3 p0) 1 = S (zz_rf 3 p0) 1 by omega]; exact w)); rw [g9.2.2.2.2.2.2.2.1] at p9; (try rw [hT3] at p9); exact zn_lineN2 hz (by omega) cl ⟨Int.le_refl _, by omega⟩ (p9.resolve_left (fun h => absurd h.1 (by decide))).2)).symm), fun hr => absurd hr (by omega), (fun a i h1 h2 h3 => by have h3_ := zz_rf3 (z := p0) (by omega); have hg1_ := zz_G.r G_S101 (zz_rf 3 p0) 1 1 11 (zR_k3_1 (by omega)) (zB_k3 (by omega)); have hz1_ := zz_rf6 (z := 12 * p0 + S101 (zz_rf 3 p0) 1) (by omega); have hg2_ := zz_G.r G_S35 (zz_rf 3 p0) 1 1 11 (zR_k3_1 (by omega)) (zB_k3 (by omega)); have hz2_ := zz_rf6 (z := 12 * p0 + S35 (zz_rf 3 p0) 1) (by omega); exact (((((o122 a i h1 h2 (by omega)).trans (o107 a i h1 h2 (by omega))).trans (fS35 a i (zz_out1 rfl ⟨h1, h2⟩) (zz_out2 rfl ⟨h1, h2⟩) (fun h => by first | exact h | omega))).trans (fS26 a i (zz_out1 rfl ⟨h1, h2⟩) (zz_out2 rfl ⟨h1, h2⟩) (fun h => by first | exact h | omega))).trans (i24_6 a i h1 h2 h3))), H_S118⟩
                  · exfalso; omega
                · have hT4 : S118 (zz_rf 3 p0) 1 = S (zz_rf 3 p0) 1 := by have h3_ := zz_rf3 (z := p0) (by omega); have hg_ := zz_G.r G_S101 (zz_rf 3 p0) 1 1 11 (zR_k3_1 (by omega)) (zB_k3 (by omega)); have hz_ := zz_rf6 (z := 12 * p0 + S101 (zz_rf 3 p0) 1) (by omega); exact (o122 _ _ (by omega) (by omega) (by omega)).trans hT3
                  refine zz_if_eq (by omega) zd_8_2_73 (fun c127 => ?_) (fun c127 => ?_)
                  · exfalso; omega
                  · refine zz_aload_n (x := 1073) rfl zd_8_2_76 ?_
                    refine zz_getr (kd := 1) (z := p0) zd_8_2_77 zf_NetworkReader_15 zT_1073 rfl (zz_ltn hn rfl) ((zz_rc fS118 rfl rfl (fun h => h) (zz_rc fS101 rfl rfl (fun h => h) (zz_rc fS35 rfl rfl (fun h => h) (zz_rc fS26 rfl rfl (fun h => h) rfl)))).trans (by omega)) (by omega) (zz_rf 3 p0) rfl ?_
                    have e128 : S118 (zz_rf 3 p0) 1 = S (zz_rf 3 p0) 1 := (zz_rc fS118 (zP_k3 (by omega) rfl) (zQ_k3 (by omega) rfl) (fun h => h) (zz_rc fS101 (zP_k3 (by omega) rfl) (zQ_k3 (by omega) rfl) (fun h => h) (zz_rc fS35 (zP_k3 (by omega) rfl) (zQ_k3 (by omega) rfl) (fun h => h) (zz_rc fS26 (zP_k3 (by omega) rfl) (zQ_k3 (by omega) rfl) (fun h => h) rfl))))
                    refine zz_callVI [] zd_8_2_80 zk_NetworkReader_71 (zT_k3 (by omega)) (zN_k3 hn (by omega)) rfl rfl ⟨Nat.le_of_ble_eq_true rfl, Nat.le_of_ble_eq_true rfl⟩ ⟨rfl, rfl⟩ (Nat.zero_le _) (Nat.zero_le _) (zc_offer_7_7 p0 S118 n hn G_S118 (by omega) H_S118) (fun v130 S129 hP => ?_)
                    obtain ⟨G_S129, fS129, o131, o132, o133⟩ := hP
                    have b134 := zz_G.r G_S118 (zz_rf 3 p0) 1 1 11 (zR_k3_1 (by omega)) (zB_k3 (by omega))
                    have F_S129 := zz_fr.trans F_S118 fS129 rfl (fun a i h => by rcases h with h | h | h | h | h; exact Or.inr (Or.inr (Or.inr (h))); exact Or.inr (Or.inl (h.1 ▸ zM_k6 (z := (12 * p0 + S118 (zz_rf 3 p0) 1)) (by omega) rfl)); exact Or.inr (Or.inl (h.1 ▸ zM_k6 (z := (12 * p0 + S118 (zz_rf 3 p0) 1)) (by omega) rfl)); exact Or.inr (Or.inl (h.1 ▸ zM_k6 (z := (12 * p0 + S118 (zz_rf 3 p0) 1)) (by omega) rfl)); exact Or.inr (Or.inl (h.1 ▸ zM_k6 (z := (12 * p0 + S118 (zz_rf 3 p0) 1)) (by omega) rfl)))
                    have b135 := zz_rf3 (z := p0) (by omega)
                    have b136 := zz_G.r G_S118 (zz_rf 3 p0) 1 1 11 (zR_k3_1 (by omega)) (zB_k3 (by omega))
                    have b137 := zz_rf6 (z := (12 * p0 + S118 (zz_rf 3 p0) 1)) (by omega)
                    have H_S129 : zz_Hc S129 := o133
                    skip
                    refine zz_if_ne (by omega) zd_8_2_83 (fun c138 => ?_) (fun c138 => ?_)
                    · refine zz_iconst zd_8_2_90 ?_
                      refine zz_goto zd_8_2_91 ?_
                      refine zz_istore [some (.ref 1073), none, some (zi x2), some (zi x3), some (zi 0)] zd_8_2_113 (by decide) rfl ?_
                      refine zz_iload (x := 0) rfl zd_8_2_115 ?_
                      refine zz_if_ne (by omega) zd_8_2_117 (fun c139 => ?_) (fun c139 => ?_)
                      · exfalso; omega
                      · refine zz_iload_n (x := x3) rfl zd_8_2_120 ?_
                        exact zz_iret zd_8_2_121 rfl (Nat.zero_le _) (Nat.zero_le _) ⟨_, _, rfl, G_S129, F_S129, by omega, (by have i9 := i24_5; rw [show x2 = 1 by omega] at i9; exact (zn_RIN i9 (by omega) (by omega) hu9 hz9 (fun v hV hC hN hz => by have l9 := o104 (v 14) _ hN hk9; have V9 := hV.1; have cl := zn_kcl (f := (S0 1071)) (e := S26 1070 2) (a := S 1070 2 + 1); rw [hT2] at l9; have g9 := l9.resolve_left (fun h => absurd h.2 (by decide)); have p9 := o121 (v 14) _ hN (by omega) (by omega) (zn_kdr _ _) g9.2.1 g9.2.2.1 (fun _ => by have w := g9.2.2.2.2.2.2.1; first | exact w | (rw [show S101 (zz_rf 3 p0) 1 = S (zz_rf 3 p0) 1 by omega]; exact w)); rw [g9.2.2.2.2.2.2.2.1] at p9; (try rw [hT3] at p9); have q9 := (p9.resolve_right (fun h => absurd h.1 (by decide))).2; have u9_ := o123; (try rw [hT3] at u9_); have d9 := zn_dft (S1 := S118) g9 q9.2.2.1 (u9_ 0 (by decide)) (u9_ 1 (by decide)) (u9_ 2 (by decide)); have C4 : zn_C S118 p0 v := ((((hC.fr0 hV fS26 rfl rfl (by omega)).fr0 hV fS35 rfl rfl (by omega)).kp hV o107 (by omega)).kp hV o122 (by omega)); have w9 := o132 v C4 hV; rw [show S118 (zz_rf 3 p0) 1 = S (zz_rf 3 p0) 1 by omega] at w9; have w9 := w9 (by have k1 := d9.1; have k2 := zn_kdr ((zt_kn (S0 1071) (S26 1070 2)) (S 1070 2 + 1)) ((zt_kc (S0 1071) (S26 1070 2)) (S 1070 2 + 1)); have k3 := zn_ed0 d9.2.2.2; have k4 := g9.1; omega); exact zn_lineN3 hz (by omega) cl ⟨Int.le_refl _, by omega⟩ d9 w9.1 (by omega))).symm), fun hr => absurd hr (by omega), (fun a i h1 h2 h3 => by have h3_ := zz_rf3 (z := p0) (by omega); have hg1_ := zz_G.r G_S118 (zz_rf 3 p0) 1 1 11 (zR_k3_1 (by omega)) (zB_k3 (by omega)); have hz1_ := zz_rf6 (z := 12 * p0 + S118 (zz_rf 3 p0) 1) (by omega); have hg2_ := zz_G.r G_S101 (zz_rf 3 p0) 1 1 11 (zR_k3_1 (by omega)) (zB_k3 (by omega)); have hz2_ := zz_rf6 (z := 12 * p0 + S101 (zz_rf 3 p0) 1) (by omega); have hg3_ := zz_G.r G_S35 (zz_rf 3 p0) 1 1 11 (zR_k3_1 (by omega)) (zB_k3 (by omega)); have hz3_ := zz_rf6 (z := 12 * p0 + S35 (zz_rf 3 p0) 1) (by omega); exact ((((((fS129 a i (zz_out1 rfl ⟨h1, h2⟩) (zz_out2 rfl ⟨h1, h2⟩) (fun h => by first | exact h | omega)).trans (o122 a i h1 h2 (by omega))).trans (o107 a i h1 h2 (by omega))).trans (fS35 a i (zz_out1 rfl ⟨h1, h2⟩) (zz_out2 rfl ⟨h1, h2⟩) (fun h => by first | exact h | omega))).trans (fS26 a i (zz_out1 rfl ⟨h1, h2⟩) (zz_out2 rfl ⟨h1, h2⟩) (fun h => by first | exact h | omega))).trans (i24_6 a i h1 h2 h3))), H_S129⟩
                    · refine zz_iconst zd_8_2_86 ?_
                      refine zz_goto zd_8_2_87 ?_
                      refine zz_istore [some (.ref 1073), none, some (zi x2), some (zi x3), some (zi 1)] zd_8_2_113 (by decide) rfl ?_
                      refine zz_iload (x := 1) rfl zd_8_2_115 ?_
                      refine zz_if_ne (by omega) zd_8_2_117 (fun c140 => ?_) (fun c140 => ?_)
                      · refine zz_iconst zd_8_2_122 ?_
                        refine zz_istore_n [some (.ref 1073), none, some (zi 1), some (zi x3), some (zi 1)] zd_8_2_123 (by decide) rfl ?_
                        refine zz_aload_n (x := 1073) rfl zd_8_2_124 ?_
                        refine zz_aload_n (x := 1073) rfl zd_8_2_125 ?_
                        refine zz_getr (kd := 1) (z := p0) zd_8_2_126 zf_NetworkReader_15 zT_1073 rfl (zz_ltn hn rfl) ((zz_rc fS129 rfl rfl (by first | decide | omega) (zz_rc fS118 rfl rfl (fun h => h) (zz_rc fS101 rfl rfl (fun h => h) (zz_rc fS35 rfl rfl (fun h => h) (zz_rc fS26 rfl rfl (fun h => h) rfl))))).trans (by omega)) (by omega) (zz_rf 3 p0) rfl ?_
                        have g141 := zz_G.r G_S129 (zz_rf 3 p0) 1 1 11 (zR_k3_1 (by omega)) (zB_k3 (by omega))
                        refine zz_geti (z := S129 (zz_rf 3 p0) 1) zd_8_2_129 zf_NetworkReader_78 (zT_k3 (by omega)) rfl (zN_k3 hn (by omega)) rfl ?_
                        refine zz_iconst zd_8_2_132 ?_
                        refine zz_isub zd_8_2_133 ?_
                        have g142 := zz_G.r G_S118 1073 4 0 1500 rfl rfl
                        have e143 : S129 1073 4 = S118 1073 4 := (zz_rc fS129 rfl rfl (by first | decide | omega) rfl)
                        have g144 := zz_G.r G_S118 1073 5 (-1500) 1500 rfl rfl
                        have e145 : S129 1073 5 = S118 1073 5 := (zz_rc fS129 rfl rfl (by first | decide | omega) rfl)
                        refine zz_callVV [zi ((S129 (zz_rf 3 p0) 1) - 1)] zd_8_2_134 zk_NetworkReader_81 zT_1073 (zz_ltn hn rfl) rfl rfl ⟨Nat.le_of_ble_eq_true rfl, Nat.le_of_ble_eq_true rfl⟩ ⟨rfl, rfl⟩ (Nat.zero_le _) (Nat.zero_le _) (zc_keepName_8_13 ((S129 (zz_rf 3 p0) 1) - 1) S129 n hn G_S129 (by omega)) (fun S146 hP => ?_)
                        obtain ⟨G_S146, fS146, o148, o149⟩ := hP
                        have F_S146 := zz_fr.trans F_S129 fS146 rfl (fun a i h => by rcases h with h | h; exact Or.inr (Or.inl (by rw [h.1]; rfl)); exact Or.inr (Or.inl (by rw [h.1]; rfl)))
                        have H_S146 : zz_Hc S146 := zz_Hc.fr (q := 0) fS146 rfl rfl G_S129 (by decide) rfl (fun b j h => by have h0_ := zz_rf3 (z := p0) (by omega); have h1_ := zz_rf3 (z := p0) (by omega); omega) H_S129
                        skip
                        refine zz_iinc [some (.ref 1073), none, some (zi 1), some (zi (x3 + 1)), some (zi 1)] zd_8_2_137 rfl rfl ?_
                        refine zz_goto zd_8_2_140 ?_
                        have e150 : S146 1070 2 = S26 1070 2 := (zz_rc fS146 rfl rfl (by first | decide | (intro h; rcases h with h | h; exact absurd h.1 (by decide); exact absurd h.1 (by decide)) | omega) (zz_rc fS129 rfl rfl (by first | decide | omega) (zz_rc fS118 rfl rfl (fun h => h) (zz_rc fS101 rfl rfl (fun h => h) (zz_rc fS35 rfl rfl (fun h => h) rfl)))))
                        have e151 : S146 1073 1 = S 1073 1 := (zz_rc fS146 rfl rfl (by first | decide | (intro h; rcases h with h | h; exact absurd h.1 (by decide); exact absurd h.1 (by decide)) | omega) (zz_rc fS129 rfl rfl (by first | decide | omega) (zz_rc fS118 rfl rfl (fun h => h) (zz_rc fS101 rfl rfl (fun h => h) (zz_rc fS35 rfl rfl (fun h => h) (zz_rc fS26 rfl rfl (fun h => h) rfl))))))
                        refine zz_less (ls1 := [some (.ref 1073), none, some (zi 1), some (zi (x3 + 1))]) ⟨rfl, ⟨rfl, ⟨rfl, trivial⟩⟩⟩ ?_
                        exact k24 1 (x3 + 1) S146 G_S146 F_S146 (by omega) (by omega) (by omega) (by omega) (by omega) (by have i9 := i24_5; rw [show x2 = 1 by omega] at i9; exact zn_RIL i9 (by omega) (by omega) hu9 hz9 (show S146 1070 2 + 1 = S26 1070 2 + 1 by omega) rfl (fun v hV hC hN hz => by have l9 := o104 (v 14) _ hN hk9; have V9 := hV.1; have cl := zn_kcl (f := (S0 1071)) (e := S26 1070 2) (a := S 1070 2 + 1); rw [hT2] at l9; have g9 := l9.resolve_left (fun h => absurd h.2 (by decide)); have p9 := o121 (v 14) _ hN (by omega) (by omega) (zn_kdr _ _) g9.2.1 g9.2.2.1 (fun _ => by have w := g9.2.2.2.2.2.2.1; first | exact w | (rw [show S101 (zz_rf 3 p0) 1 = S (zz_rf 3 p0) 1 by omega]; exact w)); rw [g9.2.2.2.2.2.2.2.1] at p9; (try rw [hT3] at p9); have q9 := (p9.resolve_right (fun h => absurd h.1 (by decide))).2; have u9_ := o123; (try rw [hT3] at u9_); have d9 := zn_dft (S1 := S118) g9 q9.2.2.1 (u9_ 0 (by decide)) (u9_ 1 (by decide)) (u9_ 2 (by decide)); have C4 : zn_C S118 p0 v := ((((hC.fr0 hV fS26 rfl rfl (by omega)).fr0 hV fS35 rfl rfl (by omega)).kp hV o107 (by omega)).kp hV o122 (by omega)); have w9 := o132 v C4 hV; rw [show S118 (zz_rf 3 p0) 1 = S (zz_rf 3 p0) 1 by omega] at w9; have w9 := w9 (by have k1 := d9.1; have k2 := zn_kdr ((zt_kn (S0 1071) (S26 1070 2)) (S 1070 2 + 1)) ((zt_kc (S0 1071) (S26 1070 2)) (S 1070 2 + 1)); have k3 := zn_ed0 d9.2.2.2; have k4 := g9.1; omega); rw [show v130 = 0 by omega] at w9; have u9 := w9.2.1 rfl; have c9 := hC.1; exact zn_layY (S := S) (S3 := S101) (S4 := S118) (S5 := S129) (S6 := S146) hV hN hz (by omega) g9 ⟨q9.1, q9.2.1⟩ q9.2.2.1 (u9_ 0 (by decide)) (u9_ 1 (by decide)) (u9_ 2 (by decide)) w9.1 u9.2 (fun w hw hc => by have h3_ := zz_rf3 (z := p0) (by omega); exact zn_C.fr hc hw fS146 rfl rfl (by omega) (fS146 (zz_rf 3 p0) 1 rfl rfl (fun h => by omega)) (fun a i h => by omega)) (fun i hi => ((o149 i (by omega)).1).trans (((((fS129 1074 i (zz_nc1 rfl) rfl (fun h => by first | exact h | omega)).trans (fS118 1074 i (zz_nc1 rfl) rfl (fun h => by first | exact h | omega))).trans (fS101 1074 i (zz_nc1 rfl) rfl (fun h => by first | exact h | omega))).trans (fS35 1074 i (zz_nc1 rfl) rfl (fun h => by first | exact h | omega))).trans (fS26 1074 i (zz_nc1 rfl) rfl (fun h => by first | exact h | omega)))) (fun i hi => ((o149 i (by omega)).2).trans (((((fS129 1075 i (zz_nc1 rfl) rfl (fun h => by first | exact h | omega)).trans (fS118 1075 i (zz_nc1 rfl) rfl (fun h => by first | exact h | omega))).trans (fS101 1075 i (zz_nc1 rfl) rfl (fun h => by first | exact h | omega))).trans (fS35 1075 i (zz_nc1 rfl) rfl (fun h => by first | exact h | omega))).trans (fS26 1075 i (zz_nc1 rfl) rfl (fun h => by first | exact h | omega)))) (by have w := o148 (by omega); rw [show (v 15 0).toNat = ((S129 (zz_rf 3 p0) 1) - 1).toNat by omega]; omega) (by have w := o148 (by omega); rw [show (v 15 0).toNat = ((S129 (zz_rf 3 p0) 1) - 1).toNat by omega]; omega))) (fun a i h1 h2 h3 => by have h3_ := zz_rf3 (z := p0) (by omega); have hg1_ := zz_G.r G_S118 (zz_rf 3 p0) 1 1 11 (zR_k3_1 (by omega)) (zB_k3 (by omega)); have hz1_ := zz_rf6 (z := 12 * p0 + S118 (zz_rf 3 p0) 1) (by omega); have hg2_ := zz_G.r G_S101 (zz_rf 3 p0) 1 1 11 (zR_k3_1 (by omega)) (zB_k3 (by omega)); have hz2_ := zz_rf6 (z := 12 * p0 + S101 (zz_rf 3 p0) 1) (by omega); have hg3_ := zz_G.r G_S35 (zz_rf 3 p0) 1 1 11 (zR_k3_1 (by omega)) (zB_k3 (by omega)); have hz3_ := zz_rf6 (z := 12 * p0 + S35 (zz_rf 3 p0) 1) (by omega); exact (((((((fS146 a i (zz_out1 rfl ⟨h1, h2⟩) (zz_out2 rfl ⟨h1, h2⟩) (fun h => by first | exact h | omega)).trans (fS129 a i (zz_out1 rfl ⟨h1, h2⟩) (zz_out2 rfl ⟨h1, h2⟩) (fun h => by first | exact h | omega))).trans (o122 a i h1 h2 (by omega))).trans (o107 a i h1 h2 (by omega))).trans (fS35 a i (zz_out1 rfl ⟨h1, h2⟩) (zz_out2 rfl ⟨h1, h2⟩) (fun h => by first | exact h | omega))).trans (fS26 a i (zz_out1 rfl ⟨h1, h2⟩) (zz_out2 rfl ⟨h1, h2⟩) (fun h => by first | exact h | omega))).trans (i24_6 a i h1 h2 h3))) H_S146 (by omega)
                      · exfalso; omega
theorem zi_readInto_8_2 {g : mm_G} {l : Launch} (p0 : Int) (S0 : zz_S) (n : Nat) (hn : zz_end ≤ n) (G_S0 : zz_G S0) (hp0 : 0 ≤ p0 ∧ p0 ≤ 1) (H_S0 : zz_Hc S0) : ∀ N : Nat, (∀ (x2 : Int) (x3 : Int) (S : zz_S), zz_G S → zz_fr [(1070, 2), (1070, 3), (1070, 4), (1070, 5), (1070, 6), (1073, 1), (1073, 4), (1073, 5), (1073, 6), (1073, 7), (1073, 8), (1075, 0), (1075, 1), (1075, 2), (1075, 3), (1075, 4), (1075, 5), (1075, 6), (1075, 7), (1075, 8), (1075, 9), (1075, 10)] [1003, 1004, 1005, 1006, 1007, 1008, 1009, 1010, 1011, 1012, 1013, 1014, 1017, 1018, 1019, 1020, 1021, 1022, 1023, 1024, 1025, 1026, 1027, 1028, 1074, 1075] (fun a i => (a = zz_rf 3 (p0) ∧ i = 1) ∨ (a = zz_rf 3 p0 ∧ i = 1)) S0 S → (0 ≤ x2 ∧ x2 ≤ 1) → (0 ≤ x3 ∧ x3 ≤ 1501) → (x3 ≤ S 1070 2 + 1) → (-1 ≤ S 1070 2 ∧ S 1070 2 ≤ S0 1070 1) → (S 1073 1 = p0) → (zn_RI (S0 1071) (S0 1070 1) p0 x2 x3 (S 1070 2 + 1) S (zn_nt (S0 1071) (S0 1070 1) 1502 0 0 0 zn_v0)) → (∀ a i : Nat, 1001 ≤ a → a ≤ 1028 → ((a : Int) < 1001 + 14 * p0 ∨ 1014 + 14 * p0 < (a : Int)) → S a i = S0 a i) → (zz_Hc S) → (1500 + 1 - x3).toNat < N → zz_E g l zy_readInto_8_2 zr_readInto_8_2 (zz_QI n (zp_readInto_8_2 p0 S0)) S n 24 [some (.ref 1073), none, some (zi x2), some (zi x3)] [] 0 0) := by
  intro N
  induction N with
  | zero => exact fun x2 x3 S _ _ _ _ _ _ _ _ _ _ h => absurd h (Nat.not_lt_zero _)
  | succ N ih =>
    exact fun x2 x3 S a b j0 j1 j2 j3 j4 j5 j6 j7 hR => zb_readInto_8_2_24 p0 S0 n hn G_S0 hp0 H_S0 x2 x3 S a b j0 j1 j2 j3 j4 j5 j6 j7 _ rfl (fun x2 x3 S a b j0 j1 j2 j3 j4 j5 j6 j7 h => ih x2 x3 S a b j0 j1 j2 j3 j4 j5 j6 j7 (Nat.lt_of_lt_of_le h (Nat.le_of_lt_succ hR)))
set_option maxHeartbeats 20000000 in
theorem zc_readInto_8_2 {g : mm_G} {l : Launch} (p0 : Int) (S0 : zz_S) (n : Nat) (hn : zz_end ≤ n) (G_S0 : zz_G S0) (hp0 : 0 ≤ p0 ∧ p0 ≤ 1) (H_S0 : zz_Hc S0) : mm_Met g l zy_readInto_8_2 zr_readInto_8_2 [.ref 1073, .ref (zz_rf 3 p0)] (zz_M S0 n) n (zz_QI n (zp_readInto_8_2 p0 S0)) := by
  refine zz_enter (by decide) (Nat.le_of_ble_eq_true rfl) (zz_less (ls1 := [some (.ref 1073), some (.ref (zz_rf 3 p0))]) ⟨rfl, ⟨rfl, trivial⟩⟩ ?_)
  have F_S0 : zz_fr [(1070, 2), (1070, 3), (1070, 4), (1070, 5), (1070, 6), (1073, 1), (1073, 4), (1073, 5), (1073, 6), (1073, 7), (1073, 8), (1075, 0), (1075, 1), (1075, 2), (1075, 3), (1075, 4), (1075, 5), (1075, 6), (1075, 7), (1075, 8), (1075, 9), (1075, 10)] [1003, 1004, 1005, 1006, 1007, 1008, 1009, 1010, 1011, 1012, 1013, 1014, 1017, 1018, 1019, 1020, 1021, 1022, 1023, 1024, 1025, 1026, 1027, 1028, 1074, 1075] (fun a i => (a = zz_rf 3 (p0) ∧ i = 1) ∨ (a = zz_rf 3 p0 ∧ i = 1)) S0 S0 := zz_fr.refl
  have k24 : ∀ (x2 : Int) (x3 : Int) (S : zz_S), zz_G S → zz_fr [(1070, 2), (1070, 3), (1070, 4), (1070, 5), (1070, 6), (1073, 1), (1073, 4), (1073, 5), (1073, 6), (1073, 7), (1073, 8), (1075, 0), (1075, 1), (1075, 2), (1075, 3), (1075, 4), (1075, 5), (1075, 6), (1075, 7), (1075, 8), (1075, 9), (1075, 10)] [1003, 1004, 1005, 1006, 1007, 1008, 1009, 1010, 1011, 1012, 1013, 1014, 1017, 1018, 1019, 1020, 1021, 1022, 1023, 1024, 1025, 1026, 1027, 1028, 1074, 1075] (fun a i => (a = zz_rf 3 (p0) ∧ i = 1) ∨ (a = zz_rf 3 p0 ∧ i = 1)) S0 S → (0 ≤ x2 ∧ x2 ≤ 1) → (0 ≤ x3 ∧ x3 ≤ 1501) → (x3 ≤ S 1070 2 + 1) → (-1 ≤ S 1070 2 ∧ S 1070 2 ≤ S0 1070 1) → (S 1073 1 = p0) → (zn_RI (S0 1071) (S0 1070 1) p0 x2 x3 (S 1070 2 + 1) S (zn_nt (S0 1071) (S0 1070 1) 1502 0 0 0 zn_v0)) → (∀ a i : Nat, 1001 ≤ a → a ≤ 1028 → ((a : Int) < 1001 + 14 * p0 ∨ 1014 + 14 * p0 < (a : Int)) → S a i = S0 a i) → (zz_Hc S) → zz_E g l zy_readInto_8_2 zr_readInto_8_2 (zz_QI n (zp_readInto_8_2 p0 S0)) S n 24 [some (.ref 1073), none, some (zi x2), some (zi x3)] [] 0 0 := fun x2 x3 S a b j0 j1 j2 j3 j4 j5 j6 j7 => (zi_readInto_8_2 (g := g) (l := l) p0 S0 n hn G_S0 hp0 H_S0 _) x2 x3 S a b j0 j1 j2 j3 j4 j5 j6 j7 (Nat.lt_succ_self _)
  have b_p0 := zz_rf3 (z := p0) (by omega)
  have gc9 := zz_G.r G_S0 1070 1 0 1500 rfl rfl
  refine zz_aload_n (x := 1073) rfl zd_8_2_0 ?_
  refine zz_aload_n (x := zz_rf 3 p0) rfl zd_8_2_1 ?_
  refine zz_putr (kd := 1) p0 zd_8_2_2 zf_NetworkReader_15 zT_1073 rfl (zz_ltn hn rfl) (by omega) rfl (fun _ => rfl) (fun _ => rfl) (fun S1 qS1 => ?_)
  have G_S1 := zz_G.put G_S0 qS1 0 1 rfl (by omega)
  have F_S1 := zz_fr.puts F_S0 qS1 rfl
  have H_S1 : zz_Hc S1 := zz_Hc.fr (q := 0) (zz_fr.put1 qS1) rfl rfl G_S0 (by decide) rfl (fun b j h => by omega) H_S0
  refine zz_iconst zd_8_2_5 ?_
  refine zz_istore_n [some (.ref 1073), some (.ref (zz_rf 3 p0)), some (zi 0)] zd_8_2_6 (by decide) rfl ?_
  refine zz_iconst zd_8_2_7 ?_
  refine zz_istore_n [some (.ref 1073), some (.ref (zz_rf 3 p0)), some (zi 0), some (zi 0)] zd_8_2_8 (by decide) rfl ?_
  refine zz_aload_n (x := 1073) rfl zd_8_2_9 ?_
  refine zz_getr (kd := 0) (z := 1075) zd_8_2_10 zf_NetworkReader_25 zT_1073 rfl (zz_ltn hn rfl) (zz_G.eq G_S1 1073 3 1075 rfl rfl) (by decide) 1075 rfl ?_
  refine zz_iconst zd_8_2_13 ?_
  refine zz_callSV [.ref 1075, zi 0] zd_8_2_14 zk_NetworkReader_44 rfl rfl ⟨Nat.le_of_ble_eq_true rfl, Nat.le_of_ble_eq_true rfl⟩ ⟨rfl, rfl⟩ (Nat.zero_le _) (Nat.zero_le _) (zc_fill_27_103_1075 0 S1 n hn G_S1 (by omega)) (fun S2 hP => ?_)
  obtain ⟨G_S2, fS2, o4, o5, o6, o7, o8, o9, o10, o11, o12, o13, o14⟩ := hP
  have F_S2 := zz_fr.trans F_S1 fS2 rfl zz_nv
  have H_S2 : zz_Hc S2 := zz_Hc.fr (q := 0) fS2 rfl rfl G_S1 (by decide) rfl (fun b j h => h.elim) H_S1
  refine zz_aload_n (x := 1073) rfl zd_8_2_17 ?_
  refine zz_getr (kd := 0) (z := 1070) zd_8_2_18 zf_NetworkReader_9 zT_1073 rfl (zz_ltn hn rfl) (zz_G.eq G_S2 1073 0 1070 rfl rfl) (by decide) 1070 rfl ?_
  refine zz_callVV [] zd_8_2_21 zk_NetworkReader_50 zT_1070 (zz_ltn hn rfl) rfl rfl ⟨Nat.le_of_ble_eq_true rfl, Nat.le_of_ble_eq_true rfl⟩ ⟨rfl, rfl⟩ (Nat.zero_le _) (Nat.zero_le _) (zc_rewind_11_5  S2 n hn G_S2 ) (fun S15 hP => ?_)
  obtain ⟨G_S15, fS15, o17⟩ := hP
  have F_S15 := zz_fr.trans F_S2 fS15 rfl zz_nv
  have H_S15 : zz_Hc S15 := zz_Hc.fr (q := 0) fS15 rfl rfl G_S2 (by decide) rfl (fun b j h => h.elim) H_S2
  have g18 := zz_G.r G_S15 1070 2 (-1) 1500 rfl rfl
  have e19 : S15 1073 1 = p0 := (zz_rc fS15 rfl rfl (fun h => h) (zz_rc fS2 rfl rfl (fun h => h) (zz_rs qS1)))
  refine zz_less (ls1 := [some (.ref 1073), none, some (zi 0), some (zi 0)]) ⟨rfl, ⟨rfl, ⟨rfl, trivial⟩⟩⟩ ?_
  exact k24 0 0 S15 G_S15 F_S15 (by omega) (by omega) (by omega) (by omega) (by omega) (zn_RI0 (by omega) (fun i hi => (fS15 1075 i (zz_nc1 rfl) rfl (fun h => h)).trans (by rcases (by omega : i = 0 ∨ i = 1 ∨ i = 2 ∨ i = 3 ∨ i = 4 ∨ i = 5 ∨ i = 6 ∨ i = 7 ∨ i = 8 ∨ i = 9 ∨ i = 10) with rfl | rfl | rfl | rfl | rfl | rfl | rfl | rfl | rfl | rfl | rfl <;> omega))) (fun a i h1 h2 h3 => by have h3_ := zz_rf3 (z := p0) (by omega); exact (((fS15 a i (zz_out1 rfl ⟨h1, h2⟩) (zz_out2 rfl ⟨h1, h2⟩) (fun h => by first | exact h | omega)).trans (fS2 a i (zz_out1 rfl ⟨h1, h2⟩) (zz_out2 rfl ⟨h1, h2⟩) (fun h => by first | exact h | omega))).trans (zz_ro qS1 (fun h => by omega) rfl))) H_S15
theorem zk_TF_296 : mm_Vl "TensorForge" 296 8 1 zy_readInto_8_2 := ⟨zyw_readInto_8_2, (R_NetworkReader, F_NetworkReader, 9), rfl, mm_tb_1 912 (by decide +kernel) rfl, mm_tb_1 913 (by decide +kernel) rfl, mm_tb_1 914 (by decide +kernel) rfl⟩
theorem zg_1_25_11 : zq_at zy_network_1_25.2.1 11 60 ∧ zq_at zy_network_1_25.2.1 12 27 ∧ zq_at zy_network_1_25.2.1 13 2 ∧ zq_at zy_network_1_25.2.1 14 160 ∧ zq_at zy_network_1_25.2.1 15 0 ∧ zq_at zy_network_1_25.2.1 16 21 ∧ zq_at zy_network_1_25.2.1 35 27 ∧ zq_at zy_network_1_25.2.1 36 172 ∧ zq_at zy_network_1_25.2.1 17 42 ∧ zq_at zy_network_1_25.2.1 18 180 ∧ zq_at zy_network_1_25.2.1 19 0 ∧ zq_at zy_network_1_25.2.1 20 10 ∧ zq_at zy_network_1_25.2.1 21 77 ∧ zq_at zy_network_1_25.2.1 22 42 ∧ zq_at zy_network_1_25.2.1 23 42 ∧ zq_at zy_network_1_25.2.1 24 180 ∧ zq_at zy_network_1_25.2.1 25 0 ∧ zq_at zy_network_1_25.2.1 26 16 ∧ zq_at zy_network_1_25.2.1 27 181 ∧ zq_at zy_network_1_25.2.1 28 0 ∧ zq_at zy_network_1_25.2.1 29 10 ∧ zq_at zy_network_1_25.2.1 30 42 ∧ zq_at zy_network_1_25.2.1 31 44 := by decide +kernel
theorem zd_1_25_11 : zz_D zy_network_1_25 11 (.istore_n 1) 1 12 := ⟨zq_60 zg_1_25_11.1, rfl⟩
theorem zd_1_25_12 : zz_D zy_network_1_25 12 (.iload_n 1) 1 13 := ⟨zq_27 zg_1_25_11.2.1, rfl⟩
theorem zd_1_25_13 : zz_D zy_network_1_25 13 (.iconst (-1)) 1 14 := ⟨zq_2 zg_1_25_11.2.2.1, rfl⟩
theorem zd_1_25_14 : zz_B zy_network_1_25 14 (Instr.if_icmp .ne) 35 17 := ⟨21, zq_160 zg_1_25_11.2.2.2.1 zg_1_25_11.2.2.2.2.1 zg_1_25_11.2.2.2.2.2.1 (by decide), rfl, rfl⟩
theorem zd_1_25_35 : zz_D zy_network_1_25 35 (.iload_n 1) 1 36 := ⟨zq_27 zg_1_25_11.2.2.2.2.2.2.1, rfl⟩
theorem zd_1_25_36 : zz_D zy_network_1_25 36 (.ireturn) 1 37 := ⟨zq_172 zg_1_25_11.2.2.2.2.2.2.2.1, rfl⟩
theorem zd_1_25_17 : zz_D zy_network_1_25 17 (.aload_n 0) 1 18 := ⟨zq_42 zg_1_25_11.2.2.2.2.2.2.2.2.1, rfl⟩
theorem zd_1_25_18 : zz_D zy_network_1_25 18 (.getfield 10) 3 21 := ⟨zq_180 zg_1_25_11.2.2.2.2.2.2.2.2.2.1 zg_1_25_11.2.2.2.2.2.2.2.2.2.2.1 zg_1_25_11.2.2.2.2.2.2.2.2.2.2.2.1 rfl, rfl⟩
theorem zd_1_25_21 : zz_D zy_network_1_25 21 (.astore_n 2) 1 22 := ⟨zq_77 zg_1_25_11.2.2.2.2.2.2.2.2.2.2.2.2.1, rfl⟩
theorem zd_1_25_22 : zz_D zy_network_1_25 22 (.aload_n 0) 1 23 := ⟨zq_42 zg_1_25_11.2.2.2.2.2.2.2.2.2.2.2.2.2.1, rfl⟩
theorem zd_1_25_23 : zz_D zy_network_1_25 23 (.aload_n 0) 1 24 := ⟨zq_42 zg_1_25_11.2.2.2.2.2.2.2.2.2.2.2.2.2.2.1, rfl⟩
theorem zd_1_25_24 : zz_D zy_network_1_25 24 (.getfield 16) 3 27 := ⟨zq_180 zg_1_25_11.2.2.2.2.2.2.2.2.2.2.2.2.2.2.2.1 zg_1_25_11.2.2.2.2.2.2.2.2.2.2.2.2.2.2.2.2.1 zg_1_25_11.2.2.2.2.2.2.2.2.2.2.2.2.2.2.2.2.2.1 rfl, rfl⟩
theorem zd_1_25_27 : zz_D zy_network_1_25 27 (.putfield 10) 3 30 := ⟨zq_181 zg_1_25_11.2.2.2.2.2.2.2.2.2.2.2.2.2.2.2.2.2.2.1 zg_1_25_11.2.2.2.2.2.2.2.2.2.2.2.2.2.2.2.2.2.2.2.1 zg_1_25_11.2.2.2.2.2.2.2.2.2.2.2.2.2.2.2.2.2.2.2.2.1 rfl, rfl⟩
theorem zd_1_25_30 : zz_D zy_network_1_25 30 (.aload_n 0) 1 31 := ⟨zq_42 zg_1_25_11.2.2.2.2.2.2.2.2.2.2.2.2.2.2.2.2.2.2.2.2.2.1, rfl⟩
theorem zd_1_25_31 : zz_D zy_network_1_25 31 (.aload_n 2) 1 32 := ⟨zq_44 zg_1_25_11.2.2.2.2.2.2.2.2.2.2.2.2.2.2.2.2.2.2.2.2.2.2, rfl⟩
theorem zg_1_25_32 : zq_at zy_network_1_25.2.1 32 181 ∧ zq_at zy_network_1_25.2.1 33 0 ∧ zq_at zy_network_1_25.2.1 34 16 := by decide +kernel
theorem zd_1_25_32 : zz_D zy_network_1_25 32 (.putfield 16) 3 35 := ⟨zq_181 zg_1_25_32.1 zg_1_25_32.2.1 zg_1_25_32.2.2 rfl, rfl⟩

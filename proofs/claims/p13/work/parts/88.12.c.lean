-- TensorForge$NetworkReader readOptions ()Z
abbrev zr_readOptions_8_7 : Room := { frames := 8, cells := 0, slots := 0, locals := 109 }
def zp_readOptions_8_7  (S0 : zz_S) : Int → zz_S → Prop := fun r S => zz_G S ∧ zz_fr [(1070, 3), (1070, 4), (1070, 5), (1070, 6), (1073, 4), (1073, 5), (1073, 8)] [1003, 1004, 1005, 1006, 1007, 1008, 1009, 1010, 1011, 1012, 1013, 1014, 1017, 1018, 1019, 1020, 1021, 1022, 1023, 1024, 1025, 1026, 1027, 1028] (fun _ _ => False) S0 S ∧ (0 ≤ r ∧ r ≤ 1) ∧ (zz_Hc S)
theorem zb_readOptions_8_7_12 {g : mm_G} {l : Launch}  (S0 : zz_S) (n : Nat) (hn : zz_end ≤ n) (G_S0 : zz_G S0) (H_S0 : zz_Hc S0) (x1 : Int) (S : zz_S) (G_S : zz_G S) (F_S : zz_fr [(1070, 3), (1070, 4), (1070, 5), (1070, 6), (1073, 4), (1073, 5), (1073, 8)] [1003, 1004, 1005, 1006, 1007, 1008, 1009, 1010, 1011, 1012, 1013, 1014, 1017, 1018, 1019, 1020, 1021, 1022, 1023, 1024, 1025, 1026, 1027, 1028] (fun _ _ => False) S0 S) (i12_0 : 0 ≤ x1 ∧ x1 ≤ 1501) (i12_1 : zz_Hc S) (R : Nat) (hR : (1500 + 1 - x1).toNat = R) (k12 : ∀ (x1 : Int) (S : zz_S), zz_G S → zz_fr [(1070, 3), (1070, 4), (1070, 5), (1070, 6), (1073, 4), (1073, 5), (1073, 8)] [1003, 1004, 1005, 1006, 1007, 1008, 1009, 1010, 1011, 1012, 1013, 1014, 1017, 1018, 1019, 1020, 1021, 1022, 1023, 1024, 1025, 1026, 1027, 1028] (fun _ _ => False) S0 S → (0 ≤ x1 ∧ x1 ≤ 1501) → (zz_Hc S) → (1500 + 1 - x1).toNat < R → zz_E g l zy_readOptions_8_7 zr_readOptions_8_7 (zz_QI n (zp_readOptions_8_7  S0)) S n 12 [some (.ref 1073), some (zi x1)] [] 0 0) : zz_E g l zy_readOptions_8_7 zr_readOptions_8_7 (zz_QI n (zp_readOptions_8_7  S0)) S n 12 [some (.ref 1073), some (zi x1)] [] 0 0 := by
  have H_S := i12_1
  refine zz_iload_n (x := x1) rfl zd_8_7_12 ?_
  refine zz_sipush (by decide) zd_8_7_13 ?_
  refine zz_icmp_gt (by omega) (by omega) zd_8_7_16 (fun c3 => ?_) (fun c3 => ?_)
  · refine zz_iconst zd_8_7_107 ?_
    exact zz_zret zd_8_7_108 rfl (by omega) (Nat.zero_le _) (Nat.zero_le _) ⟨_, _, rfl, G_S, F_S, by omega, H_S⟩
  · refine zz_aload_n (x := 1073) rfl zd_8_7_19 ?_
    refine zz_getr (kd := 0) (z := 1070) zd_8_7_20 zf_NetworkReader_9 zT_1073 rfl (zz_ltn hn rfl) (zz_G.eq G_S 1073 0 1070 rfl rfl) (by decide) 1070 rfl ?_
    have g4 := zz_G.r G_S0 1070 2 (-1) 1500 rfl rfl
    have e5 : S 1070 2 = S0 1070 2 := (zz_rc F_S rfl rfl (fun h => h) rfl)
    have g6 := zz_G.r G_S 1070 3 0 1500 rfl rfl
    have g7 := zz_G.r G_S 1070 4 (-2147483648) 2147483647 rfl rfl
    have g8 := zz_G.r G_S 1070 5 0 1500 rfl rfl
    have g9 := zz_G.r G_S 1070 6 (-2147483648) 2147483647 rfl rfl
    refine zz_callVV [] zd_8_7_23 zk_NetworkReader_59 zT_1070 (zz_ltn hn rfl) rfl rfl ⟨Nat.le_of_ble_eq_true rfl, Nat.le_of_ble_eq_true rfl⟩ ⟨rfl, rfl⟩ (Nat.zero_le _) (Nat.zero_le _) (zc_nextToken_11_7  S n hn G_S ) (fun S10 hP => ?_)
    obtain ⟨G_S10, fS10, o12, o13, o14, o15, o16, o17, o18, o19⟩ := hP
    rw [show S 1071 = S0 1071 from funext (fun u => (zz_rc F_S (zz_nc1 rfl) rfl (fun h => h) rfl)), show S 1070 2 = S0 1070 2 from (zz_rc F_S rfl rfl (fun h => h) rfl)] at o12
    rw [show S 1071 = S0 1071 from funext (fun u => (zz_rc F_S (zz_nc1 rfl) rfl (fun h => h) rfl)), show S 1070 2 = S0 1070 2 from (zz_rc F_S rfl rfl (fun h => h) rfl)] at o13
    rw [show S 1071 = S0 1071 from funext (fun u => (zz_rc F_S (zz_nc1 rfl) rfl (fun h => h) rfl)), show S 1070 2 = S0 1070 2 from (zz_rc F_S rfl rfl (fun h => h) rfl)] at o14
    rw [show S 1070 2 = S0 1070 2 from (zz_rc F_S rfl rfl (fun h => h) rfl)] at o19
    have F_S10 := zz_fr.trans F_S fS10 rfl zz_nv
    have H_S10 : zz_Hc S10 := zz_Hc.fr (q := 0) fS10 rfl rfl G_S (by decide) rfl (fun b j h => h.elim) H_S
    refine zz_aload_n (x := 1073) rfl zd_8_7_26 ?_
    refine zz_getr (kd := 0) (z := 1070) zd_8_7_27 zf_NetworkReader_9 zT_1073 rfl (zz_ltn hn rfl) (zz_G.eq G_S10 1073 0 1070 rfl rfl) (by decide) 1070 rfl ?_
    have g20 := zz_G.r G_S10 1070 4 (-2147483648) 2147483647 rfl rfl
    refine zz_geti (z := S10 1070 4) zd_8_7_30 zf_NetworkReader_62 zT_1070 rfl (zz_ltn hn rfl) rfl ?_
    refine zz_if_ne (by omega) zd_8_7_33 (fun c21 => ?_) (fun c21 => ?_)
    · refine zz_aload_n (x := 1073) rfl zd_8_7_58 ?_
      refine zz_callVI [] zd_8_7_59 zk_NetworkReader_135 zT_1073 (zz_ltn hn rfl) rfl rfl ⟨Nat.le_of_ble_eq_true rfl, Nat.le_of_ble_eq_true rfl⟩ ⟨rfl, rfl⟩ (Nat.zero_le _) (Nat.zero_le _) (zc_optionTold_8_8  S10 n hn G_S10 ) (fun v23 S22 hP => ?_)
      obtain ⟨rfl, o24⟩ := hP
      refine zz_istore_n [some (.ref 1073), some (zi x1), some (zi v23)] zd_8_7_62 (by decide) rfl ?_
      refine zz_iload_n (x := v23) rfl zd_8_7_63 ?_
      refine zz_aload_n (x := 1073) rfl zd_8_7_64 ?_
      have g25 := zz_G.r G_S0 1073 6 (-2147483648) 2147483647 rfl rfl
      refine zz_geti (z := S0 1073 6) zd_8_7_65 zf_NetworkReader_35 zT_1073 rfl (zz_ltn hn rfl) (zz_rc fS10 rfl rfl (fun h => h) (zz_rc F_S rfl rfl (fun h => h) rfl)) ?_
      refine zz_iand (by omega) (by omega) zd_8_7_68 (fun v26 hv26 av26 bv26 ev26 => ?_)
      refine zz_if_eq (by omega) zd_8_7_69 (fun c27 => ?_) (fun c27 => ?_)
      · refine zz_iconst zd_8_7_89 ?_
        exact zz_zret zd_8_7_90 rfl (by omega) (Nat.zero_le _) (Nat.zero_le _) ⟨_, _, rfl, G_S10, F_S10, by omega, H_S10⟩
      · refine zz_iload_n (x := v23) rfl zd_8_7_72 ?_
        refine zz_aload_n (x := 1073) rfl zd_8_7_73 ?_
        have g28 := zz_G.r G_S 1073 8 (-2147483648) 2147483647 rfl rfl
        refine zz_geti (z := S 1073 8) zd_8_7_74 zf_NetworkReader_41 zT_1073 rfl (zz_ltn hn rfl) (zz_rc fS10 rfl rfl (fun h => h) rfl) ?_
        refine zz_iand (by omega) (by omega) zd_8_7_77 (fun v29 hv29 av29 bv29 ev29 => ?_)
        refine zz_if_ne (by omega) zd_8_7_78 (fun c30 => ?_) (fun c30 => ?_)
        · refine zz_iconst zd_8_7_89 ?_
          exact zz_zret zd_8_7_90 rfl (by omega) (Nat.zero_le _) (Nat.zero_le _) ⟨_, _, rfl, G_S10, F_S10, by omega, H_S10⟩
        · refine zz_aload_n (x := 1073) rfl zd_8_7_81 ?_
          refine zz_iload_n (x := v23) rfl zd_8_7_82 ?_
          refine zz_callVI [zi v23] zd_8_7_83 zk_NetworkReader_138 zT_1073 (zz_ltn hn rfl) rfl rfl ⟨Nat.le_of_ble_eq_true rfl, Nat.le_of_ble_eq_true rfl⟩ ⟨rfl, rfl⟩ (Nat.zero_le _) (Nat.zero_le _) (zc_readOption_8_9 v23 S10 n hn G_S10 (by omega)) (fun v32 S31 hP => ?_)
          obtain ⟨G_S31, fS31, o33⟩ := hP
          have g34 := zz_G.r G_S10 1073 1 0 1 rfl rfl
          have b35 := zz_G.r G_S10 (zz_rf 3 (S10 1073 1)) 1 1 11 (zR_k3_1 (by omega)) (zB_k3 (by omega))
          have F_S31 := zz_fr.trans F_S10 fS31 rfl (fun a i h => by rcases h with h | h | h | h | h | h | h | h; exact Or.inr (Or.inl (h.1 ▸ zM_k6 (z := (12 * (S10 1073 1) + S10 (zz_rf 3 (S10 1073 1)) 1)) (by omega) rfl)); exact Or.inr (Or.inl (h.1 ▸ zM_k6 (z := (12 * (S10 1073 1) + S10 (zz_rf 3 (S10 1073 1)) 1)) (by omega) rfl)); exact Or.inr (Or.inl (h.1 ▸ zM_k6 (z := (12 * (S10 1073 1) + S10 (zz_rf 3 (S10 1073 1)) 1)) (by omega) rfl)); exact Or.inr (Or.inl (h.1 ▸ zM_k6 (z := (12 * (S10 1073 1) + S10 (zz_rf 3 (S10 1073 1)) 1)) (by omega) rfl)); exact Or.inr (Or.inl (h.1 ▸ zM_k6 (z := (12 * (S10 1073 1) + S10 (zz_rf 3 (S10 1073 1)) 1)) (by omega) rfl)); exact Or.inr (Or.inl (h.1 ▸ zM_k6 (z := (12 * (S10 1073 1) + S10 (zz_rf 3 (S10 1073 1)) 1)) (by omega) rfl)); exact Or.inr (Or.inl (h.1 ▸ zM_k6 (z := (12 * (S10 1073 1) + S10 (zz_rf 3 (S10 1073 1)) 1)) (by omega) rfl)); exact Or.inr (Or.inl (h.1 ▸ zM_k6 (z := (12 * (S10 1073 1) + S10 (zz_rf 3 (S10 1073 1)) 1)) (by omega) rfl)))
          have b36 := zz_G.r G_S10 (zz_rf 3 (S10 1073 1)) 1 1 11 (zR_k3_1 (by omega)) (zB_k3 (by omega))
          have b37 := zz_rf6 (z := (12 * (S10 1073 1) + S10 (zz_rf 3 (S10 1073 1)) 1)) (by omega)
          have b38 := zz_rf3 (z := (S10 1073 1)) (by omega)
          have H_S31 : zz_Hc S31 := zz_Hc.fr (q := (S10 1073 1)) (z := 12 * (S10 1073 1) + S10 (zz_rf 3 (S10 1073 1)) 1) fS31 rfl rfl G_S10 (by omega) rfl (fun b j h => by omega) H_S10
          rcases (by omega : v32 = 0 ∨ v32 = 1) with rfl | rfl
          · refine zz_if_ne (by omega) zd_8_7_86 (fun c39 => ?_) (fun c39 => ?_)
            · exfalso; omega
            · refine zz_iconst zd_8_7_89 ?_
              exact zz_zret zd_8_7_90 rfl (by omega) (Nat.zero_le _) (Nat.zero_le _) ⟨_, _, rfl, G_S31, F_S31, by omega, H_S31⟩
          · refine zz_if_ne (by omega) zd_8_7_86 (fun c40 => ?_) (fun c40 => ?_)
            · refine zz_aload_n (x := 1073) rfl zd_8_7_91 ?_
              refine zz_dup rfl zd_8_7_92 ?_
              refine zz_geti (z := S 1073 8) zd_8_7_93 zf_NetworkReader_41 zT_1073 rfl (zz_ltn hn rfl) (zz_rc fS31 rfl rfl (by omega) (zz_rc fS10 rfl rfl (fun h => h) rfl)) ?_
              refine zz_iload_n (x := v23) rfl zd_8_7_96 ?_
              refine zz_ior (by omega) (by omega) zd_8_7_97 (fun v41 hv41 av41 ev41 => ?_)
              refine zz_puti zd_8_7_98 zf_NetworkReader_41 zT_1073 rfl (zz_ltn hn rfl) (fun S42 qS42 => ?_)
              have G_S42 := zz_G.put G_S31 qS42 (-2147483648) 2147483647 rfl (by omega)
              have F_S42 := zz_fr.puts F_S31 qS42 rfl
              have H_S42 : zz_Hc S42 := zz_Hc.fr (q := 0) (zz_fr.put1 qS42) rfl rfl G_S31 (by decide) rfl (fun b j h => by omega) H_S31
              refine zz_iinc [some (.ref 1073), some (zi (x1 + 1)), some (zi v23)] zd_8_7_101 rfl rfl ?_
              refine zz_goto zd_8_7_104 ?_
              refine zz_less (ls1 := [some (.ref 1073), some (zi (x1 + 1))]) ⟨rfl, ⟨rfl, trivial⟩⟩ ?_
              exact k12 (x1 + 1) S42 G_S42 F_S42 (by omega) H_S42 (by omega)
            · exfalso; omega
    · refine zz_aload_n (x := 1073) rfl zd_8_7_36 ?_
      have g43 := zz_G.r G_S 1073 8 (-2147483648) 2147483647 rfl rfl
      refine zz_geti (z := S 1073 8) zd_8_7_37 zf_NetworkReader_41 zT_1073 rfl (zz_ltn hn rfl) (zz_rc fS10 rfl rfl (fun h => h) rfl) ?_
      refine zz_aload_n (x := 1073) rfl zd_8_7_40 ?_
      have g44 := zz_G.r G_S0 1073 7 (-2147483648) 2147483647 rfl rfl
      refine zz_geti (z := S0 1073 7) zd_8_7_41 zf_NetworkReader_38 zT_1073 rfl (zz_ltn hn rfl) (zz_rc fS10 rfl rfl (fun h => h) (zz_rc F_S rfl rfl (fun h => h) rfl)) ?_
      refine zz_iand (by omega) (by omega) zd_8_7_44 (fun v45 hv45 av45 bv45 ev45 => ?_)
      refine zz_aload_n (x := 1073) rfl zd_8_7_45 ?_
      refine zz_geti (z := S0 1073 7) zd_8_7_46 zf_NetworkReader_38 zT_1073 rfl (zz_ltn hn rfl) (zz_rc fS10 rfl rfl (fun h => h) (zz_rc F_S rfl rfl (fun h => h) rfl)) ?_
      refine zz_icmp_ne (by omega) (by omega) zd_8_7_49 (fun c46 => ?_) (fun c46 => ?_)
      · refine zz_iconst zd_8_7_56 ?_
        exact zz_zret zd_8_7_57 rfl (by omega) (Nat.zero_le _) (Nat.zero_le _) ⟨_, _, rfl, G_S10, F_S10, by omega, H_S10⟩
      · refine zz_iconst zd_8_7_52 ?_
        refine zz_goto zd_8_7_53 ?_
        exact zz_zret zd_8_7_57 rfl (by omega) (Nat.zero_le _) (Nat.zero_le _) ⟨_, _, rfl, G_S10, F_S10, by omega, H_S10⟩
theorem zi_readOptions_8_7 {g : mm_G} {l : Launch}  (S0 : zz_S) (n : Nat) (hn : zz_end ≤ n) (G_S0 : zz_G S0) (H_S0 : zz_Hc S0) : ∀ N : Nat, (∀ (x1 : Int) (S : zz_S), zz_G S → zz_fr [(1070, 3), (1070, 4), (1070, 5), (1070, 6), (1073, 4), (1073, 5), (1073, 8)] [1003, 1004, 1005, 1006, 1007, 1008, 1009, 1010, 1011, 1012, 1013, 1014, 1017, 1018, 1019, 1020, 1021, 1022, 1023, 1024, 1025, 1026, 1027, 1028] (fun _ _ => False) S0 S → (0 ≤ x1 ∧ x1 ≤ 1501) → (zz_Hc S) → (1500 + 1 - x1).toNat < N → zz_E g l zy_readOptions_8_7 zr_readOptions_8_7 (zz_QI n (zp_readOptions_8_7  S0)) S n 12 [some (.ref 1073), some (zi x1)] [] 0 0) := by
  intro N
  induction N with
  | zero => exact fun x1 S _ _ _ _ h => absurd h (Nat.not_lt_zero _)
  | succ N ih =>
    exact fun x1 S a b j0 j1 hR => zb_readOptions_8_7_12  S0 n hn G_S0 H_S0 x1 S a b j0 j1 _ rfl (fun x1 S a b j0 j1 h => ih x1 S a b j0 j1 (Nat.lt_of_lt_of_le h (Nat.le_of_lt_succ hR)))
theorem zc_readOptions_8_7 {g : mm_G} {l : Launch}  (S0 : zz_S) (n : Nat) (hn : zz_end ≤ n) (G_S0 : zz_G S0) (H_S0 : zz_Hc S0) : mm_Met g l zy_readOptions_8_7 zr_readOptions_8_7 [.ref 1073] (zz_M S0 n) n (zz_QI n (zp_readOptions_8_7  S0)) := by
  refine zz_enter (by decide) (Nat.le_of_ble_eq_true rfl) (zz_less (ls1 := [some (.ref 1073)]) ⟨rfl, trivial⟩ ?_)
  have F_S0 : zz_fr [(1070, 3), (1070, 4), (1070, 5), (1070, 6), (1073, 4), (1073, 5), (1073, 8)] [1003, 1004, 1005, 1006, 1007, 1008, 1009, 1010, 1011, 1012, 1013, 1014, 1017, 1018, 1019, 1020, 1021, 1022, 1023, 1024, 1025, 1026, 1027, 1028] (fun _ _ => False) S0 S0 := zz_fr.refl
  have k12 : ∀ (x1 : Int) (S : zz_S), zz_G S → zz_fr [(1070, 3), (1070, 4), (1070, 5), (1070, 6), (1073, 4), (1073, 5), (1073, 8)] [1003, 1004, 1005, 1006, 1007, 1008, 1009, 1010, 1011, 1012, 1013, 1014, 1017, 1018, 1019, 1020, 1021, 1022, 1023, 1024, 1025, 1026, 1027, 1028] (fun _ _ => False) S0 S → (0 ≤ x1 ∧ x1 ≤ 1501) → (zz_Hc S) → zz_E g l zy_readOptions_8_7 zr_readOptions_8_7 (zz_QI n (zp_readOptions_8_7  S0)) S n 12 [some (.ref 1073), some (zi x1)] [] 0 0 := fun x1 S a b j0 j1 => (zi_readOptions_8_7 (g := g) (l := l)  S0 n hn G_S0 H_S0 _) x1 S a b j0 j1 (Nat.lt_succ_self _)
  refine zz_aload_n (x := 1073) rfl zd_8_7_0 ?_
  refine zz_iconst zd_8_7_1 ?_
  refine zz_puti zd_8_7_2 zf_NetworkReader_41 zT_1073 rfl (zz_ltn hn rfl) (fun S1 qS1 => ?_)
  have G_S1 := zz_G.put G_S0 qS1 (-2147483648) 2147483647 rfl (by omega)
  have F_S1 := zz_fr.puts F_S0 qS1 rfl
  have H_S1 : zz_Hc S1 := zz_Hc.fr (q := 0) (zz_fr.put1 qS1) rfl rfl G_S0 (by decide) rfl (fun b j h => by omega) H_S0
  refine zz_aload_n (x := 1073) rfl zd_8_7_5 ?_
  refine zz_iconst zd_8_7_6 ?_
  refine zz_puti zd_8_7_7 zf_NetworkReader_32 zT_1073 rfl (zz_ltn hn rfl) (fun S2 qS2 => ?_)
  have G_S2 := zz_G.put G_S1 qS2 (-1500) 1500 rfl (by omega)
  have F_S2 := zz_fr.puts F_S1 qS2 rfl
  have H_S2 : zz_Hc S2 := zz_Hc.fr (q := 0) (zz_fr.put1 qS2) rfl rfl G_S1 (by decide) rfl (fun b j h => by omega) H_S1
  refine zz_iconst zd_8_7_10 ?_
  refine zz_istore_n [some (.ref 1073), some (zi 0)] zd_8_7_11 (by decide) rfl ?_
  refine zz_less (ls1 := [some (.ref 1073), some (zi 0)]) ⟨rfl, ⟨rfl, trivial⟩⟩ ?_
  exact k12 0 S2 G_S2 F_S2 (by omega) H_S2
theorem zk_NetworkReader_68 : mm_Vl "TensorForge$NetworkReader" 68 8 0 zy_readOptions_8_7 := ⟨zyw_readOptions_8_7, (R_NetworkReader, F_NetworkReader, 9), rfl, mm_tb_1 945 (by decide +kernel) rfl, mm_tb_1 947 (by decide +kernel) rfl, mm_tb_s 44 (by decide +kernel) rfl⟩
theorem zf_NetworkReader_78 : mm_Fl "TensorForge$NetworkReader" 78 1 1 .int false := ⟨R_Network, F_Network, 2, t_Network, rfl, i_Network, by decide, mm_tb_1 147 (by decide +kernel) rfl, rfl, t_Network_ok, n_Network, rfl, by decide +kernel⟩
abbrev zy_keepName_8_13 : mm_Y := (⟨"TensorForge$NetworkReader", "keepName", "(I)V"⟩, prog_8_method_13_code, 2, none)
theorem zyw_keepName_8_13 : mm_Yw zy_keepName_8_13 1 := ⟨mm_tb_1 1039 (by decide +kernel) rfl, mm_tb_1 9 (by decide +kernel) rfl, ⟨by decide, by decide⟩, by decide +kernel⟩
theorem zg_8_2_105 : (decode zy_readInto_8_2.2.1 105 = .ok ((Instr.ifCond .eq) 7, 3)) ∧ (decode zy_readInto_8_2.2.1 108 = .ok ((.iconst 1), 1)) ∧ (decode zy_readInto_8_2.2.1 109 = .ok (Instr.goto 4, 3)) ∧ (decode zy_readInto_8_2.2.1 122 = .ok ((.iconst 1), 1)) ∧ (decode zy_readInto_8_2.2.1 123 = .ok ((.istore_n 2), 1)) ∧ (decode zy_readInto_8_2.2.1 124 = .ok ((.aload_n 0), 1)) ∧ (decode zy_readInto_8_2.2.1 125 = .ok ((.aload_n 0), 1)) ∧ (decode zy_readInto_8_2.2.1 126 = .ok ((.getfield 15), 3)) ∧ (decode zy_readInto_8_2.2.1 129 = .ok ((.getfield 78), 3)) ∧ (decode zy_readInto_8_2.2.1 132 = .ok ((.iconst 1), 1)) := by decide +kernel
theorem zd_8_2_105 : zz_B zy_readInto_8_2 105 (Instr.ifCond .eq) 112 108 := ⟨7, zg_8_2_105.1, rfl, rfl⟩
theorem zd_8_2_108 : zz_D zy_readInto_8_2 108 (.iconst 1) 1 109 := ⟨zg_8_2_105.2.1, rfl⟩
theorem zd_8_2_109 : zz_B zy_readInto_8_2 109 Instr.goto 113 112 := ⟨4, zg_8_2_105.2.2.1, rfl, rfl⟩
theorem zd_8_2_122 : zz_D zy_readInto_8_2 122 (.iconst 1) 1 123 := ⟨zg_8_2_105.2.2.2.1, rfl⟩
theorem zd_8_2_123 : zz_D zy_readInto_8_2 123 (.istore_n 2) 1 124 := ⟨zg_8_2_105.2.2.2.2.1, rfl⟩
theorem zd_8_2_124 : zz_D zy_readInto_8_2 124 (.aload_n 0) 1 125 := ⟨zg_8_2_105.2.2.2.2.2.1, rfl⟩
theorem zd_8_2_125 : zz_D zy_readInto_8_2 125 (.aload_n 0) 1 126 := ⟨zg_8_2_105.2.2.2.2.2.2.1, rfl⟩
theorem zd_8_2_126 : zz_D zy_readInto_8_2 126 (.getfield 15) 3 129 := ⟨zg_8_2_105.2.2.2.2.2.2.2.1, rfl⟩
theorem zd_8_2_129 : zz_D zy_readInto_8_2 129 (.getfield 78) 3 132 := ⟨zg_8_2_105.2.2.2.2.2.2.2.2.1, rfl⟩
theorem zd_8_2_132 : zz_D zy_readInto_8_2 132 (.iconst 1) 1 133 := ⟨zg_8_2_105.2.2.2.2.2.2.2.2.2, rfl⟩
theorem zg_8_2_133 : (decode zy_readInto_8_2.2.1 133 = .ok ((.isub), 1)) ∧ (decode zy_readInto_8_2.2.1 134 = .ok ((.invokevirtual 81), 3)) := by decide +kernel
theorem zd_8_2_133 : zz_D zy_readInto_8_2 133 (.isub) 1 134 := ⟨zg_8_2_133.1, rfl⟩
theorem zd_8_2_134 : zz_D zy_readInto_8_2 134 (.invokevirtual 81) 3 137 := ⟨zg_8_2_133.2, rfl⟩
theorem zg_8_13_0 : (decode zy_keepName_8_13.2.1 0 = .ok ((.iload_n 1), 1)) ∧ (decode zy_keepName_8_13.2.1 1 = .ok ((Instr.ifCond .lt) 32, 3)) ∧ (decode zy_keepName_8_13.2.1 33 = .ok ((.return_), 1)) ∧ (decode zy_keepName_8_13.2.1 4 = .ok ((.iload_n 1), 1)) ∧ (decode zy_keepName_8_13.2.1 5 = .ok ((.aload_n 0), 1)) ∧ (decode zy_keepName_8_13.2.1 6 = .ok ((.getfield 25), 3)) ∧ (decode zy_keepName_8_13.2.1 9 = .ok ((.arraylength), 1)) ∧ (decode zy_keepName_8_13.2.1 10 = .ok ((Instr.if_icmp .ge) 23, 3)) ∧ (decode zy_keepName_8_13.2.1 13 = .ok ((.aload_n 0), 1)) ∧ (decode zy_keepName_8_13.2.1 14 = .ok ((.getfield 21), 3)) := by decide +kernel
theorem zd_8_13_0 : zz_D zy_keepName_8_13 0 (.iload_n 1) 1 1 := ⟨zg_8_13_0.1, rfl⟩
theorem zd_8_13_1 : zz_B zy_keepName_8_13 1 (Instr.ifCond .lt) 33 4 := ⟨32, zg_8_13_0.2.1, rfl, rfl⟩
theorem zd_8_13_33 : zz_D zy_keepName_8_13 33 (.return_) 1 34 := ⟨zg_8_13_0.2.2.1, rfl⟩
theorem zd_8_13_4 : zz_D zy_keepName_8_13 4 (.iload_n 1) 1 5 := ⟨zg_8_13_0.2.2.2.1, rfl⟩
theorem zd_8_13_5 : zz_D zy_keepName_8_13 5 (.aload_n 0) 1 6 := ⟨zg_8_13_0.2.2.2.2.1, rfl⟩
theorem zd_8_13_6 : zz_D zy_keepName_8_13 6 (.getfield 25) 3 9 := ⟨zg_8_13_0.2.2.2.2.2.1, rfl⟩
theorem zd_8_13_9 : zz_D zy_keepName_8_13 9 (.arraylength) 1 10 := ⟨zg_8_13_0.2.2.2.2.2.2.1, rfl⟩
theorem zd_8_13_10 : zz_B zy_keepName_8_13 10 (Instr.if_icmp .ge) 33 13 := ⟨23, zg_8_13_0.2.2.2.2.2.2.2.1, rfl, rfl⟩
theorem zd_8_13_13 : zz_D zy_keepName_8_13 13 (.aload_n 0) 1 14 := ⟨zg_8_13_0.2.2.2.2.2.2.2.2.1, rfl⟩
theorem zd_8_13_14 : zz_D zy_keepName_8_13 14 (.getfield 21) 3 17 := ⟨zg_8_13_0.2.2.2.2.2.2.2.2.2, rfl⟩
theorem zg_8_13_17 : (decode zy_keepName_8_13.2.1 17 = .ok ((.iload_n 1), 1)) ∧ (decode zy_keepName_8_13.2.1 18 = .ok ((.aload_n 0), 1)) ∧ (decode zy_keepName_8_13.2.1 19 = .ok ((.getfield 28), 3)) ∧ (decode zy_keepName_8_13.2.1 22 = .ok ((.iastore), 1)) ∧ (decode zy_keepName_8_13.2.1 23 = .ok ((.aload_n 0), 1)) ∧ (decode zy_keepName_8_13.2.1 24 = .ok ((.getfield 25), 3)) ∧ (decode zy_keepName_8_13.2.1 27 = .ok ((.iload_n 1), 1)) ∧ (decode zy_keepName_8_13.2.1 28 = .ok ((.aload_n 0), 1)) ∧ (decode zy_keepName_8_13.2.1 29 = .ok ((.getfield 32), 3)) ∧ (decode zy_keepName_8_13.2.1 32 = .ok ((.iastore), 1)) := by decide +kernel
theorem zd_8_13_17 : zz_D zy_keepName_8_13 17 (.iload_n 1) 1 18 := ⟨zg_8_13_17.1, rfl⟩
theorem zd_8_13_18 : zz_D zy_keepName_8_13 18 (.aload_n 0) 1 19 := ⟨zg_8_13_17.2.1, rfl⟩
theorem zd_8_13_19 : zz_D zy_keepName_8_13 19 (.getfield 28) 3 22 := ⟨zg_8_13_17.2.2.1, rfl⟩
theorem zd_8_13_22 : zz_D zy_keepName_8_13 22 (.iastore) 1 23 := ⟨zg_8_13_17.2.2.2.1, rfl⟩
theorem zd_8_13_23 : zz_D zy_keepName_8_13 23 (.aload_n 0) 1 24 := ⟨zg_8_13_17.2.2.2.2.1, rfl⟩
theorem zd_8_13_24 : zz_D zy_keepName_8_13 24 (.getfield 25) 3 27 := ⟨zg_8_13_17.2.2.2.2.2.1, rfl⟩
theorem zd_8_13_27 : zz_D zy_keepName_8_13 27 (.iload_n 1) 1 28 := ⟨zg_8_13_17.2.2.2.2.2.2.1, rfl⟩
theorem zd_8_13_28 : zz_D zy_keepName_8_13 28 (.aload_n 0) 1 29 := ⟨zg_8_13_17.2.2.2.2.2.2.2.1, rfl⟩
theorem zd_8_13_29 : zz_D zy_keepName_8_13 29 (.getfield 32) 3 32 := ⟨zg_8_13_17.2.2.2.2.2.2.2.2.1, rfl⟩
theorem zd_8_13_32 : zz_D zy_keepName_8_13 32 (.iastore) 1 33 := ⟨zg_8_13_17.2.2.2.2.2.2.2.2.2, rfl⟩
-- TensorForge$NetworkReader keepName (I)V
abbrev zr_keepName_8_13 : Room := { frames := 0, cells := 0, slots := 0, locals := 0 }
def zp_keepName_8_13 (p0 : Int) (S0 : zz_S) : zz_S → Prop := fun S => zz_G S ∧ zz_fr [] [1074, 1075] (fun _ _ => False) S0 S
theorem zc_keepName_8_13 {g : mm_G} {l : Launch} (p0 : Int) (S0 : zz_S) (n : Nat) (hn : zz_end ≤ n) (G_S0 : zz_G S0) (hp0 : (-2147483648) ≤ p0 ∧ p0 ≤ 2147483647) : mm_Met g l zy_keepName_8_13 zr_keepName_8_13 [.ref 1073, zi p0] (zz_M S0 n) n (zz_QV n (zp_keepName_8_13 p0 S0)) := by
  refine zz_enter (by decide) (Nat.le_of_ble_eq_true rfl) (zz_less (ls1 := [some (.ref 1073), some (zi p0)]) ⟨rfl, ⟨rfl, trivial⟩⟩ ?_)
  have F_S0 : zz_fr [] [1074, 1075] (fun _ _ => False) S0 S0 := zz_fr.refl
  refine zz_iload_n (x := p0) rfl zd_8_13_0 ?_
  refine zz_if_lt (by omega) zd_8_13_1 (fun c1 => ?_) (fun c1 => ?_)
  · exact zz_vret zd_8_13_33 rfl (Nat.zero_le _) (Nat.zero_le _) ⟨_, rfl, G_S0, F_S0⟩
  · refine zz_iload_n (x := p0) rfl zd_8_13_4 ?_
    refine zz_aload_n (x := 1073) rfl zd_8_13_5 ?_
    refine zz_getr (kd := 0) (z := 1075) zd_8_13_6 zf_NetworkReader_25 zT_1073 rfl (zz_ltn hn rfl) (zz_G.eq G_S0 1073 3 1075 rfl rfl) (by decide) 1075 rfl ?_
    refine zz_alen zd_8_13_9 zT_1075 rfl (zz_ltn hn rfl) ?_
    refine zz_icmp_ge (by omega) (by omega) zd_8_13_10 (fun c2 => ?_) (fun c2 => ?_)
    · exact zz_vret zd_8_13_33 rfl (Nat.zero_le _) (Nat.zero_le _) ⟨_, rfl, G_S0, F_S0⟩
    · refine zz_aload_n (x := 1073) rfl zd_8_13_13 ?_
      refine zz_getr (kd := 0) (z := 1074) zd_8_13_14 zf_NetworkReader_21 zT_1073 rfl (zz_ltn hn rfl) (zz_G.eq G_S0 1073 2 1074 rfl rfl) (by decide) 1074 rfl ?_
      refine zz_iload_n (x := p0) rfl zd_8_13_17 ?_
      refine zz_aload_n (x := 1073) rfl zd_8_13_18 ?_
      have g3 := zz_G.r G_S0 1073 4 0 1500 rfl rfl
      refine zz_geti (z := S0 1073 4) zd_8_13_19 zf_NetworkReader_28 zT_1073 rfl (zz_ltn hn rfl) rfl ?_
      refine zz_iast zd_8_13_22 zT_1074 rfl (zz_ltn hn rfl) (by decide) (by omega) (fun S4 qS4 => ?_)
      have G_S4 := zz_G.put G_S0 qS4 0 1500 rfl (by omega)
      have F_S4 := zz_fr.putc F_S0 qS4 rfl
      refine zz_aload_n (x := 1073) rfl zd_8_13_23 ?_
      refine zz_getr (kd := 0) (z := 1075) zd_8_13_24 zf_NetworkReader_25 zT_1073 rfl (zz_ltn hn rfl) (zz_G.eq G_S4 1073 3 1075 rfl rfl) (by decide) 1075 rfl ?_
      refine zz_iload_n (x := p0) rfl zd_8_13_27 ?_
      refine zz_aload_n (x := 1073) rfl zd_8_13_28 ?_
      have g5 := zz_G.r G_S0 1073 5 (-1500) 1500 rfl rfl
      refine zz_geti (z := S0 1073 5) zd_8_13_29 zf_NetworkReader_32 zT_1073 rfl (zz_ltn hn rfl) (zz_ro qS4 (fun h => absurd h.1 (by decide)) rfl) ?_
      refine zz_iast zd_8_13_32 zT_1075 rfl (zz_ltn hn rfl) (by decide) (by omega) (fun S6 qS6 => ?_)
      have G_S6 := zz_G.put G_S4 qS6 (-1500) 1500 rfl (by omega)
      have F_S6 := zz_fr.putc F_S4 qS6 rfl
      exact zz_vret zd_8_13_33 rfl (Nat.zero_le _) (Nat.zero_le _) ⟨_, rfl, G_S6, F_S6⟩
theorem zk_NetworkReader_81 : mm_Vl "TensorForge$NetworkReader" 81 8 1 zy_keepName_8_13 := ⟨zyw_keepName_8_13, (R_NetworkReader, F_NetworkReader, 9), rfl, mm_tb_1 1036 (by decide +kernel) rfl, mm_tb_1 1038 (by decide +kernel) rfl, mm_tb_s 52 (by decide +kernel) rfl⟩
abbrev zy_readLayer_8_4 : mm_Y := (⟨"TensorForge$NetworkReader", "readLayer", "()Z"⟩, prog_8_method_4_code, 4, (some .boolean))
theorem zyw_readLayer_8_4 : mm_Yw zy_readLayer_8_4 0 := ⟨mm_tb_1 923 (by decide +kernel) rfl, mm_tb_1 9 (by decide +kernel) rfl, ⟨by decide, by decide⟩, by decide +kernel⟩
abbrev zy_readTensor_8_5 : mm_Y := (⟨"TensorForge$NetworkReader", "readTensor", "()I"⟩, prog_8_method_5_code, 1, (some .int))
theorem zyw_readTensor_8_5 : mm_Yw zy_readTensor_8_5 0 := ⟨mm_tb_1 931 (by decide +kernel) rfl, mm_tb_1 9 (by decide +kernel) rfl, ⟨by decide, by decide⟩, by decide +kernel⟩
theorem zg_8_2_147 : (decode zy_readInto_8_2.2.1 147 = .ok ((.iconst (-1)), 1)) ∧ (decode zy_readInto_8_2.2.1 148 = .ok (Instr.goto 4, 3)) ∧ (decode zy_readInto_8_2.2.1 62 = .ok ((.aload_n 0), 1)) ∧ (decode zy_readInto_8_2.2.1 63 = .ok ((.invokevirtual 65), 3)) := by decide +kernel
theorem zd_8_2_147 : zz_D zy_readInto_8_2 147 (.iconst (-1)) 1 148 := ⟨zg_8_2_147.1, rfl⟩
theorem zd_8_2_148 : zz_B zy_readInto_8_2 148 Instr.goto 152 151 := ⟨4, zg_8_2_147.2.1, rfl, rfl⟩
theorem zd_8_2_62 : zz_D zy_readInto_8_2 62 (.aload_n 0) 1 63 := ⟨zg_8_2_147.2.2.1, rfl⟩
theorem zd_8_2_63 : zz_D zy_readInto_8_2 63 (.invokevirtual 65) 3 66 := ⟨zg_8_2_147.2.2.2, rfl⟩
theorem zg_8_4_0 : (decode zy_readLayer_8_4.2.1 0 = .ok ((.aload_n 0), 1)) ∧ (decode zy_readLayer_8_4.2.1 1 = .ok ((.getfield 9), 3)) ∧ (decode zy_readLayer_8_4.2.1 4 = .ok ((.ldc 110), 2)) ∧ (decode zy_readLayer_8_4.2.1 6 = .ok ((.invokevirtual 87), 3)) ∧ (decode zy_readLayer_8_4.2.1 9 = .ok ((Instr.ifCond .eq) 21, 3)) ∧ (decode zy_readLayer_8_4.2.1 30 = .ok ((.aload_n 0), 1)) ∧ (decode zy_readLayer_8_4.2.1 31 = .ok ((.getfield 9), 3)) ∧ (decode zy_readLayer_8_4.2.1 34 = .ok ((.ldc 114), 2)) ∧ (decode zy_readLayer_8_4.2.1 36 = .ok ((.invokevirtual 87), 3)) ∧ (decode zy_readLayer_8_4.2.1 39 = .ok ((Instr.ifCond .eq) 20, 3)) := by decide +kernel
theorem zd_8_4_0 : zz_D zy_readLayer_8_4 0 (.aload_n 0) 1 1 := ⟨zg_8_4_0.1, rfl⟩
theorem zd_8_4_1 : zz_D zy_readLayer_8_4 1 (.getfield 9) 3 4 := ⟨zg_8_4_0.2.1, rfl⟩
theorem zd_8_4_4 : zz_D zy_readLayer_8_4 4 (.ldc 110) 2 6 := ⟨zg_8_4_0.2.2.1, rfl⟩
theorem zd_8_4_6 : zz_D zy_readLayer_8_4 6 (.invokevirtual 87) 3 9 := ⟨zg_8_4_0.2.2.2.1, rfl⟩
theorem zd_8_4_9 : zz_B zy_readLayer_8_4 9 (Instr.ifCond .eq) 30 12 := ⟨21, zg_8_4_0.2.2.2.2.1, rfl, rfl⟩
theorem zd_8_4_30 : zz_D zy_readLayer_8_4 30 (.aload_n 0) 1 31 := ⟨zg_8_4_0.2.2.2.2.2.1, rfl⟩
theorem zd_8_4_31 : zz_D zy_readLayer_8_4 31 (.getfield 9) 3 34 := ⟨zg_8_4_0.2.2.2.2.2.2.1, rfl⟩
theorem zd_8_4_34 : zz_D zy_readLayer_8_4 34 (.ldc 114) 2 36 := ⟨zg_8_4_0.2.2.2.2.2.2.2.1, rfl⟩
theorem zd_8_4_36 : zz_D zy_readLayer_8_4 36 (.invokevirtual 87) 3 39 := ⟨zg_8_4_0.2.2.2.2.2.2.2.2.1, rfl⟩
theorem zd_8_4_39 : zz_B zy_readLayer_8_4 39 (Instr.ifCond .eq) 59 42 := ⟨20, zg_8_4_0.2.2.2.2.2.2.2.2.2, rfl, rfl⟩
theorem zg_8_4_59 : (decode zy_readLayer_8_4.2.1 59 = .ok ((.aload_n 0), 1)) ∧ (decode zy_readLayer_8_4.2.1 60 = .ok ((.getfield 9), 3)) ∧ (decode zy_readLayer_8_4.2.1 63 = .ok ((.ldc 116), 2)) ∧ (decode zy_readLayer_8_4.2.1 65 = .ok ((.invokevirtual 87), 3)) ∧ (decode zy_readLayer_8_4.2.1 68 = .ok ((Instr.ifCond .eq) 20, 3)) ∧ (decode zy_readLayer_8_4.2.1 88 = .ok ((.iconst 0), 1)) ∧ (decode zy_readLayer_8_4.2.1 89 = .ok ((.ireturn), 1)) ∧ (decode zy_readLayer_8_4.2.1 71 = .ok ((.iconst 3), 1)) ∧ (decode zy_readLayer_8_4.2.1 72 = .ok ((.istore_n 1), 1)) ∧ (decode zy_readLayer_8_4.2.1 73 = .ok ((.aload_n 0), 1)) := by decide +kernel
theorem zd_8_4_59 : zz_D zy_readLayer_8_4 59 (.aload_n 0) 1 60 := ⟨zg_8_4_59.1, rfl⟩
theorem zd_8_4_60 : zz_D zy_readLayer_8_4 60 (.getfield 9) 3 63 := ⟨zg_8_4_59.2.1, rfl⟩
theorem zd_8_4_63 : zz_D zy_readLayer_8_4 63 (.ldc 116) 2 65 := ⟨zg_8_4_59.2.2.1, rfl⟩
theorem zd_8_4_65 : zz_D zy_readLayer_8_4 65 (.invokevirtual 87) 3 68 := ⟨zg_8_4_59.2.2.2.1, rfl⟩
theorem zd_8_4_68 : zz_B zy_readLayer_8_4 68 (Instr.ifCond .eq) 88 71 := ⟨20, zg_8_4_59.2.2.2.2.1, rfl, rfl⟩
theorem zd_8_4_88 : zz_D zy_readLayer_8_4 88 (.iconst 0) 1 89 := ⟨zg_8_4_59.2.2.2.2.2.1, rfl⟩
theorem zd_8_4_89 : zz_D zy_readLayer_8_4 89 (.ireturn) 1 90 := ⟨zg_8_4_59.2.2.2.2.2.2.1, rfl⟩
theorem zd_8_4_71 : zz_D zy_readLayer_8_4 71 (.iconst 3) 1 72 := ⟨zg_8_4_59.2.2.2.2.2.2.2.1, rfl⟩
theorem zd_8_4_72 : zz_D zy_readLayer_8_4 72 (.istore_n 1) 1 73 := ⟨zg_8_4_59.2.2.2.2.2.2.2.2.1, rfl⟩
theorem zd_8_4_73 : zz_D zy_readLayer_8_4 73 (.aload_n 0) 1 74 := ⟨zg_8_4_59.2.2.2.2.2.2.2.2.2, rfl⟩
theorem zg_8_4_74 : (decode zy_readLayer_8_4.2.1 74 = .ok ((.sipush 224), 3)) ∧ (decode zy_readLayer_8_4.2.1 77 = .ok ((.putfield 35), 3)) ∧ (decode zy_readLayer_8_4.2.1 80 = .ok ((.aload_n 0), 1)) ∧ (decode zy_readLayer_8_4.2.1 81 = .ok ((.iconst 0), 1)) ∧ (decode zy_readLayer_8_4.2.1 82 = .ok ((.putfield 38), 3)) ∧ (decode zy_readLayer_8_4.2.1 85 = .ok (Instr.goto 5, 3)) ∧ (decode zy_readLayer_8_4.2.1 90 = .ok ((.aload_n 0), 1)) ∧ (decode zy_readLayer_8_4.2.1 91 = .ok ((.invokevirtual 118), 3)) := by decide +kernel
theorem zd_8_4_74 : zz_D zy_readLayer_8_4 74 (.sipush 224) 3 77 := ⟨zg_8_4_74.1, rfl⟩
theorem zd_8_4_77 : zz_D zy_readLayer_8_4 77 (.putfield 35) 3 80 := ⟨zg_8_4_74.2.1, rfl⟩
theorem zd_8_4_80 : zz_D zy_readLayer_8_4 80 (.aload_n 0) 1 81 := ⟨zg_8_4_74.2.2.1, rfl⟩
theorem zd_8_4_81 : zz_D zy_readLayer_8_4 81 (.iconst 0) 1 82 := ⟨zg_8_4_74.2.2.2.1, rfl⟩
theorem zd_8_4_82 : zz_D zy_readLayer_8_4 82 (.putfield 38) 3 85 := ⟨zg_8_4_74.2.2.2.2.1, rfl⟩
theorem zd_8_4_85 : zz_B zy_readLayer_8_4 85 Instr.goto 90 88 := ⟨5, zg_8_4_74.2.2.2.2.2.1, rfl, rfl⟩
theorem zd_8_4_90 : zz_D zy_readLayer_8_4 90 (.aload_n 0) 1 91 := ⟨zg_8_4_74.2.2.2.2.2.2.1, rfl⟩
theorem zd_8_4_91 : zz_D zy_readLayer_8_4 91 (.invokevirtual 118) 3 94 := ⟨zg_8_4_74.2.2.2.2.2.2.2, rfl⟩
theorem zg_8_5_0 : (decode zy_readTensor_8_5.2.1 0 = .ok ((.aload_n 0), 1)) ∧ (decode zy_readTensor_8_5.2.1 1 = .ok ((.getfield 9), 3)) ∧ (decode zy_readTensor_8_5.2.1 4 = .ok ((.invokevirtual 59), 3)) ∧ (decode zy_readTensor_8_5.2.1 7 = .ok ((.aload_n 0), 1)) ∧ (decode zy_readTensor_8_5.2.1 8 = .ok ((.getfield 9), 3)) ∧ (decode zy_readTensor_8_5.2.1 11 = .ok ((.getfield 62), 3)) ∧ (decode zy_readTensor_8_5.2.1 14 = .ok ((.iconst 2), 1)) ∧ (decode zy_readTensor_8_5.2.1 15 = .ok ((Instr.if_icmp .ne) 11, 3)) ∧ (decode zy_readTensor_8_5.2.1 26 = .ok ((.aload_n 0), 1)) ∧ (decode zy_readTensor_8_5.2.1 27 = .ok ((.getfield 9), 3)) := by decide +kernel
theorem zd_8_5_0 : zz_D zy_readTensor_8_5 0 (.aload_n 0) 1 1 := ⟨zg_8_5_0.1, rfl⟩
theorem zd_8_5_1 : zz_D zy_readTensor_8_5 1 (.getfield 9) 3 4 := ⟨zg_8_5_0.2.1, rfl⟩
theorem zd_8_5_4 : zz_D zy_readTensor_8_5 4 (.invokevirtual 59) 3 7 := ⟨zg_8_5_0.2.2.1, rfl⟩
theorem zd_8_5_7 : zz_D zy_readTensor_8_5 7 (.aload_n 0) 1 8 := ⟨zg_8_5_0.2.2.2.1, rfl⟩
theorem zd_8_5_8 : zz_D zy_readTensor_8_5 8 (.getfield 9) 3 11 := ⟨zg_8_5_0.2.2.2.2.1, rfl⟩
theorem zd_8_5_11 : zz_D zy_readTensor_8_5 11 (.getfield 62) 3 14 := ⟨zg_8_5_0.2.2.2.2.2.1, rfl⟩
theorem zd_8_5_14 : zz_D zy_readTensor_8_5 14 (.iconst 2) 1 15 := ⟨zg_8_5_0.2.2.2.2.2.2.1, rfl⟩
theorem zd_8_5_15 : zz_B zy_readTensor_8_5 15 (Instr.if_icmp .ne) 26 18 := ⟨11, zg_8_5_0.2.2.2.2.2.2.2.1, rfl, rfl⟩
theorem zd_8_5_26 : zz_D zy_readTensor_8_5 26 (.aload_n 0) 1 27 := ⟨zg_8_5_0.2.2.2.2.2.2.2.2.1, rfl⟩
theorem zd_8_5_27 : zz_D zy_readTensor_8_5 27 (.getfield 9) 3 30 := ⟨zg_8_5_0.2.2.2.2.2.2.2.2.2, rfl⟩
theorem zg_8_5_30 : (decode zy_readTensor_8_5.2.1 30 = .ok ((.getfield 62), 3)) ∧ (decode zy_readTensor_8_5.2.1 33 = .ok ((.iconst 1), 1)) ∧ (decode zy_readTensor_8_5.2.1 34 = .ok ((Instr.if_icmp .ne) 10, 3)) ∧ (decode zy_readTensor_8_5.2.1 44 = .ok ((.iconst (-1)), 1)) ∧ (decode zy_readTensor_8_5.2.1 45 = .ok ((.ireturn), 1)) ∧ (decode zy_readTensor_8_5.2.1 37 = .ok ((.aload_n 0), 1)) ∧ (decode zy_readTensor_8_5.2.1 38 = .ok ((.invokevirtual 128), 3)) ∧ (decode zy_readTensor_8_5.2.1 41 = .ok (Instr.goto 4, 3)) ∧ (decode zy_readTensor_8_5.2.1 18 = .ok ((.aload_n 0), 1)) ∧ (decode zy_readTensor_8_5.2.1 19 = .ok ((.getfield 9), 3)) := by decide +kernel
theorem zd_8_5_30 : zz_D zy_readTensor_8_5 30 (.getfield 62) 3 33 := ⟨zg_8_5_30.1, rfl⟩
theorem zd_8_5_33 : zz_D zy_readTensor_8_5 33 (.iconst 1) 1 34 := ⟨zg_8_5_30.2.1, rfl⟩
theorem zd_8_5_34 : zz_B zy_readTensor_8_5 34 (Instr.if_icmp .ne) 44 37 := ⟨10, zg_8_5_30.2.2.1, rfl, rfl⟩
theorem zd_8_5_44 : zz_D zy_readTensor_8_5 44 (.iconst (-1)) 1 45 := ⟨zg_8_5_30.2.2.2.1, rfl⟩
theorem zd_8_5_45 : zz_D zy_readTensor_8_5 45 (.ireturn) 1 46 := ⟨zg_8_5_30.2.2.2.2.1, rfl⟩
theorem zd_8_5_37 : zz_D zy_readTensor_8_5 37 (.aload_n 0) 1 38 := ⟨zg_8_5_30.2.2.2.2.2.1, rfl⟩
theorem zd_8_5_38 : zz_D zy_readTensor_8_5 38 (.invokevirtual 128) 3 41 := ⟨zg_8_5_30.2.2.2.2.2.2.1, rfl⟩
theorem zd_8_5_41 : zz_B zy_readTensor_8_5 41 Instr.goto 45 44 := ⟨4, zg_8_5_30.2.2.2.2.2.2.2.1, rfl, rfl⟩
theorem zd_8_5_18 : zz_D zy_readTensor_8_5 18 (.aload_n 0) 1 19 := ⟨zg_8_5_30.2.2.2.2.2.2.2.2.1, rfl⟩
theorem zd_8_5_19 : zz_D zy_readTensor_8_5 19 (.getfield 9) 3 22 := ⟨zg_8_5_30.2.2.2.2.2.2.2.2.2, rfl⟩
theorem zg_8_5_22 : (decode zy_readTensor_8_5.2.1 22 = .ok ((.getfield 94), 3)) ∧ (decode zy_readTensor_8_5.2.1 25 = .ok ((.ireturn), 1)) := by decide +kernel
theorem zd_8_5_22 : zz_D zy_readTensor_8_5 22 (.getfield 94) 3 25 := ⟨zg_8_5_22.1, rfl⟩
theorem zd_8_5_25 : zz_D zy_readTensor_8_5 25 (.ireturn) 1 26 := ⟨zg_8_5_22.2, rfl⟩
-- TensorForge$NetworkReader readTensor ()I
abbrev zr_readTensor_8_5 : Room := { frames := 2, cells := 0, slots := 0, locals := 28 }
def zp_readTensor_8_5  (S0 : zz_S) : Int → zz_S → Prop := fun r S => zz_G S ∧ zz_fr [(1070, 3), (1070, 4), (1070, 5), (1070, 6)] [] (fun _ _ => False) S0 S ∧ ((-2147483648) ≤ r ∧ r ≤ 2147483647)
theorem zc_readTensor_8_5 {g : mm_G} {l : Launch}  (S0 : zz_S) (n : Nat) (hn : zz_end ≤ n) (G_S0 : zz_G S0)  : mm_Met g l zy_readTensor_8_5 zr_readTensor_8_5 [.ref 1073] (zz_M S0 n) n (zz_QI n (zp_readTensor_8_5  S0)) := by
  refine zz_enter (by decide) (Nat.le_of_ble_eq_true rfl) (zz_less (ls1 := [some (.ref 1073)]) ⟨rfl, trivial⟩ ?_)
  have F_S0 : zz_fr [(1070, 3), (1070, 4), (1070, 5), (1070, 6)] [] (fun _ _ => False) S0 S0 := zz_fr.refl
  refine zz_aload_n (x := 1073) rfl zd_8_5_0 ?_
  refine zz_getr (kd := 0) (z := 1070) zd_8_5_1 zf_NetworkReader_9 zT_1073 rfl (zz_ltn hn rfl) (zz_G.eq G_S0 1073 0 1070 rfl rfl) (by decide) 1070 rfl ?_
  have g1 := zz_G.r G_S0 1070 2 (-1) 1500 rfl rfl
  have g2 := zz_G.r G_S0 1070 3 0 1500 rfl rfl
  refine zz_callVV [] zd_8_5_4 zk_NetworkReader_59 zT_1070 (zz_ltn hn rfl) rfl rfl ⟨Nat.le_of_ble_eq_true rfl, Nat.le_of_ble_eq_true rfl⟩ ⟨rfl, rfl⟩ (Nat.zero_le _) (Nat.zero_le _) (zc_nextToken_11_7  S0 n hn G_S0 ) (fun S3 hP => ?_)
  obtain ⟨G_S3, fS3, o5, o6, o7, o8, o9, o10, o11, o12⟩ := hP
  have F_S3 := zz_fr.trans F_S0 fS3 rfl zz_nv
  refine zz_aload_n (x := 1073) rfl zd_8_5_7 ?_
  refine zz_getr (kd := 0) (z := 1070) zd_8_5_8 zf_NetworkReader_9 zT_1073 rfl (zz_ltn hn rfl) (zz_G.eq G_S3 1073 0 1070 rfl rfl) (by decide) 1070 rfl ?_
  have g13 := zz_G.r G_S3 1070 4 (-2147483648) 2147483647 rfl rfl
  refine zz_geti (z := S3 1070 4) zd_8_5_11 zf_NetworkReader_62 zT_1070 rfl (zz_ltn hn rfl) rfl ?_
  refine zz_iconst zd_8_5_14 ?_
  refine zz_icmp_ne (by omega) (by omega) zd_8_5_15 (fun c14 => ?_) (fun c14 => ?_)
  · refine zz_aload_n (x := 1073) rfl zd_8_5_26 ?_
    refine zz_getr (kd := 0) (z := 1070) zd_8_5_27 zf_NetworkReader_9 zT_1073 rfl (zz_ltn hn rfl) (zz_G.eq G_S3 1073 0 1070 rfl rfl) (by decide) 1070 rfl ?_
    refine zz_geti (z := S3 1070 4) zd_8_5_30 zf_NetworkReader_62 zT_1070 rfl (zz_ltn hn rfl) rfl ?_
    refine zz_iconst zd_8_5_33 ?_
    refine zz_icmp_ne (by omega) (by omega) zd_8_5_34 (fun c15 => ?_) (fun c15 => ?_)
    · refine zz_iconst zd_8_5_44 ?_
      exact zz_iret zd_8_5_45 rfl (Nat.zero_le _) (Nat.zero_le _) ⟨_, _, rfl, G_S3, F_S3, by omega⟩
    · refine zz_aload_n (x := 1073) rfl zd_8_5_37 ?_
      refine zz_callVI [] zd_8_5_38 zk_NetworkReader_128 zT_1073 (zz_ltn hn rfl) rfl rfl ⟨Nat.le_of_ble_eq_true rfl, Nat.le_of_ble_eq_true rfl⟩ ⟨rfl, rfl⟩ (Nat.zero_le _) (Nat.zero_le _) (zc_tensorNamed_8_6  S3 n hn G_S3 ) (fun v17 S16 hP => ?_)
      obtain ⟨rfl, o18⟩ := hP
      refine zz_goto zd_8_5_41 ?_
      exact zz_iret zd_8_5_45 rfl (Nat.zero_le _) (Nat.zero_le _) ⟨_, _, rfl, G_S3, F_S3, by omega⟩
  · refine zz_aload_n (x := 1073) rfl zd_8_5_18 ?_
    refine zz_getr (kd := 0) (z := 1070) zd_8_5_19 zf_NetworkReader_9 zT_1073 rfl (zz_ltn hn rfl) (zz_G.eq G_S3 1073 0 1070 rfl rfl) (by decide) 1070 rfl ?_
    have g19 := zz_G.r G_S3 1070 6 (-2147483648) 2147483647 rfl rfl
    refine zz_geti (z := S3 1070 6) zd_8_5_22 zf_NetworkReader_94 zT_1070 rfl (zz_ltn hn rfl) rfl ?_
    exact zz_iret zd_8_5_25 rfl (Nat.zero_le _) (Nat.zero_le _) ⟨_, _, rfl, G_S3, F_S3, by omega⟩
theorem zk_NetworkReader_118 : mm_Vl "TensorForge$NetworkReader" 118 8 0 zy_readTensor_8_5 := ⟨zyw_readTensor_8_5, (R_NetworkReader, F_NetworkReader, 9), rfl, mm_tb_1 928 (by decide +kernel) rfl, mm_tb_1 930 (by decide +kernel) rfl, mm_tb_s 42 (by decide +kernel) rfl⟩
theorem zk_NetworkReader_125 : mm_Vl "TensorForge$NetworkReader" 125 2 3 zy_reset_4_2 := ⟨zyw_reset_4_2, (R_Layer, F_Layer, 15), rfl, mm_tb_1 944 (by decide +kernel) rfl, mm_tb_1 50 (by decide +kernel) rfl, mm_tb_1 51 (by decide +kernel) rfl⟩
theorem zg_8_4_94 : (decode zy_readLayer_8_4.2.1 94 = .ok ((.istore_n 2), 1)) ∧ (decode zy_readLayer_8_4.2.1 95 = .ok ((.iload_n 1), 1)) ∧ (decode zy_readLayer_8_4.2.1 96 = .ok ((.iconst 3), 1)) ∧ (decode zy_readLayer_8_4.2.1 97 = .ok ((Instr.if_icmp .ne) 10, 3)) ∧ (decode zy_readLayer_8_4.2.1 100 = .ok ((.aload_n 0), 1)) ∧ (decode zy_readLayer_8_4.2.1 101 = .ok ((.invokevirtual 118), 3)) ∧ (decode zy_readLayer_8_4.2.1 104 = .ok (Instr.goto 4, 3)) ∧ (decode zy_readLayer_8_4.2.1 108 = .ok ((.istore_n 3), 1)) ∧ (decode zy_readLayer_8_4.2.1 109 = .ok ((.aload_n 0), 1)) ∧ (decode zy_readLayer_8_4.2.1 110 = .ok ((.getfield 15), 3)) := by decide +kernel
theorem zd_8_4_94 : zz_D zy_readLayer_8_4 94 (.istore_n 2) 1 95 := ⟨zg_8_4_94.1, rfl⟩
theorem zd_8_4_95 : zz_D zy_readLayer_8_4 95 (.iload_n 1) 1 96 := ⟨zg_8_4_94.2.1, rfl⟩
theorem zd_8_4_96 : zz_D zy_readLayer_8_4 96 (.iconst 3) 1 97 := ⟨zg_8_4_94.2.2.1, rfl⟩
theorem zd_8_4_97 : zz_B zy_readLayer_8_4 97 (Instr.if_icmp .ne) 107 100 := ⟨10, zg_8_4_94.2.2.2.1, rfl, rfl⟩
theorem zd_8_4_100 : zz_D zy_readLayer_8_4 100 (.aload_n 0) 1 101 := ⟨zg_8_4_94.2.2.2.2.1, rfl⟩
theorem zd_8_4_101 : zz_D zy_readLayer_8_4 101 (.invokevirtual 118) 3 104 := ⟨zg_8_4_94.2.2.2.2.2.1, rfl⟩
theorem zd_8_4_104 : zz_B zy_readLayer_8_4 104 Instr.goto 108 107 := ⟨4, zg_8_4_94.2.2.2.2.2.2.1, rfl, rfl⟩
theorem zd_8_4_108 : zz_D zy_readLayer_8_4 108 (.istore_n 3) 1 109 := ⟨zg_8_4_94.2.2.2.2.2.2.2.1, rfl⟩
theorem zd_8_4_109 : zz_D zy_readLayer_8_4 109 (.aload_n 0) 1 110 := ⟨zg_8_4_94.2.2.2.2.2.2.2.2.1, rfl⟩
theorem zd_8_4_110 : zz_D zy_readLayer_8_4 110 (.getfield 15) 3 113 := ⟨zg_8_4_94.2.2.2.2.2.2.2.2.2, rfl⟩
theorem zg_8_4_113 : (decode zy_readLayer_8_4.2.1 113 = .ok ((.invokevirtual 121), 3)) ∧ (decode zy_readLayer_8_4.2.1 116 = .ok ((.iload_n 1), 1)) ∧ (decode zy_readLayer_8_4.2.1 117 = .ok ((.iload_n 2), 1)) ∧ (decode zy_readLayer_8_4.2.1 118 = .ok ((.iload_n 3), 1)) ∧ (decode zy_readLayer_8_4.2.1 119 = .ok ((.invokevirtual 125), 3)) ∧ (decode zy_readLayer_8_4.2.1 122 = .ok ((.iload_n 2), 1)) ∧ (decode zy_readLayer_8_4.2.1 123 = .ok ((.iconst (-1)), 1)) ∧ (decode zy_readLayer_8_4.2.1 124 = .ok ((Instr.if_icmp .eq) 12, 3)) ∧ (decode zy_readLayer_8_4.2.1 136 = .ok ((.iconst 0), 1)) ∧ (decode zy_readLayer_8_4.2.1 137 = .ok ((.ireturn), 1)) := by decide +kernel
theorem zd_8_4_113 : zz_D zy_readLayer_8_4 113 (.invokevirtual 121) 3 116 := ⟨zg_8_4_113.1, rfl⟩
theorem zd_8_4_116 : zz_D zy_readLayer_8_4 116 (.iload_n 1) 1 117 := ⟨zg_8_4_113.2.1, rfl⟩
theorem zd_8_4_117 : zz_D zy_readLayer_8_4 117 (.iload_n 2) 1 118 := ⟨zg_8_4_113.2.2.1, rfl⟩
theorem zd_8_4_118 : zz_D zy_readLayer_8_4 118 (.iload_n 3) 1 119 := ⟨zg_8_4_113.2.2.2.1, rfl⟩
theorem zd_8_4_119 : zz_D zy_readLayer_8_4 119 (.invokevirtual 125) 3 122 := ⟨zg_8_4_113.2.2.2.2.1, rfl⟩
theorem zd_8_4_122 : zz_D zy_readLayer_8_4 122 (.iload_n 2) 1 123 := ⟨zg_8_4_113.2.2.2.2.2.1, rfl⟩
theorem zd_8_4_123 : zz_D zy_readLayer_8_4 123 (.iconst (-1)) 1 124 := ⟨zg_8_4_113.2.2.2.2.2.2.1, rfl⟩
theorem zd_8_4_124 : zz_B zy_readLayer_8_4 124 (Instr.if_icmp .eq) 136 127 := ⟨12, zg_8_4_113.2.2.2.2.2.2.2.1, rfl, rfl⟩
theorem zd_8_4_136 : zz_D zy_readLayer_8_4 136 (.iconst 0) 1 137 := ⟨zg_8_4_113.2.2.2.2.2.2.2.2.1, rfl⟩
theorem zd_8_4_137 : zz_D zy_readLayer_8_4 137 (.ireturn) 1 138 := ⟨zg_8_4_113.2.2.2.2.2.2.2.2.2, rfl⟩
theorem zg_8_4_127 : (decode zy_readLayer_8_4.2.1 127 = .ok ((.iload_n 3), 1)) ∧ (decode zy_readLayer_8_4.2.1 128 = .ok ((.iconst (-1)), 1)) ∧ (decode zy_readLayer_8_4.2.1 129 = .ok ((Instr.if_icmp .eq) 7, 3)) ∧ (decode zy_readLayer_8_4.2.1 132 = .ok ((.iconst 1), 1)) ∧ (decode zy_readLayer_8_4.2.1 133 = .ok (Instr.goto 4, 3)) ∧ (decode zy_readLayer_8_4.2.1 42 = .ok ((.iconst 2), 1)) ∧ (decode zy_readLayer_8_4.2.1 43 = .ok ((.istore_n 1), 1)) ∧ (decode zy_readLayer_8_4.2.1 44 = .ok ((.aload_n 0), 1)) ∧ (decode zy_readLayer_8_4.2.1 45 = .ok ((.sipush 137), 3)) ∧ (decode zy_readLayer_8_4.2.1 48 = .ok ((.putfield 35), 3)) := by decide +kernel
theorem zd_8_4_127 : zz_D zy_readLayer_8_4 127 (.iload_n 3) 1 128 := ⟨zg_8_4_127.1, rfl⟩
theorem zd_8_4_128 : zz_D zy_readLayer_8_4 128 (.iconst (-1)) 1 129 := ⟨zg_8_4_127.2.1, rfl⟩
theorem zd_8_4_129 : zz_B zy_readLayer_8_4 129 (Instr.if_icmp .eq) 136 132 := ⟨7, zg_8_4_127.2.2.1, rfl, rfl⟩
theorem zd_8_4_132 : zz_D zy_readLayer_8_4 132 (.iconst 1) 1 133 := ⟨zg_8_4_127.2.2.2.1, rfl⟩
theorem zd_8_4_133 : zz_B zy_readLayer_8_4 133 Instr.goto 137 136 := ⟨4, zg_8_4_127.2.2.2.2.1, rfl, rfl⟩
theorem zd_8_4_42 : zz_D zy_readLayer_8_4 42 (.iconst 2) 1 43 := ⟨zg_8_4_127.2.2.2.2.2.1, rfl⟩
theorem zd_8_4_43 : zz_D zy_readLayer_8_4 43 (.istore_n 1) 1 44 := ⟨zg_8_4_127.2.2.2.2.2.2.1, rfl⟩
theorem zd_8_4_44 : zz_D zy_readLayer_8_4 44 (.aload_n 0) 1 45 := ⟨zg_8_4_127.2.2.2.2.2.2.2.1, rfl⟩
theorem zd_8_4_45 : zz_D zy_readLayer_8_4 45 (.sipush 137) 3 48 := ⟨zg_8_4_127.2.2.2.2.2.2.2.2.1, rfl⟩
theorem zd_8_4_48 : zz_D zy_readLayer_8_4 48 (.putfield 35) 3 51 := ⟨zg_8_4_127.2.2.2.2.2.2.2.2.2, rfl⟩
theorem zg_8_4_51 : (decode zy_readLayer_8_4.2.1 51 = .ok ((.aload_n 0), 1)) ∧ (decode zy_readLayer_8_4.2.1 52 = .ok ((.iconst 1), 1)) ∧ (decode zy_readLayer_8_4.2.1 53 = .ok ((.putfield 38), 3)) ∧ (decode zy_readLayer_8_4.2.1 56 = .ok (Instr.goto 34, 3)) ∧ (decode zy_readLayer_8_4.2.1 107 = .ok ((.iload_n 2), 1)) ∧ (decode zy_readLayer_8_4.2.1 12 = .ok ((.iconst 1), 1)) ∧ (decode zy_readLayer_8_4.2.1 13 = .ok ((.istore_n 1), 1)) ∧ (decode zy_readLayer_8_4.2.1 14 = .ok ((.aload_n 0), 1)) ∧ (decode zy_readLayer_8_4.2.1 15 = .ok ((.sipush 255), 3)) ∧ (decode zy_readLayer_8_4.2.1 18 = .ok ((.putfield 35), 3)) := by decide +kernel
theorem zd_8_4_51 : zz_D zy_readLayer_8_4 51 (.aload_n 0) 1 52 := ⟨zg_8_4_51.1, rfl⟩
theorem zd_8_4_52 : zz_D zy_readLayer_8_4 52 (.iconst 1) 1 53 := ⟨zg_8_4_51.2.1, rfl⟩
theorem zd_8_4_53 : zz_D zy_readLayer_8_4 53 (.putfield 38) 3 56 := ⟨zg_8_4_51.2.2.1, rfl⟩
theorem zd_8_4_56 : zz_B zy_readLayer_8_4 56 Instr.goto 90 59 := ⟨34, zg_8_4_51.2.2.2.1, rfl, rfl⟩
theorem zd_8_4_107 : zz_D zy_readLayer_8_4 107 (.iload_n 2) 1 108 := ⟨zg_8_4_51.2.2.2.2.1, rfl⟩
theorem zd_8_4_12 : zz_D zy_readLayer_8_4 12 (.iconst 1) 1 13 := ⟨zg_8_4_51.2.2.2.2.2.1, rfl⟩
theorem zd_8_4_13 : zz_D zy_readLayer_8_4 13 (.istore_n 1) 1 14 := ⟨zg_8_4_51.2.2.2.2.2.2.1, rfl⟩
theorem zd_8_4_14 : zz_D zy_readLayer_8_4 14 (.aload_n 0) 1 15 := ⟨zg_8_4_51.2.2.2.2.2.2.2.1, rfl⟩
theorem zd_8_4_15 : zz_D zy_readLayer_8_4 15 (.sipush 255) 3 18 := ⟨zg_8_4_51.2.2.2.2.2.2.2.2.1, rfl⟩
theorem zd_8_4_18 : zz_D zy_readLayer_8_4 18 (.putfield 35) 3 21 := ⟨zg_8_4_51.2.2.2.2.2.2.2.2.2, rfl⟩
theorem zg_8_4_21 : (decode zy_readLayer_8_4.2.1 21 = .ok ((.aload_n 0), 1)) ∧ (decode zy_readLayer_8_4.2.1 22 = .ok ((.bipush 7), 2)) ∧ (decode zy_readLayer_8_4.2.1 24 = .ok ((.putfield 38), 3)) ∧ (decode zy_readLayer_8_4.2.1 27 = .ok (Instr.goto 63, 3)) := by decide +kernel
theorem zd_8_4_21 : zz_D zy_readLayer_8_4 21 (.aload_n 0) 1 22 := ⟨zg_8_4_21.1, rfl⟩
theorem zd_8_4_22 : zz_D zy_readLayer_8_4 22 (.bipush 7) 2 24 := ⟨zg_8_4_21.2.1, rfl⟩
theorem zd_8_4_24 : zz_D zy_readLayer_8_4 24 (.putfield 38) 3 27 := ⟨zg_8_4_21.2.2.1, rfl⟩
theorem zd_8_4_27 : zz_B zy_readLayer_8_4 27 Instr.goto 90 30 := ⟨63, zg_8_4_21.2.2.2, rfl, rfl⟩
-- TensorForge$NetworkReader readLayer ()Z
abbrev zr_readLayer_8_4 : Room := { frames := 5, cells := 0, slots := 0, locals := 68 }
def zp_readLayer_8_4  (S0 : zz_S) : Int → zz_S → Prop := fun r S => zz_G S ∧ zz_fr [(1070, 3), (1070, 4), (1070, 5), (1070, 6), (1073, 6), (1073, 7)] [1003, 1004, 1005, 1006, 1007, 1008, 1009, 1010, 1011, 1012, 1013, 1014, 1017, 1018, 1019, 1020, 1021, 1022, 1023, 1024, 1025, 1026, 1027, 1028] (fun _ _ => False) S0 S ∧ (0 ≤ r ∧ r ≤ 1) ∧ (zz_Hc S)
theorem zc_readLayer_8_4 {g : mm_G} {l : Launch}  (S0 : zz_S) (n : Nat) (hn : zz_end ≤ n) (G_S0 : zz_G S0) (H_S0 : zz_Hc S0) : mm_Met g l zy_readLayer_8_4 zr_readLayer_8_4 [.ref 1073] (zz_M S0 n) n (zz_QI n (zp_readLayer_8_4  S0)) := by
  refine zz_enter (by decide) (Nat.le_of_ble_eq_true rfl) (zz_less (ls1 := [some (.ref 1073)]) ⟨rfl, trivial⟩ ?_)
  have F_S0 : zz_fr [(1070, 3), (1070, 4), (1070, 5), (1070, 6), (1073, 6), (1073, 7)] [1003, 1004, 1005, 1006, 1007, 1008, 1009, 1010, 1011, 1012, 1013, 1014, 1017, 1018, 1019, 1020, 1021, 1022, 1023, 1024, 1025, 1026, 1027, 1028] (fun _ _ => False) S0 S0 := zz_fr.refl
  refine zz_aload_n (x := 1073) rfl zd_8_4_0 ?_
  refine zz_getr (kd := 0) (z := 1070) zd_8_4_1 zf_NetworkReader_9 zT_1073 rfl (zz_ltn hn rfl) (zz_G.eq G_S0 1073 0 1070 rfl rfl) (by decide) 1070 rfl ?_
  refine zz_ldcs (t := 21) (by decide +kernel) (by decide) zd_8_4_4 ?_
  have g1 := zz_G.r G_S0 1070 3 0 1500 rfl rfl
  have g2 := zz_G.r G_S0 1070 4 (-2147483648) 2147483647 rfl rfl
  have g3 := zz_G.r G_S0 1070 5 0 1500 rfl rfl
  refine zz_callVI [.ref (100 + 21)] zd_8_4_6 zk_NetworkReader_87 zT_1070 (zz_ltn hn rfl) rfl rfl ⟨Nat.le_of_ble_eq_true rfl, Nat.le_of_ble_eq_true rfl⟩ ⟨rfl, rfl⟩ (Nat.zero_le _) (Nat.zero_le _) (zc_isWord_11_9 21 S0 n hn G_S0 (by omega)) (fun v5 S4 hP => ?_)
  obtain ⟨rfl, o6, o7⟩ := hP
  rcases (by omega : v5 = 0 ∨ v5 = 1) with rfl | rfl
  · refine zz_if_eq (by omega) zd_8_4_9 (fun c8 => ?_) (fun c8 => ?_)
    · refine zz_aload_n (x := 1073) rfl zd_8_4_30 ?_
      refine zz_getr (kd := 0) (z := 1070) zd_8_4_31 zf_NetworkReader_9 zT_1073 rfl (zz_ltn hn rfl) (zz_G.eq G_S0 1073 0 1070 rfl rfl) (by decide) 1070 rfl ?_
      refine zz_ldcs (t := 22) (by decide +kernel) (by decide) zd_8_4_34 ?_
      refine zz_callVI [.ref (100 + 22)] zd_8_4_36 zk_NetworkReader_87 zT_1070 (zz_ltn hn rfl) rfl rfl ⟨Nat.le_of_ble_eq_true rfl, Nat.le_of_ble_eq_true rfl⟩ ⟨rfl, rfl⟩ (Nat.zero_le _) (Nat.zero_le _) (zc_isWord_11_9 22 S0 n hn G_S0 (by omega)) (fun v10 S9 hP => ?_)
      obtain ⟨rfl, o11, o12⟩ := hP
      rcases (by omega : v10 = 0 ∨ v10 = 1) with rfl | rfl
      · refine zz_if_eq (by omega) zd_8_4_39 (fun c13 => ?_) (fun c13 => ?_)
        · refine zz_aload_n (x := 1073) rfl zd_8_4_59 ?_
          refine zz_getr (kd := 0) (z := 1070) zd_8_4_60 zf_NetworkReader_9 zT_1073 rfl (zz_ltn hn rfl) (zz_G.eq G_S0 1073 0 1070 rfl rfl) (by decide) 1070 rfl ?_
          refine zz_ldcs (t := 23) (by decide +kernel) (by decide) zd_8_4_63 ?_
          refine zz_callVI [.ref (100 + 23)] zd_8_4_65 zk_NetworkReader_87 zT_1070 (zz_ltn hn rfl) rfl rfl ⟨Nat.le_of_ble_eq_true rfl, Nat.le_of_ble_eq_true rfl⟩ ⟨rfl, rfl⟩ (Nat.zero_le _) (Nat.zero_le _) (zc_isWord_11_9 23 S0 n hn G_S0 (by omega)) (fun v15 S14 hP => ?_)
          obtain ⟨rfl, o16, o17⟩ := hP
          rcases (by omega : v15 = 0 ∨ v15 = 1) with rfl | rfl
          · refine zz_if_eq (by omega) zd_8_4_68 (fun c18 => ?_) (fun c18 => ?_)
            · refine zz_iconst zd_8_4_88 ?_
              exact zz_zret zd_8_4_89 rfl (by omega) (Nat.zero_le _) (Nat.zero_le _) ⟨_, _, rfl, G_S0, F_S0, by omega, H_S0⟩
            · exfalso; omega
          · refine zz_if_eq (by omega) zd_8_4_68 (fun c19 => ?_) (fun c19 => ?_)
            · exfalso; omega
            · refine zz_iconst zd_8_4_71 ?_
              refine zz_istore_n [some (.ref 1073), some (zi 3)] zd_8_4_72 (by decide) rfl ?_
              refine zz_aload_n (x := 1073) rfl zd_8_4_73 ?_
              refine zz_sipush (by decide) zd_8_4_74 ?_
              refine zz_puti zd_8_4_77 zf_NetworkReader_35 zT_1073 rfl (zz_ltn hn rfl) (fun S20 qS20 => ?_)
              have G_S20 := zz_G.put G_S0 qS20 (-2147483648) 2147483647 rfl (by omega)
              have F_S20 := zz_fr.puts F_S0 qS20 rfl
              have H_S20 : zz_Hc S20 := zz_Hc.fr (q := 0) (zz_fr.put1 qS20) rfl rfl G_S0 (by decide) rfl (fun b j h => by omega) H_S0
              refine zz_aload_n (x := 1073) rfl zd_8_4_80 ?_
              refine zz_iconst zd_8_4_81 ?_
              refine zz_puti zd_8_4_82 zf_NetworkReader_38 zT_1073 rfl (zz_ltn hn rfl) (fun S21 qS21 => ?_)
              have G_S21 := zz_G.put G_S20 qS21 (-2147483648) 2147483647 rfl (by omega)
              have F_S21 := zz_fr.puts F_S20 qS21 rfl
              have H_S21 : zz_Hc S21 := zz_Hc.fr (q := 0) (zz_fr.put1 qS21) rfl rfl G_S20 (by decide) rfl (fun b j h => by omega) H_S20
              refine zz_goto zd_8_4_85 ?_
              refine zz_aload_n (x := 1073) rfl zd_8_4_90 ?_
              refine zz_callVI [] zd_8_4_91 zk_NetworkReader_118 zT_1073 (zz_ltn hn rfl) rfl rfl ⟨Nat.le_of_ble_eq_true rfl, Nat.le_of_ble_eq_true rfl⟩ ⟨rfl, rfl⟩ (Nat.zero_le _) (Nat.zero_le _) (zc_readTensor_8_5  S21 n hn G_S21 ) (fun v23 S22 hP => ?_)
              obtain ⟨G_S22, fS22, o24⟩ := hP
              have F_S22 := zz_fr.trans F_S21 fS22 rfl zz_nv
              have H_S22 : zz_Hc S22 := zz_Hc.fr (q := 0) fS22 rfl rfl G_S21 (by decide) rfl (fun b j h => h.elim) H_S21
              refine zz_istore_n [some (.ref 1073), some (zi 3), some (zi v23)] zd_8_4_94 (by decide) rfl ?_
              refine zz_iload_n (x := 3) rfl zd_8_4_95 ?_
              refine zz_iconst zd_8_4_96 ?_
              refine zz_icmp_ne (by omega) (by omega) zd_8_4_97 (fun c25 => ?_) (fun c25 => ?_)
              · exfalso; omega
              · refine zz_aload_n (x := 1073) rfl zd_8_4_100 ?_
                refine zz_callVI [] zd_8_4_101 zk_NetworkReader_118 zT_1073 (zz_ltn hn rfl) rfl rfl ⟨Nat.le_of_ble_eq_true rfl, Nat.le_of_ble_eq_true rfl⟩ ⟨rfl, rfl⟩ (Nat.zero_le _) (Nat.zero_le _) (zc_readTensor_8_5  S22 n hn G_S22 ) (fun v27 S26 hP => ?_)
                obtain ⟨G_S26, fS26, o28⟩ := hP
                have F_S26 := zz_fr.trans F_S22 fS26 rfl zz_nv
                have H_S26 : zz_Hc S26 := zz_Hc.fr (q := 0) fS26 rfl rfl G_S22 (by decide) rfl (fun b j h => h.elim) H_S22
                refine zz_goto zd_8_4_104 ?_
                refine zz_istore_n [some (.ref 1073), some (zi 3), some (zi v23), some (zi v27)] zd_8_4_108 (by decide) rfl ?_
                refine zz_aload_n (x := 1073) rfl zd_8_4_109 ?_
                have g29 := zz_G.r G_S0 1073 1 0 1 rfl rfl
                refine zz_getr (kd := 1) (z := S0 1073 1) zd_8_4_110 zf_NetworkReader_15 zT_1073 rfl (zz_ltn hn rfl) (zz_rc fS26 rfl rfl (fun h => h) (zz_rc fS22 rfl rfl (fun h => h) (zz_ro qS21 (fun h => absurd h.2 (by decide)) (zz_ro qS20 (fun h => absurd h.2 (by decide)) rfl)))) (by omega) (zz_rf 3 (S0 1073 1)) rfl ?_
                have e30 : S26 (zz_rf 3 (S0 1073 1)) 1 = S0 (zz_rf 3 (S0 1073 1)) 1 := (zz_rc fS26 (zP_k3 (by omega) rfl) (zQ_k3 (by omega) rfl) (fun h => h) (zz_rc fS22 (zP_k3 (by omega) rfl) (zQ_k3 (by omega) rfl) (fun h => h) (zz_ro qS21 (fun h => absurd h.2 (by decide)) (zz_ro qS20 (fun h => absurd h.2 (by decide)) rfl))))
                refine zz_callVA [] zd_8_4_113 zk_NetworkReader_121 (zT_k3 (by omega)) (zN_k3 hn (by omega)) rfl rfl ⟨Nat.le_of_ble_eq_true rfl, Nat.le_of_ble_eq_true rfl⟩ ⟨rfl, rfl⟩ (Nat.zero_le _) (Nat.zero_le _) (zc_draft_7_6 (S0 1073 1) S26 n hn G_S26 (by omega)) (fun v32 S31 hP => ?_)
                obtain ⟨rfl, o33, o34⟩ := hP
                subst o33
                refine zz_iload_n (x := 3) rfl zd_8_4_116 ?_
                refine zz_iload_n (x := v23) rfl zd_8_4_117 ?_
                refine zz_iload_n (x := v27) rfl zd_8_4_118 ?_
                refine zz_callVV [zi 3, zi v23, zi v27] zd_8_4_119 zk_NetworkReader_125 (zT_k6 (by omega)) (zN_k6 hn (by omega)) rfl rfl ⟨Nat.le_of_ble_eq_true rfl, Nat.le_of_ble_eq_true rfl⟩ ⟨rfl, rfl⟩ (Nat.zero_le _) (Nat.zero_le _) (zc_reset_4_2 (12 * (S0 1073 1) + S26 (zz_rf 3 (S0 1073 1)) 1) 3 v23 v27 S26 n hn G_S26 (by omega) (by omega) (by omega) (by omega)) (fun S35 hP => ?_)
                obtain ⟨G_S35, fS35, o37⟩ := hP
                have g38 := zz_G.r G_S0 1073 1 0 1 rfl rfl
                have b39 := zz_G.r G_S26 (zz_rf 3 (S0 1073 1)) 1 1 11 (zR_k3_1 (by omega)) (zB_k3 (by omega))
                have F_S35 := zz_fr.trans F_S26 fS35 rfl (fun a i h => by rcases h with h | h | h | h | h | h | h | h | h | h | h | h | h | h | h; exact Or.inr (Or.inl (h.1 ▸ zM_k6 (z := (12 * (S0 1073 1) + S26 (zz_rf 3 (S0 1073 1)) 1)) (by omega) rfl)); exact Or.inr (Or.inl (h.1 ▸ zM_k6 (z := (12 * (S0 1073 1) + S26 (zz_rf 3 (S0 1073 1)) 1)) (by omega) rfl)); exact Or.inr (Or.inl (h.1 ▸ zM_k6 (z := (12 * (S0 1073 1) + S26 (zz_rf 3 (S0 1073 1)) 1)) (by omega) rfl)); exact Or.inr (Or.inl (h.1 ▸ zM_k6 (z := (12 * (S0 1073 1) + S26 (zz_rf 3 (S0 1073 1)) 1)) (by omega) rfl)); exact Or.inr (Or.inl (h.1 ▸ zM_k6 (z := (12 * (S0 1073 1) + S26 (zz_rf 3 (S0 1073 1)) 1)) (by omega) rfl)); exact Or.inr (Or.inl (h.1 ▸ zM_k6 (z := (12 * (S0 1073 1) + S26 (zz_rf 3 (S0 1073 1)) 1)) (by omega) rfl)); exact Or.inr (Or.inl (h.1 ▸ zM_k6 (z := (12 * (S0 1073 1) + S26 (zz_rf 3 (S0 1073 1)) 1)) (by omega) rfl)); exact Or.inr (Or.inl (h.1 ▸ zM_k6 (z := (12 * (S0 1073 1) + S26 (zz_rf 3 (S0 1073 1)) 1)) (by omega) rfl)); exact Or.inr (Or.inl (h.1 ▸ zM_k6 (z := (12 * (S0 1073 1) + S26 (zz_rf 3 (S0 1073 1)) 1)) (by omega) rfl)); exact Or.inr (Or.inl (h.1 ▸ zM_k6 (z := (12 * (S0 1073 1) + S26 (zz_rf 3 (S0 1073 1)) 1)) (by omega) rfl)); exact Or.inr (Or.inl (h.1 ▸ zM_k6 (z := (12 * (S0 1073 1) + S26 (zz_rf 3 (S0 1073 1)) 1)) (by omega) rfl)); exact Or.inr (Or.inl (h.1 ▸ zM_k6 (z := (12 * (S0 1073 1) + S26 (zz_rf 3 (S0 1073 1)) 1)) (by omega) rfl)); exact Or.inr (Or.inl (h.1 ▸ zM_k6 (z := (12 * (S0 1073 1) + S26 (zz_rf 3 (S0 1073 1)) 1)) (by omega) rfl)); exact Or.inr (Or.inl (h.1 ▸ zM_k6 (z := (12 * (S0 1073 1) + S26 (zz_rf 3 (S0 1073 1)) 1)) (by omega) rfl)); exact Or.inr (Or.inl (h.1 ▸ zM_k6 (z := (12 * (S0 1073 1) + S26 (zz_rf 3 (S0 1073 1)) 1)) (by omega) rfl)))
                have b40 := zz_G.r G_S26 (zz_rf 3 (S0 1073 1)) 1 1 11 (zR_k3_1 (by omega)) (zB_k3 (by omega))
                have b41 := zz_rf6 (z := (12 * (S0 1073 1) + S26 (zz_rf 3 (S0 1073 1)) 1)) (by omega)
                have b42 := zz_rf3 (z := (S0 1073 1)) (by omega)
                have H_S35 : zz_Hc S35 := zz_Hc.fr (q := (S0 1073 1)) (z := 12 * (S0 1073 1) + S26 (zz_rf 3 (S0 1073 1)) 1) fS35 rfl rfl G_S26 (by omega) rfl (fun b j h => by omega) H_S26
                refine zz_iload_n (x := v23) rfl zd_8_4_122 ?_
                refine zz_iconst zd_8_4_123 ?_
                refine zz_icmp_eq (by omega) (by omega) zd_8_4_124 (fun c43 => ?_) (fun c43 => ?_)
                · refine zz_iconst zd_8_4_136 ?_
                  exact zz_zret zd_8_4_137 rfl (by omega) (Nat.zero_le _) (Nat.zero_le _) ⟨_, _, rfl, G_S35, F_S35, by omega, H_S35⟩
                · refine zz_iload_n (x := v27) rfl zd_8_4_127 ?_
                  refine zz_iconst zd_8_4_128 ?_
                  refine zz_icmp_eq (by omega) (by omega) zd_8_4_129 (fun c44 => ?_) (fun c44 => ?_)
                  · refine zz_iconst zd_8_4_136 ?_
                    exact zz_zret zd_8_4_137 rfl (by omega) (Nat.zero_le _) (Nat.zero_le _) ⟨_, _, rfl, G_S35, F_S35, by omega, H_S35⟩
                  · refine zz_iconst zd_8_4_132 ?_
                    refine zz_goto zd_8_4_133 ?_
                    exact zz_zret zd_8_4_137 rfl (by omega) (Nat.zero_le _) (Nat.zero_le _) ⟨_, _, rfl, G_S35, F_S35, by omega, H_S35⟩
        · exfalso; omega
      · refine zz_if_eq (by omega) zd_8_4_39 (fun c45 => ?_) (fun c45 => ?_)
        · exfalso; omega
        · refine zz_iconst zd_8_4_42 ?_
          refine zz_istore_n [some (.ref 1073), some (zi 2)] zd_8_4_43 (by decide) rfl ?_
          refine zz_aload_n (x := 1073) rfl zd_8_4_44 ?_
          refine zz_sipush (by decide) zd_8_4_45 ?_
          refine zz_puti zd_8_4_48 zf_NetworkReader_35 zT_1073 rfl (zz_ltn hn rfl) (fun S46 qS46 => ?_)
          have G_S46 := zz_G.put G_S0 qS46 (-2147483648) 2147483647 rfl (by omega)
          have F_S46 := zz_fr.puts F_S0 qS46 rfl
          have H_S46 : zz_Hc S46 := zz_Hc.fr (q := 0) (zz_fr.put1 qS46) rfl rfl G_S0 (by decide) rfl (fun b j h => by omega) H_S0
          refine zz_aload_n (x := 1073) rfl zd_8_4_51 ?_
          refine zz_iconst zd_8_4_52 ?_
          refine zz_puti zd_8_4_53 zf_NetworkReader_38 zT_1073 rfl (zz_ltn hn rfl) (fun S47 qS47 => ?_)
          have G_S47 := zz_G.put G_S46 qS47 (-2147483648) 2147483647 rfl (by omega)
          have F_S47 := zz_fr.puts F_S46 qS47 rfl
          have H_S47 : zz_Hc S47 := zz_Hc.fr (q := 0) (zz_fr.put1 qS47) rfl rfl G_S46 (by decide) rfl (fun b j h => by omega) H_S46
          refine zz_goto zd_8_4_56 ?_
          refine zz_aload_n (x := 1073) rfl zd_8_4_90 ?_
          refine zz_callVI [] zd_8_4_91 zk_NetworkReader_118 zT_1073 (zz_ltn hn rfl) rfl rfl ⟨Nat.le_of_ble_eq_true rfl, Nat.le_of_ble_eq_true rfl⟩ ⟨rfl, rfl⟩ (Nat.zero_le _) (Nat.zero_le _) (zc_readTensor_8_5  S47 n hn G_S47 ) (fun v49 S48 hP => ?_)
          obtain ⟨G_S48, fS48, o50⟩ := hP
          have F_S48 := zz_fr.trans F_S47 fS48 rfl zz_nv
          have H_S48 : zz_Hc S48 := zz_Hc.fr (q := 0) fS48 rfl rfl G_S47 (by decide) rfl (fun b j h => h.elim) H_S47
          refine zz_istore_n [some (.ref 1073), some (zi 2), some (zi v49)] zd_8_4_94 (by decide) rfl ?_
          refine zz_iload_n (x := 2) rfl zd_8_4_95 ?_
          refine zz_iconst zd_8_4_96 ?_
          refine zz_icmp_ne (by omega) (by omega) zd_8_4_97 (fun c51 => ?_) (fun c51 => ?_)
          · refine zz_iload_n (x := v49) rfl zd_8_4_107 ?_
            refine zz_istore_n [some (.ref 1073), some (zi 2), some (zi v49), some (zi v49)] zd_8_4_108 (by decide) rfl ?_
            refine zz_aload_n (x := 1073) rfl zd_8_4_109 ?_
            have g52 := zz_G.r G_S0 1073 1 0 1 rfl rfl
            refine zz_getr (kd := 1) (z := S0 1073 1) zd_8_4_110 zf_NetworkReader_15 zT_1073 rfl (zz_ltn hn rfl) (zz_rc fS48 rfl rfl (fun h => h) (zz_ro qS47 (fun h => absurd h.2 (by decide)) (zz_ro qS46 (fun h => absurd h.2 (by decide)) rfl))) (by omega) (zz_rf 3 (S0 1073 1)) rfl ?_
            have e53 : S48 (zz_rf 3 (S0 1073 1)) 1 = S0 (zz_rf 3 (S0 1073 1)) 1 := (zz_rc fS48 (zP_k3 (by omega) rfl) (zQ_k3 (by omega) rfl) (fun h => h) (zz_ro qS47 (fun h => absurd h.2 (by decide)) (zz_ro qS46 (fun h => absurd h.2 (by decide)) rfl)))
            refine zz_callVA [] zd_8_4_113 zk_NetworkReader_121 (zT_k3 (by omega)) (zN_k3 hn (by omega)) rfl rfl ⟨Nat.le_of_ble_eq_true rfl, Nat.le_of_ble_eq_true rfl⟩ ⟨rfl, rfl⟩ (Nat.zero_le _) (Nat.zero_le _) (zc_draft_7_6 (S0 1073 1) S48 n hn G_S48 (by omega)) (fun v55 S54 hP => ?_)
            obtain ⟨rfl, o56, o57⟩ := hP
            subst o56
            refine zz_iload_n (x := 2) rfl zd_8_4_116 ?_
            refine zz_iload_n (x := v49) rfl zd_8_4_117 ?_
            refine zz_iload_n (x := v49) rfl zd_8_4_118 ?_
            refine zz_callVV [zi 2, zi v49, zi v49] zd_8_4_119 zk_NetworkReader_125 (zT_k6 (by omega)) (zN_k6 hn (by omega)) rfl rfl ⟨Nat.le_of_ble_eq_true rfl, Nat.le_of_ble_eq_true rfl⟩ ⟨rfl, rfl⟩ (Nat.zero_le _) (Nat.zero_le _) (zc_reset_4_2 (12 * (S0 1073 1) + S48 (zz_rf 3 (S0 1073 1)) 1) 2 v49 v49 S48 n hn G_S48 (by omega) (by omega) (by omega) (by omega)) (fun S58 hP => ?_)
            obtain ⟨G_S58, fS58, o60⟩ := hP
            have g61 := zz_G.r G_S0 1073 1 0 1 rfl rfl
            have b62 := zz_G.r G_S48 (zz_rf 3 (S0 1073 1)) 1 1 11 (zR_k3_1 (by omega)) (zB_k3 (by omega))
            have F_S58 := zz_fr.trans F_S48 fS58 rfl (fun a i h => by rcases h with h | h | h | h | h | h | h | h | h | h | h | h | h | h | h; exact Or.inr (Or.inl (h.1 ▸ zM_k6 (z := (12 * (S0 1073 1) + S48 (zz_rf 3 (S0 1073 1)) 1)) (by omega) rfl)); exact Or.inr (Or.inl (h.1 ▸ zM_k6 (z := (12 * (S0 1073 1) + S48 (zz_rf 3 (S0 1073 1)) 1)) (by omega) rfl)); exact Or.inr (Or.inl (h.1 ▸ zM_k6 (z := (12 * (S0 1073 1) + S48 (zz_rf 3 (S0 1073 1)) 1)) (by omega) rfl)); exact Or.inr (Or.inl (h.1 ▸ zM_k6 (z := (12 * (S0 1073 1) + S48 (zz_rf 3 (S0 1073 1)) 1)) (by omega) rfl)); exact Or.inr (Or.inl (h.1 ▸ zM_k6 (z := (12 * (S0 1073 1) + S48 (zz_rf 3 (S0 1073 1)) 1)) (by omega) rfl)); exact Or.inr (Or.inl (h.1 ▸ zM_k6 (z := (12 * (S0 1073 1) + S48 (zz_rf 3 (S0 1073 1)) 1)) (by omega) rfl)); exact Or.inr (Or.inl (h.1 ▸ zM_k6 (z := (12 * (S0 1073 1) + S48 (zz_rf 3 (S0 1073 1)) 1)) (by omega) rfl)); exact Or.inr (Or.inl (h.1 ▸ zM_k6 (z := (12 * (S0 1073 1) + S48 (zz_rf 3 (S0 1073 1)) 1)) (by omega) rfl)); exact Or.inr (Or.inl (h.1 ▸ zM_k6 (z := (12 * (S0 1073 1) + S48 (zz_rf 3 (S0 1073 1)) 1)) (by omega) rfl)); exact Or.inr (Or.inl (h.1 ▸ zM_k6 (z := (12 * (S0 1073 1) + S48 (zz_rf 3 (S0 1073 1)) 1)) (by omega) rfl)); exact Or.inr (Or.inl (h.1 ▸ zM_k6 (z := (12 * (S0 1073 1) + S48 (zz_rf 3 (S0 1073 1)) 1)) (by omega) rfl)); exact Or.inr (Or.inl (h.1 ▸ zM_k6 (z := (12 * (S0 1073 1) + S48 (zz_rf 3 (S0 1073 1)) 1)) (by omega) rfl)); exact Or.inr (Or.inl (h.1 ▸ zM_k6 (z := (12 * (S0 1073 1) + S48 (zz_rf 3 (S0 1073 1)) 1)) (by omega) rfl)); exact Or.inr (Or.inl (h.1 ▸ zM_k6 (z := (12 * (S0 1073 1) + S48 (zz_rf 3 (S0 1073 1)) 1)) (by omega) rfl)); exact Or.inr (Or.inl (h.1 ▸ zM_k6 (z := (12 * (S0 1073 1) + S48 (zz_rf 3 (S0 1073 1)) 1)) (by omega) rfl)))
            have b63 := zz_G.r G_S48 (zz_rf 3 (S0 1073 1)) 1 1 11 (zR_k3_1 (by omega)) (zB_k3 (by omega))
            have b64 := zz_rf6 (z := (12 * (S0 1073 1) + S48 (zz_rf 3 (S0 1073 1)) 1)) (by omega)
            have b65 := zz_rf3 (z := (S0 1073 1)) (by omega)
            have H_S58 : zz_Hc S58 := zz_Hc.fr (q := (S0 1073 1)) (z := 12 * (S0 1073 1) + S48 (zz_rf 3 (S0 1073 1)) 1) fS58 rfl rfl G_S48 (by omega) rfl (fun b j h => by omega) H_S48
            refine zz_iload_n (x := v49) rfl zd_8_4_122 ?_
            refine zz_iconst zd_8_4_123 ?_
            refine zz_icmp_eq (by omega) (by omega) zd_8_4_124 (fun c66 => ?_) (fun c66 => ?_)
            · refine zz_iconst zd_8_4_136 ?_
              exact zz_zret zd_8_4_137 rfl (by omega) (Nat.zero_le _) (Nat.zero_le _) ⟨_, _, rfl, G_S58, F_S58, by omega, H_S58⟩
            · refine zz_iload_n (x := v49) rfl zd_8_4_127 ?_
              refine zz_iconst zd_8_4_128 ?_
              refine zz_icmp_eq (by omega) (by omega) zd_8_4_129 (fun c67 => ?_) (fun c67 => ?_)
              · refine zz_iconst zd_8_4_136 ?_
                exact zz_zret zd_8_4_137 rfl (by omega) (Nat.zero_le _) (Nat.zero_le _) ⟨_, _, rfl, G_S58, F_S58, by omega, H_S58⟩
              · refine zz_iconst zd_8_4_132 ?_
                refine zz_goto zd_8_4_133 ?_
                exact zz_zret zd_8_4_137 rfl (by omega) (Nat.zero_le _) (Nat.zero_le _) ⟨_, _, rfl, G_S58, F_S58, by omega, H_S58⟩
          · exfalso; omega
    · exfalso; omega
  · refine zz_if_eq (by omega) zd_8_4_9 (fun c68 => ?_) (fun c68 => ?_)
    · exfalso; omega
    · refine zz_iconst zd_8_4_12 ?_
      refine zz_istore_n [some (.ref 1073), some (zi 1)] zd_8_4_13 (by decide) rfl ?_
      refine zz_aload_n (x := 1073) rfl zd_8_4_14 ?_
      refine zz_sipush (by decide) zd_8_4_15 ?_
      refine zz_puti zd_8_4_18 zf_NetworkReader_35 zT_1073 rfl (zz_ltn hn rfl) (fun S69 qS69 => ?_)
      have G_S69 := zz_G.put G_S0 qS69 (-2147483648) 2147483647 rfl (by omega)
      have F_S69 := zz_fr.puts F_S0 qS69 rfl
      have H_S69 : zz_Hc S69 := zz_Hc.fr (q := 0) (zz_fr.put1 qS69) rfl rfl G_S0 (by decide) rfl (fun b j h => by omega) H_S0
      refine zz_aload_n (x := 1073) rfl zd_8_4_21 ?_
      refine zz_bipush (by decide) zd_8_4_22 ?_
      refine zz_puti zd_8_4_24 zf_NetworkReader_38 zT_1073 rfl (zz_ltn hn rfl) (fun S70 qS70 => ?_)
      have G_S70 := zz_G.put G_S69 qS70 (-2147483648) 2147483647 rfl (by omega)
      have F_S70 := zz_fr.puts F_S69 qS70 rfl
      have H_S70 : zz_Hc S70 := zz_Hc.fr (q := 0) (zz_fr.put1 qS70) rfl rfl G_S69 (by decide) rfl (fun b j h => by omega) H_S69
      refine zz_goto zd_8_4_27 ?_
      refine zz_aload_n (x := 1073) rfl zd_8_4_90 ?_
      refine zz_callVI [] zd_8_4_91 zk_NetworkReader_118 zT_1073 (zz_ltn hn rfl) rfl rfl ⟨Nat.le_of_ble_eq_true rfl, Nat.le_of_ble_eq_true rfl⟩ ⟨rfl, rfl⟩ (Nat.zero_le _) (Nat.zero_le _) (zc_readTensor_8_5  S70 n hn G_S70 ) (fun v72 S71 hP => ?_)
      obtain ⟨G_S71, fS71, o73⟩ := hP
      have F_S71 := zz_fr.trans F_S70 fS71 rfl zz_nv
      have H_S71 : zz_Hc S71 := zz_Hc.fr (q := 0) fS71 rfl rfl G_S70 (by decide) rfl (fun b j h => h.elim) H_S70
      refine zz_istore_n [some (.ref 1073), some (zi 1), some (zi v72)] zd_8_4_94 (by decide) rfl ?_
      refine zz_iload_n (x := 1) rfl zd_8_4_95 ?_
      refine zz_iconst zd_8_4_96 ?_
      refine zz_icmp_ne (by omega) (by omega) zd_8_4_97 (fun c74 => ?_) (fun c74 => ?_)
      · refine zz_iload_n (x := v72) rfl zd_8_4_107 ?_
        refine zz_istore_n [some (.ref 1073), some (zi 1), some (zi v72), some (zi v72)] zd_8_4_108 (by decide) rfl ?_
        refine zz_aload_n (x := 1073) rfl zd_8_4_109 ?_
        have g75 := zz_G.r G_S0 1073 1 0 1 rfl rfl
        refine zz_getr (kd := 1) (z := S0 1073 1) zd_8_4_110 zf_NetworkReader_15 zT_1073 rfl (zz_ltn hn rfl) (zz_rc fS71 rfl rfl (fun h => h) (zz_ro qS70 (fun h => absurd h.2 (by decide)) (zz_ro qS69 (fun h => absurd h.2 (by decide)) rfl))) (by omega) (zz_rf 3 (S0 1073 1)) rfl ?_
        have e76 : S71 (zz_rf 3 (S0 1073 1)) 1 = S0 (zz_rf 3 (S0 1073 1)) 1 := (zz_rc fS71 (zP_k3 (by omega) rfl) (zQ_k3 (by omega) rfl) (fun h => h) (zz_ro qS70 (fun h => absurd h.2 (by decide)) (zz_ro qS69 (fun h => absurd h.2 (by decide)) rfl)))
        refine zz_callVA [] zd_8_4_113 zk_NetworkReader_121 (zT_k3 (by omega)) (zN_k3 hn (by omega)) rfl rfl ⟨Nat.le_of_ble_eq_true rfl, Nat.le_of_ble_eq_true rfl⟩ ⟨rfl, rfl⟩ (Nat.zero_le _) (Nat.zero_le _) (zc_draft_7_6 (S0 1073 1) S71 n hn G_S71 (by omega)) (fun v78 S77 hP => ?_)
        obtain ⟨rfl, o79, o80⟩ := hP
        subst o79
        refine zz_iload_n (x := 1) rfl zd_8_4_116 ?_
        refine zz_iload_n (x := v72) rfl zd_8_4_117 ?_
        refine zz_iload_n (x := v72) rfl zd_8_4_118 ?_
        refine zz_callVV [zi 1, zi v72, zi v72] zd_8_4_119 zk_NetworkReader_125 (zT_k6 (by omega)) (zN_k6 hn (by omega)) rfl rfl ⟨Nat.le_of_ble_eq_true rfl, Nat.le_of_ble_eq_true rfl⟩ ⟨rfl, rfl⟩ (Nat.zero_le _) (Nat.zero_le _) (zc_reset_4_2 (12 * (S0 1073 1) + S71 (zz_rf 3 (S0 1073 1)) 1) 1 v72 v72 S71 n hn G_S71 (by omega) (by omega) (by omega) (by omega)) (fun S81 hP => ?_)
        obtain ⟨G_S81, fS81, o83⟩ := hP
        have g84 := zz_G.r G_S0 1073 1 0 1 rfl rfl
        have b85 := zz_G.r G_S71 (zz_rf 3 (S0 1073 1)) 1 1 11 (zR_k3_1 (by omega)) (zB_k3 (by omega))
        have F_S81 := zz_fr.trans F_S71 fS81 rfl (fun a i h => by rcases h with h | h | h | h | h | h | h | h | h | h | h | h | h | h | h; exact Or.inr (Or.inl (h.1 ▸ zM_k6 (z := (12 * (S0 1073 1) + S71 (zz_rf 3 (S0 1073 1)) 1)) (by omega) rfl)); exact Or.inr (Or.inl (h.1 ▸ zM_k6 (z := (12 * (S0 1073 1) + S71 (zz_rf 3 (S0 1073 1)) 1)) (by omega) rfl)); exact Or.inr (Or.inl (h.1 ▸ zM_k6 (z := (12 * (S0 1073 1) + S71 (zz_rf 3 (S0 1073 1)) 1)) (by omega) rfl)); exact Or.inr (Or.inl (h.1 ▸ zM_k6 (z := (12 * (S0 1073 1) + S71 (zz_rf 3 (S0 1073 1)) 1)) (by omega) rfl)); exact Or.inr (Or.inl (h.1 ▸ zM_k6 (z := (12 * (S0 1073 1) + S71 (zz_rf 3 (S0 1073 1)) 1)) (by omega) rfl)); exact Or.inr (Or.inl (h.1 ▸ zM_k6 (z := (12 * (S0 1073 1) + S71 (zz_rf 3 (S0 1073 1)) 1)) (by omega) rfl)); exact Or.inr (Or.inl (h.1 ▸ zM_k6 (z := (12 * (S0 1073 1) + S71 (zz_rf 3 (S0 1073 1)) 1)) (by omega) rfl)); exact Or.inr (Or.inl (h.1 ▸ zM_k6 (z := (12 * (S0 1073 1) + S71 (zz_rf 3 (S0 1073 1)) 1)) (by omega) rfl)); exact Or.inr (Or.inl (h.1 ▸ zM_k6 (z := (12 * (S0 1073 1) + S71 (zz_rf 3 (S0 1073 1)) 1)) (by omega) rfl)); exact Or.inr (Or.inl (h.1 ▸ zM_k6 (z := (12 * (S0 1073 1) + S71 (zz_rf 3 (S0 1073 1)) 1)) (by omega) rfl)); exact Or.inr (Or.inl (h.1 ▸ zM_k6 (z := (12 * (S0 1073 1) + S71 (zz_rf 3 (S0 1073 1)) 1)) (by omega) rfl)); exact Or.inr (Or.inl (h.1 ▸ zM_k6 (z := (12 * (S0 1073 1) + S71 (zz_rf 3 (S0 1073 1)) 1)) (by omega) rfl)); exact Or.inr (Or.inl (h.1 ▸ zM_k6 (z := (12 * (S0 1073 1) + S71 (zz_rf 3 (S0 1073 1)) 1)) (by omega) rfl)); exact Or.inr (Or.inl (h.1 ▸ zM_k6 (z := (12 * (S0 1073 1) + S71 (zz_rf 3 (S0 1073 1)) 1)) (by omega) rfl)); exact Or.inr (Or.inl (h.1 ▸ zM_k6 (z := (12 * (S0 1073 1) + S71 (zz_rf 3 (S0 1073 1)) 1)) (by omega) rfl)))
        have b86 := zz_G.r G_S71 (zz_rf 3 (S0 1073 1)) 1 1 11 (zR_k3_1 (by omega)) (zB_k3 (by omega))
        have b87 := zz_rf6 (z := (12 * (S0 1073 1) + S71 (zz_rf 3 (S0 1073 1)) 1)) (by omega)
        have b88 := zz_rf3 (z := (S0 1073 1)) (by omega)
        have H_S81 : zz_Hc S81 := zz_Hc.fr (q := (S0 1073 1)) (z := 12 * (S0 1073 1) + S71 (zz_rf 3 (S0 1073 1)) 1) fS81 rfl rfl G_S71 (by omega) rfl (fun b j h => by omega) H_S71
        refine zz_iload_n (x := v72) rfl zd_8_4_122 ?_
        refine zz_iconst zd_8_4_123 ?_
        refine zz_icmp_eq (by omega) (by omega) zd_8_4_124 (fun c89 => ?_) (fun c89 => ?_)
        · refine zz_iconst zd_8_4_136 ?_
          exact zz_zret zd_8_4_137 rfl (by omega) (Nat.zero_le _) (Nat.zero_le _) ⟨_, _, rfl, G_S81, F_S81, by omega, H_S81⟩
        · refine zz_iload_n (x := v72) rfl zd_8_4_127 ?_
          refine zz_iconst zd_8_4_128 ?_
          refine zz_icmp_eq (by omega) (by omega) zd_8_4_129 (fun c90 => ?_) (fun c90 => ?_)
          · refine zz_iconst zd_8_4_136 ?_
            exact zz_zret zd_8_4_137 rfl (by omega) (Nat.zero_le _) (Nat.zero_le _) ⟨_, _, rfl, G_S81, F_S81, by omega, H_S81⟩
          · refine zz_iconst zd_8_4_132 ?_
            refine zz_goto zd_8_4_133 ?_
            exact zz_zret zd_8_4_137 rfl (by omega) (Nat.zero_le _) (Nat.zero_le _) ⟨_, _, rfl, G_S81, F_S81, by omega, H_S81⟩
      · exfalso; omega
theorem zk_NetworkReader_65 : mm_Vl "TensorForge$NetworkReader" 65 8 0 zy_readLayer_8_4 := ⟨zyw_readLayer_8_4, (R_NetworkReader, F_NetworkReader, 9), rfl, mm_tb_1 920 (by decide +kernel) rfl, mm_tb_1 922 (by decide +kernel) rfl, mm_tb_s 41 (by decide +kernel) rfl⟩
theorem zk_NetworkReader_71 : mm_Vl "TensorForge$NetworkReader" 71 1 0 zy_offer_7_7 := ⟨zyw_offer_7_7, (R_Network, F_Network, 2), rfl, mm_tb_1 989 (by decide +kernel) rfl, mm_tb_1 990 (by decide +kernel) rfl, mm_tb_1 991 (by decide +kernel) rfl⟩
theorem zg_8_2_66 : (decode zy_readInto_8_2.2.1 66 = .ok ((Instr.ifCond .eq) 24, 3)) ∧ (decode zy_readInto_8_2.2.1 90 = .ok ((.iconst 0), 1)) ∧ (decode zy_readInto_8_2.2.1 91 = .ok (Instr.goto 22, 3)) ∧ (decode zy_readInto_8_2.2.1 69 = .ok ((.aload_n 0), 1)) ∧ (decode zy_readInto_8_2.2.1 70 = .ok ((.invokevirtual 68), 3)) ∧ (decode zy_readInto_8_2.2.1 73 = .ok ((Instr.ifCond .eq) 17, 3)) ∧ (decode zy_readInto_8_2.2.1 76 = .ok ((.aload_n 0), 1)) ∧ (decode zy_readInto_8_2.2.1 77 = .ok ((.getfield 15), 3)) ∧ (decode zy_readInto_8_2.2.1 80 = .ok ((.invokevirtual 71), 3)) ∧ (decode zy_readInto_8_2.2.1 83 = .ok ((Instr.ifCond .ne) 7, 3)) := by decide +kernel
theorem zd_8_2_66 : zz_B zy_readInto_8_2 66 (Instr.ifCond .eq) 90 69 := ⟨24, zg_8_2_66.1, rfl, rfl⟩
theorem zd_8_2_90 : zz_D zy_readInto_8_2 90 (.iconst 0) 1 91 := ⟨zg_8_2_66.2.1, rfl⟩
theorem zd_8_2_91 : zz_B zy_readInto_8_2 91 Instr.goto 113 94 := ⟨22, zg_8_2_66.2.2.1, rfl, rfl⟩
theorem zd_8_2_69 : zz_D zy_readInto_8_2 69 (.aload_n 0) 1 70 := ⟨zg_8_2_66.2.2.2.1, rfl⟩
theorem zd_8_2_70 : zz_D zy_readInto_8_2 70 (.invokevirtual 68) 3 73 := ⟨zg_8_2_66.2.2.2.2.1, rfl⟩
theorem zd_8_2_73 : zz_B zy_readInto_8_2 73 (Instr.ifCond .eq) 90 76 := ⟨17, zg_8_2_66.2.2.2.2.2.1, rfl, rfl⟩
theorem zd_8_2_76 : zz_D zy_readInto_8_2 76 (.aload_n 0) 1 77 := ⟨zg_8_2_66.2.2.2.2.2.2.1, rfl⟩
theorem zd_8_2_77 : zz_D zy_readInto_8_2 77 (.getfield 15) 3 80 := ⟨zg_8_2_66.2.2.2.2.2.2.2.1, rfl⟩
theorem zd_8_2_80 : zz_D zy_readInto_8_2 80 (.invokevirtual 71) 3 83 := ⟨zg_8_2_66.2.2.2.2.2.2.2.2.1, rfl⟩
theorem zd_8_2_83 : zz_B zy_readInto_8_2 83 (Instr.ifCond .ne) 90 86 := ⟨7, zg_8_2_66.2.2.2.2.2.2.2.2.2, rfl, rfl⟩
theorem zg_8_2_86 : (decode zy_readInto_8_2.2.1 86 = .ok ((.iconst 1), 1)) ∧ (decode zy_readInto_8_2.2.1 87 = .ok (Instr.goto 26, 3)) := by decide +kernel
theorem zd_8_2_86 : zz_D zy_readInto_8_2 86 (.iconst 1) 1 87 := ⟨zg_8_2_86.1, rfl⟩
theorem zd_8_2_87 : zz_B zy_readInto_8_2 87 Instr.goto 113 90 := ⟨26, zg_8_2_86.2, rfl, rfl⟩
-- TensorForge$NetworkReader readInto (LTensorForge$Network;)I
abbrev zr_readInto_8_2 : Room := { frames := 9, cells := 0, slots := 0, locals := 123 }
def zp_readInto_8_2 (p0 : Int) (S0 : zz_S) : Int → zz_S → Prop := fun r S => zz_G S ∧ zz_fr [(1070, 2), (1070, 3), (1070, 4), (1070, 5), (1070, 6), (1073, 1), (1073, 4), (1073, 5), (1073, 6), (1073, 7), (1073, 8)] [1001, 1003, 1004, 1005, 1006, 1007, 1008, 1009, 1010, 1011, 1012, 1013, 1014, 1015, 1017, 1018, 1019, 1020, 1021, 1022, 1023, 1024, 1025, 1026, 1027, 1028, 1074, 1075] (fun _ _ => False) S0 S ∧ ((-2147483648) ≤ r ∧ r ≤ 2147483647) ∧ (zz_Hc S)
theorem zb_readInto_8_2_24 {g : mm_G} {l : Launch} (p0 : Int) (S0 : zz_S) (n : Nat) (hn : zz_end ≤ n) (G_S0 : zz_G S0) (hp0 : 0 ≤ p0 ∧ p0 ≤ 1) (H_S0 : zz_Hc S0) (x2 : Int) (x3 : Int) (S : zz_S) (G_S : zz_G S) (F_S : zz_fr [(1070, 2), (1070, 3), (1070, 4), (1070, 5), (1070, 6), (1073, 1), (1073, 4), (1073, 5), (1073, 6), (1073, 7), (1073, 8)] [1001, 1003, 1004, 1005, 1006, 1007, 1008, 1009, 1010, 1011, 1012, 1013, 1014, 1015, 1017, 1018, 1019, 1020, 1021, 1022, 1023, 1024, 1025, 1026, 1027, 1028, 1074, 1075] (fun _ _ => False) S0 S) (i24_0 : 0 ≤ x2 ∧ x2 ≤ 1) (i24_1 : 0 ≤ x3 ∧ x3 ≤ 1501) (i24_2 : zz_Hc S) (R : Nat) (hR : (1500 + 1 - x3).toNat = R) (k24 : ∀ (x2 : Int) (x3 : Int) (S : zz_S), zz_G S → zz_fr [(1070, 2), (1070, 3), (1070, 4), (1070, 5), (1070, 6), (1073, 1), (1073, 4), (1073, 5), (1073, 6), (1073, 7), (1073, 8)] [1001, 1003, 1004, 1005, 1006, 1007, 1008, 1009, 1010, 1011, 1012, 1013, 1014, 1015, 1017, 1018, 1019, 1020, 1021, 1022, 1023, 1024, 1025, 1026, 1027, 1028, 1074, 1075] (fun _ _ => False) S0 S → (0 ≤ x2 ∧ x2 ≤ 1) → (0 ≤ x3 ∧ x3 ≤ 1501) → (zz_Hc S) → (1500 + 1 - x3).toNat < R → zz_E g l zy_readInto_8_2 zr_readInto_8_2 (zz_QI n (zp_readInto_8_2 p0 S0)) S n 24 [some (.ref 1073), none, some (zi x2), some (zi x3)] [] 0 0) : zz_E g l zy_readInto_8_2 zr_readInto_8_2 (zz_QI n (zp_readInto_8_2 p0 S0)) S n 24 [some (.ref 1073), none, some (zi x2), some (zi x3)] [] 0 0 := by
  have b_p0 := zz_rf3 (z := p0) (by omega)
  have H_S := i24_2
  refine zz_iload_n (x := x3) rfl zd_8_2_24 ?_
  refine zz_sipush (by decide) zd_8_2_25 ?_
  refine zz_icmp_gt (by omega) (by omega) zd_8_2_28 (fun c7 => ?_) (fun c7 => ?_)
  · refine zz_iload_n (x := x2) rfl zd_8_2_143 ?_
    refine zz_if_eq (by omega) zd_8_2_144 (fun c8 => ?_) (fun c8 => ?_)
    · refine zz_iload_n (x := x3) rfl zd_8_2_151 ?_
      exact zz_iret zd_8_2_152 rfl (Nat.zero_le _) (Nat.zero_le _) ⟨_, _, rfl, G_S, F_S, by omega, H_S⟩
    · refine zz_iconst zd_8_2_147 ?_
      refine zz_goto zd_8_2_148 ?_
      exact zz_iret zd_8_2_152 rfl (Nat.zero_le _) (Nat.zero_le _) ⟨_, _, rfl, G_S, F_S, by omega, H_S⟩
  · refine zz_aload_n (x := 1073) rfl zd_8_2_31 ?_
    refine zz_getr (kd := 0) (z := 1070) zd_8_2_32 zf_NetworkReader_9 zT_1073 rfl (zz_ltn hn rfl) (zz_G.eq G_S 1073 0 1070 rfl rfl) (by decide) 1070 rfl ?_
    have g9 := zz_G.r G_S0 1070 1 0 1500 rfl rfl
    have e10 : S 1070 1 = S0 1070 1 := (zz_rc F_S rfl rfl (fun h => h) rfl)
    have g11 := zz_G.r G_S 1070 2 (-1) 1500 rfl rfl
    have g12 := zz_G.r G_S 1070 3 0 1500 rfl rfl
    refine zz_callVI [] zd_8_2_35 zk_NetworkReader_55 zT_1070 (zz_ltn hn rfl) rfl rfl ⟨Nat.le_of_ble_eq_true rfl, Nat.le_of_ble_eq_true rfl⟩ ⟨rfl, rfl⟩ (Nat.zero_le _) (Nat.zero_le _) (zc_nextLine_11_6  S n hn G_S ) (fun v14 S13 hP => ?_)
    obtain ⟨G_S13, fS13, o15, o16⟩ := hP
    rw [show S 1071 = S0 1071 from funext (fun u => (zz_rc F_S (zz_nc1 rfl) rfl (fun h => h) rfl)), show S 1070 1 = S0 1070 1 from (zz_rc F_S rfl rfl (fun h => h) rfl)] at o16
    have F_S13 := zz_fr.trans F_S fS13 rfl zz_nv
    have H_S13 : zz_Hc S13 := zz_Hc.fr (q := 0) fS13 rfl rfl G_S (by decide) rfl (fun b j h => h.elim) H_S
    rcases (by omega : v14 = 0 ∨ v14 = 1) with rfl | rfl
    · refine zz_if_eq (by omega) zd_8_2_38 (fun c17 => ?_) (fun c17 => ?_)
      · refine zz_iload_n (x := x2) rfl zd_8_2_143 ?_
        refine zz_if_eq (by omega) zd_8_2_144 (fun c18 => ?_) (fun c18 => ?_)
        · refine zz_iload_n (x := x3) rfl zd_8_2_151 ?_
          exact zz_iret zd_8_2_152 rfl (Nat.zero_le _) (Nat.zero_le _) ⟨_, _, rfl, G_S13, F_S13, by omega, H_S13⟩
        · refine zz_iconst zd_8_2_147 ?_
          refine zz_goto zd_8_2_148 ?_
          exact zz_iret zd_8_2_152 rfl (Nat.zero_le _) (Nat.zero_le _) ⟨_, _, rfl, G_S13, F_S13, by omega, H_S13⟩
      · exfalso; omega
    · refine zz_if_eq (by omega) zd_8_2_38 (fun c19 => ?_) (fun c19 => ?_)
      · exfalso; omega
      · refine zz_aload_n (x := 1073) rfl zd_8_2_41 ?_
        refine zz_getr (kd := 0) (z := 1070) zd_8_2_42 zf_NetworkReader_9 zT_1073 rfl (zz_ltn hn rfl) (zz_G.eq G_S13 1073 0 1070 rfl rfl) (by decide) 1070 rfl ?_
        have g20 := zz_G.r G_S13 1070 2 (-1) 1500 rfl rfl
        have g21 := zz_G.r G_S13 1070 3 0 1500 rfl rfl
        refine zz_callVV [] zd_8_2_45 zk_NetworkReader_59 zT_1070 (zz_ltn hn rfl) rfl rfl ⟨Nat.le_of_ble_eq_true rfl, Nat.le_of_ble_eq_true rfl⟩ ⟨rfl, rfl⟩ (Nat.zero_le _) (Nat.zero_le _) (zc_nextToken_11_7  S13 n hn G_S13 ) (fun S22 hP => ?_)
        obtain ⟨G_S22, fS22, o24, o25, o26, o27, o28, o29, o30, o31⟩ := hP
        rw [show S13 1071 = S0 1071 from funext (fun u => (zz_rc fS13 (zz_nc1 rfl) rfl (fun h => h) (zz_rc F_S (zz_nc1 rfl) rfl (fun h => h) rfl)))] at o24
        rw [show S13 1071 = S0 1071 from funext (fun u => (zz_rc fS13 (zz_nc1 rfl) rfl (fun h => h) (zz_rc F_S (zz_nc1 rfl) rfl (fun h => h) rfl)))] at o25
        rw [show S13 1071 = S0 1071 from funext (fun u => (zz_rc fS13 (zz_nc1 rfl) rfl (fun h => h) (zz_rc F_S (zz_nc1 rfl) rfl (fun h => h) rfl)))] at o26
        have F_S22 := zz_fr.trans F_S13 fS22 rfl zz_nv
        have H_S22 : zz_Hc S22 := zz_Hc.fr (q := 0) fS22 rfl rfl G_S13 (by decide) rfl (fun b j h => h.elim) H_S13
        refine zz_aload_n (x := 1073) rfl zd_8_2_48 ?_
        refine zz_getr (kd := 0) (z := 1070) zd_8_2_49 zf_NetworkReader_9 zT_1073 rfl (zz_ltn hn rfl) (zz_G.eq G_S22 1073 0 1070 rfl rfl) (by decide) 1070 rfl ?_
        have g32 := zz_G.r G_S22 1070 4 (-2147483648) 2147483647 rfl rfl
        refine zz_geti (z := S22 1070 4) zd_8_2_52 zf_NetworkReader_62 zT_1070 rfl (zz_ltn hn rfl) rfl ?_
        refine zz_if_eq (by omega) zd_8_2_55 (fun c33 => ?_) (fun c33 => ?_)
        · refine zz_iinc [some (.ref 1073), none, some (zi x2), some (zi (x3 + 1))] zd_8_2_137 rfl rfl ?_
          refine zz_goto zd_8_2_140 ?_
          refine zz_less (ls1 := [some (.ref 1073), none, some (zi x2), some (zi (x3 + 1))]) ⟨rfl, ⟨rfl, ⟨rfl, trivial⟩⟩⟩ ?_
          exact k24 x2 (x3 + 1) S22 G_S22 F_S22 (by omega) (by omega) H_S22 (by omega)
        · refine zz_iload_n (x := x2) rfl zd_8_2_58 ?_
          refine zz_if_eq (by omega) zd_8_2_59 (fun c34 => ?_) (fun c34 => ?_)
          · refine zz_aload_n (x := 1073) rfl zd_8_2_94 ?_
            refine zz_callVI [] zd_8_2_95 zk_NetworkReader_75 zT_1073 (zz_ltn hn rfl) rfl rfl ⟨Nat.le_of_ble_eq_true rfl, Nat.le_of_ble_eq_true rfl⟩ ⟨rfl, rfl⟩ (Nat.zero_le _) (Nat.zero_le _) (zc_readInput_8_3  S22 n hn G_S22 H_S22) (fun v36 S35 hP => ?_)
            obtain ⟨G_S35, fS35, o37, o38⟩ := hP
            have g39 := zz_G.r G_S22 1073 1 0 1 rfl rfl
            have F_S35 := zz_fr.trans F_S22 fS35 rfl (fun a i h => by rcases h with h | h | h | h | h | h | h | h | h | h | h | h | h | h | h | h; exact Or.inr (Or.inl (h.1 ▸ zM_k3 (z := (S22 1073 1)) (by omega) rfl)); exact Or.inr (Or.inl (h.1 ▸ zM_k6 (z := (12 * (S22 1073 1) + 0)) (by omega) rfl)); exact Or.inr (Or.inl (h.1 ▸ zM_k6 (z := (12 * (S22 1073 1) + 0)) (by omega) rfl)); exact Or.inr (Or.inl (h.1 ▸ zM_k6 (z := (12 * (S22 1073 1) + 0)) (by omega) rfl)); exact Or.inr (Or.inl (h.1 ▸ zM_k6 (z := (12 * (S22 1073 1) + 0)) (by omega) rfl)); exact Or.inr (Or.inl (h.1 ▸ zM_k6 (z := (12 * (S22 1073 1) + 0)) (by omega) rfl)); exact Or.inr (Or.inl (h.1 ▸ zM_k6 (z := (12 * (S22 1073 1) + 0)) (by omega) rfl)); exact Or.inr (Or.inl (h.1 ▸ zM_k6 (z := (12 * (S22 1073 1) + 0)) (by omega) rfl)); exact Or.inr (Or.inl (h.1 ▸ zM_k6 (z := (12 * (S22 1073 1) + 0)) (by omega) rfl)); exact Or.inr (Or.inl (h.1 ▸ zM_k6 (z := (12 * (S22 1073 1) + 0)) (by omega) rfl)); exact Or.inr (Or.inl (h.1 ▸ zM_k6 (z := (12 * (S22 1073 1) + 0)) (by omega) rfl)); exact Or.inr (Or.inl (h.1 ▸ zM_k6 (z := (12 * (S22 1073 1) + 0)) (by omega) rfl)); exact Or.inr (Or.inl (h.1 ▸ zM_k6 (z := (12 * (S22 1073 1) + 0)) (by omega) rfl)); exact Or.inr (Or.inl (h.1 ▸ zM_k6 (z := (12 * (S22 1073 1) + 0)) (by omega) rfl)); exact Or.inr (Or.inl (h.1 ▸ zM_k6 (z := (12 * (S22 1073 1) + 0)) (by omega) rfl)); exact Or.inr (Or.inl (h.1 ▸ zM_k6 (z := (12 * (S22 1073 1) + 0)) (by omega) rfl)))
            have b40 := zz_rf3 (z := (S22 1073 1)) (by omega)
            have b41 := zz_rf6 (z := (12 * (S22 1073 1) + 0)) (by omega)
            have H_S35 : zz_Hc S35 := o38
            rcases (by omega : v36 = 0 ∨ v36 = 1) with rfl | rfl
            · refine zz_if_eq (by omega) zd_8_2_98 (fun c42 => ?_) (fun c42 => ?_)
              · refine zz_iconst zd_8_2_112 ?_
                refine zz_istore [some (.ref 1073), none, some (zi x2), some (zi x3), some (zi 0)] zd_8_2_113 (by decide) rfl ?_
                refine zz_iload (x := 0) rfl zd_8_2_115 ?_
                refine zz_if_ne (by omega) zd_8_2_117 (fun c43 => ?_) (fun c43 => ?_)
                · exfalso; omega
                · refine zz_iload_n (x := x3) rfl zd_8_2_120 ?_
                  exact zz_iret zd_8_2_121 rfl (Nat.zero_le _) (Nat.zero_le _) ⟨_, _, rfl, G_S35, F_S35, by omega, H_S35⟩
              · exfalso; omega
            · refine zz_if_eq (by omega) zd_8_2_98 (fun c44 => ?_) (fun c44 => ?_)
              · exfalso; omega
              · refine zz_aload_n (x := 1073) rfl zd_8_2_101 ?_
                refine zz_callVI [] zd_8_2_102 zk_NetworkReader_68 zT_1073 (zz_ltn hn rfl) rfl rfl ⟨Nat.le_of_ble_eq_true rfl, Nat.le_of_ble_eq_true rfl⟩ ⟨rfl, rfl⟩ (Nat.zero_le _) (Nat.zero_le _) (zc_readOptions_8_7  S35 n hn G_S35 H_S35) (fun v46 S45 hP => ?_)
                obtain ⟨G_S45, fS45, o47, o48⟩ := hP
                have F_S45 := zz_fr.trans F_S35 fS45 rfl zz_nv
                have H_S45 : zz_Hc S45 := o48
                rcases (by omega : v46 = 0 ∨ v46 = 1) with rfl | rfl
                · refine zz_if_eq (by omega) zd_8_2_105 (fun c49 => ?_) (fun c49 => ?_)
                  · refine zz_iconst zd_8_2_112 ?_
                    refine zz_istore [some (.ref 1073), none, some (zi x2), some (zi x3), some (zi 0)] zd_8_2_113 (by decide) rfl ?_
                    refine zz_iload (x := 0) rfl zd_8_2_115 ?_
                    refine zz_if_ne (by omega) zd_8_2_117 (fun c50 => ?_) (fun c50 => ?_)
                    · exfalso; omega
                    · refine zz_iload_n (x := x3) rfl zd_8_2_120 ?_
                      exact zz_iret zd_8_2_121 rfl (Nat.zero_le _) (Nat.zero_le _) ⟨_, _, rfl, G_S45, F_S45, by omega, H_S45⟩
                  · exfalso; omega
                · refine zz_if_eq (by omega) zd_8_2_105 (fun c51 => ?_) (fun c51 => ?_)
                  · exfalso; omega
                  · refine zz_iconst zd_8_2_108 ?_
                    refine zz_goto zd_8_2_109 ?_
                    refine zz_istore [some (.ref 1073), none, some (zi x2), some (zi x3), some (zi 1)] zd_8_2_113 (by decide) rfl ?_
                    refine zz_iload (x := 1) rfl zd_8_2_115 ?_
                    refine zz_if_ne (by omega) zd_8_2_117 (fun c52 => ?_) (fun c52 => ?_)
                    · refine zz_iconst zd_8_2_122 ?_
                      refine zz_istore_n [some (.ref 1073), none, some (zi 1), some (zi x3), some (zi 1)] zd_8_2_123 (by decide) rfl ?_
                      refine zz_aload_n (x := 1073) rfl zd_8_2_124 ?_
                      refine zz_aload_n (x := 1073) rfl zd_8_2_125 ?_
                      have g53 := zz_G.r G_S 1073 1 0 1 rfl rfl
                      refine zz_getr (kd := 1) (z := S 1073 1) zd_8_2_126 zf_NetworkReader_15 zT_1073 rfl (zz_ltn hn rfl) (zz_rc fS45 rfl rfl (fun h => h) (zz_rc fS35 rfl rfl (by omega) (zz_rc fS22 rfl rfl (fun h => h) (zz_rc fS13 rfl rfl (fun h => h) rfl)))) (by omega) (zz_rf 3 (S 1073 1)) rfl ?_
                      have g54 := zz_G.r G_S35 (zz_rf 3 (S 1073 1)) 1 1 11 (zR_k3_1 (by omega)) (zB_k3 (by omega))
                      refine zz_geti (z := S35 (zz_rf 3 (S 1073 1)) 1) zd_8_2_129 zf_NetworkReader_78 (zT_k3 (by omega)) rfl (zN_k3 hn (by omega)) (zz_rc fS45 (zP_k3 (by omega) rfl) (zQ_k3 (by omega) rfl) (fun h => h) rfl) ?_
                      refine zz_iconst zd_8_2_132 ?_
                      refine zz_isub zd_8_2_133 ?_
                      refine zz_callVV [zi ((S35 (zz_rf 3 (S 1073 1)) 1) - 1)] zd_8_2_134 zk_NetworkReader_81 zT_1073 (zz_ltn hn rfl) rfl rfl ⟨Nat.le_of_ble_eq_true rfl, Nat.le_of_ble_eq_true rfl⟩ ⟨rfl, rfl⟩ (Nat.zero_le _) (Nat.zero_le _) (zc_keepName_8_13 ((S35 (zz_rf 3 (S 1073 1)) 1) - 1) S45 n hn G_S45 (by omega)) (fun S55 hP => ?_)
                      obtain ⟨G_S55, fS55⟩ := hP
                      have F_S55 := zz_fr.trans F_S45 fS55 rfl zz_nv
                      have H_S55 : zz_Hc S55 := zz_Hc.fr (q := 0) fS55 rfl rfl G_S45 (by decide) rfl (fun b j h => h.elim) H_S45
                      refine zz_iinc [some (.ref 1073), none, some (zi 1), some (zi (x3 + 1)), some (zi 1)] zd_8_2_137 rfl rfl ?_
                      refine zz_goto zd_8_2_140 ?_
                      refine zz_less (ls1 := [some (.ref 1073), none, some (zi 1), some (zi (x3 + 1))]) ⟨rfl, ⟨rfl, ⟨rfl, trivial⟩⟩⟩ ?_
                      exact k24 1 (x3 + 1) S55 G_S55 F_S55 (by omega) (by omega) H_S55 (by omega)
                    · exfalso; omega
          · refine zz_aload_n (x := 1073) rfl zd_8_2_62 ?_
            refine zz_callVI [] zd_8_2_63 zk_NetworkReader_65 zT_1073 (zz_ltn hn rfl) rfl rfl ⟨Nat.le_of_ble_eq_true rfl, Nat.le_of_ble_eq_true rfl⟩ ⟨rfl, rfl⟩ (Nat.zero_le _) (Nat.zero_le _) (zc_readLayer_8_4  S22 n hn G_S22 H_S22) (fun v58 S57 hP => ?_)
            obtain ⟨G_S57, fS57, o59, o60⟩ := hP
            have F_S57 := zz_fr.trans F_S22 fS57 rfl zz_nv
            have H_S57 : zz_Hc S57 := o60
            rcases (by omega : v58 = 0 ∨ v58 = 1) with rfl | rfl
            · refine zz_if_eq (by omega) zd_8_2_66 (fun c61 => ?_) (fun c61 => ?_)
              · refine zz_iconst zd_8_2_90 ?_
                refine zz_goto zd_8_2_91 ?_
                refine zz_istore [some (.ref 1073), none, some (zi x2), some (zi x3), some (zi 0)] zd_8_2_113 (by decide) rfl ?_
                refine zz_iload (x := 0) rfl zd_8_2_115 ?_
                refine zz_if_ne (by omega) zd_8_2_117 (fun c62 => ?_) (fun c62 => ?_)
                · exfalso; omega
                · refine zz_iload_n (x := x3) rfl zd_8_2_120 ?_
                  exact zz_iret zd_8_2_121 rfl (Nat.zero_le _) (Nat.zero_le _) ⟨_, _, rfl, G_S57, F_S57, by omega, H_S57⟩
              · exfalso; omega
            · refine zz_if_eq (by omega) zd_8_2_66 (fun c63 => ?_) (fun c63 => ?_)
              · exfalso; omega
              · refine zz_aload_n (x := 1073) rfl zd_8_2_69 ?_
                refine zz_callVI [] zd_8_2_70 zk_NetworkReader_68 zT_1073 (zz_ltn hn rfl) rfl rfl ⟨Nat.le_of_ble_eq_true rfl, Nat.le_of_ble_eq_true rfl⟩ ⟨rfl, rfl⟩ (Nat.zero_le _) (Nat.zero_le _) (zc_readOptions_8_7  S57 n hn G_S57 H_S57) (fun v65 S64 hP => ?_)
                obtain ⟨G_S64, fS64, o66, o67⟩ := hP
                have F_S64 := zz_fr.trans F_S57 fS64 rfl zz_nv
                have H_S64 : zz_Hc S64 := o67
                rcases (by omega : v65 = 0 ∨ v65 = 1) with rfl | rfl
                · refine zz_if_eq (by omega) zd_8_2_73 (fun c68 => ?_) (fun c68 => ?_)
                  · refine zz_iconst zd_8_2_90 ?_
                    refine zz_goto zd_8_2_91 ?_
                    refine zz_istore [some (.ref 1073), none, some (zi x2), some (zi x3), some (zi 0)] zd_8_2_113 (by decide) rfl ?_
                    refine zz_iload (x := 0) rfl zd_8_2_115 ?_
                    refine zz_if_ne (by omega) zd_8_2_117 (fun c69 => ?_) (fun c69 => ?_)
                    · exfalso; omega
                    · refine zz_iload_n (x := x3) rfl zd_8_2_120 ?_
                      exact zz_iret zd_8_2_121 rfl (Nat.zero_le _) (Nat.zero_le _) ⟨_, _, rfl, G_S64, F_S64, by omega, H_S64⟩
                  · exfalso; omega
                · refine zz_if_eq (by omega) zd_8_2_73 (fun c70 => ?_) (fun c70 => ?_)
                  · exfalso; omega
                  · refine zz_aload_n (x := 1073) rfl zd_8_2_76 ?_
                    have g71 := zz_G.r G_S 1073 1 0 1 rfl rfl
                    refine zz_getr (kd := 1) (z := S 1073 1) zd_8_2_77 zf_NetworkReader_15 zT_1073 rfl (zz_ltn hn rfl) (zz_rc fS64 rfl rfl (fun h => h) (zz_rc fS57 rfl rfl (fun h => h) (zz_rc fS22 rfl rfl (fun h => h) (zz_rc fS13 rfl rfl (fun h => h) rfl)))) (by omega) (zz_rf 3 (S 1073 1)) rfl ?_
                    refine zz_callVI [] zd_8_2_80 zk_NetworkReader_71 (zT_k3 (by omega)) (zN_k3 hn (by omega)) rfl rfl ⟨Nat.le_of_ble_eq_true rfl, Nat.le_of_ble_eq_true rfl⟩ ⟨rfl, rfl⟩ (Nat.zero_le _) (Nat.zero_le _) (zc_offer_7_7 (S 1073 1) S64 n hn G_S64 (by omega) H_S64) (fun v73 S72 hP => ?_)
                    obtain ⟨G_S72, fS72, o74, o75⟩ := hP
                    have g76 := zz_G.r G_S 1073 1 0 1 rfl rfl
                    have b77 := zz_G.r G_S64 (zz_rf 3 (S 1073 1)) 1 1 11 (zR_k3_1 (by omega)) (zB_k3 (by omega))
                    have F_S72 := zz_fr.trans F_S64 fS72 rfl (fun a i h => by rcases h with h | h | h | h | h; exact Or.inr (Or.inl (h.1 ▸ zM_k3 (z := (S 1073 1)) (by omega) rfl)); exact Or.inr (Or.inl (h.1 ▸ zM_k6 (z := (12 * (S 1073 1) + S64 (zz_rf 3 (S 1073 1)) 1)) (by omega) rfl)); exact Or.inr (Or.inl (h.1 ▸ zM_k6 (z := (12 * (S 1073 1) + S64 (zz_rf 3 (S 1073 1)) 1)) (by omega) rfl)); exact Or.inr (Or.inl (h.1 ▸ zM_k6 (z := (12 * (S 1073 1) + S64 (zz_rf 3 (S 1073 1)) 1)) (by omega) rfl)); exact Or.inr (Or.inl (h.1 ▸ zM_k6 (z := (12 * (S 1073 1) + S64 (zz_rf 3 (S 1073 1)) 1)) (by omega) rfl)))
                    have b78 := zz_rf3 (z := (S 1073 1)) (by omega)
                    have b79 := zz_G.r G_S64 (zz_rf 3 (S 1073 1)) 1 1 11 (zR_k3_1 (by omega)) (zB_k3 (by omega))
                    have b80 := zz_rf6 (z := (12 * (S 1073 1) + S64 (zz_rf 3 (S 1073 1)) 1)) (by omega)
                    have H_S72 : zz_Hc S72 := o75
                    refine zz_if_ne (by omega) zd_8_2_83 (fun c81 => ?_) (fun c81 => ?_)
                    · refine zz_iconst zd_8_2_90 ?_
                      refine zz_goto zd_8_2_91 ?_
                      refine zz_istore [some (.ref 1073), none, some (zi x2), some (zi x3), some (zi 0)] zd_8_2_113 (by decide) rfl ?_
                      refine zz_iload (x := 0) rfl zd_8_2_115 ?_
                      refine zz_if_ne (by omega) zd_8_2_117 (fun c82 => ?_) (fun c82 => ?_)
                      · exfalso; omega
                      · refine zz_iload_n (x := x3) rfl zd_8_2_120 ?_
                        exact zz_iret zd_8_2_121 rfl (Nat.zero_le _) (Nat.zero_le _) ⟨_, _, rfl, G_S72, F_S72, by omega, H_S72⟩
                    · refine zz_iconst zd_8_2_86 ?_
                      refine zz_goto zd_8_2_87 ?_
                      refine zz_istore [some (.ref 1073), none, some (zi x2), some (zi x3), some (zi 1)] zd_8_2_113 (by decide) rfl ?_
                      refine zz_iload (x := 1) rfl zd_8_2_115 ?_
                      refine zz_if_ne (by omega) zd_8_2_117 (fun c83 => ?_) (fun c83 => ?_)
                      · refine zz_iconst zd_8_2_122 ?_
                        refine zz_istore_n [some (.ref 1073), none, some (zi 1), some (zi x3), some (zi 1)] zd_8_2_123 (by decide) rfl ?_
                        refine zz_aload_n (x := 1073) rfl zd_8_2_124 ?_
                        refine zz_aload_n (x := 1073) rfl zd_8_2_125 ?_
                        refine zz_getr (kd := 1) (z := S 1073 1) zd_8_2_126 zf_NetworkReader_15 zT_1073 rfl (zz_ltn hn rfl) (zz_rc fS72 rfl rfl (by omega) (zz_rc fS64 rfl rfl (fun h => h) (zz_rc fS57 rfl rfl (fun h => h) (zz_rc fS22 rfl rfl (fun h => h) (zz_rc fS13 rfl rfl (fun h => h) rfl))))) (by omega) (zz_rf 3 (S 1073 1)) rfl ?_
                        have g84 := zz_G.r G_S72 (zz_rf 3 (S 1073 1)) 1 1 11 (zR_k3_1 (by omega)) (zB_k3 (by omega))
                        refine zz_geti (z := S72 (zz_rf 3 (S 1073 1)) 1) zd_8_2_129 zf_NetworkReader_78 (zT_k3 (by omega)) rfl (zN_k3 hn (by omega)) rfl ?_
                        refine zz_iconst zd_8_2_132 ?_
                        refine zz_isub zd_8_2_133 ?_
                        refine zz_callVV [zi ((S72 (zz_rf 3 (S 1073 1)) 1) - 1)] zd_8_2_134 zk_NetworkReader_81 zT_1073 (zz_ltn hn rfl) rfl rfl ⟨Nat.le_of_ble_eq_true rfl, Nat.le_of_ble_eq_true rfl⟩ ⟨rfl, rfl⟩ (Nat.zero_le _) (Nat.zero_le _) (zc_keepName_8_13 ((S72 (zz_rf 3 (S 1073 1)) 1) - 1) S72 n hn G_S72 (by omega)) (fun S85 hP => ?_)
                        obtain ⟨G_S85, fS85⟩ := hP
                        have F_S85 := zz_fr.trans F_S72 fS85 rfl zz_nv
                        have H_S85 : zz_Hc S85 := zz_Hc.fr (q := 0) fS85 rfl rfl G_S72 (by decide) rfl (fun b j h => h.elim) H_S72
                        refine zz_iinc [some (.ref 1073), none, some (zi 1), some (zi (x3 + 1)), some (zi 1)] zd_8_2_137 rfl rfl ?_
                        refine zz_goto zd_8_2_140 ?_
                        refine zz_less (ls1 := [some (.ref 1073), none, some (zi 1), some (zi (x3 + 1))]) ⟨rfl, ⟨rfl, ⟨rfl, trivial⟩⟩⟩ ?_
                        exact k24 1 (x3 + 1) S85 G_S85 F_S85 (by omega) (by omega) H_S85 (by omega)
                      · exfalso; omega
theorem zi_readInto_8_2 {g : mm_G} {l : Launch} (p0 : Int) (S0 : zz_S) (n : Nat) (hn : zz_end ≤ n) (G_S0 : zz_G S0) (hp0 : 0 ≤ p0 ∧ p0 ≤ 1) (H_S0 : zz_Hc S0) : ∀ N : Nat, (∀ (x2 : Int) (x3 : Int) (S : zz_S), zz_G S → zz_fr [(1070, 2), (1070, 3), (1070, 4), (1070, 5), (1070, 6), (1073, 1), (1073, 4), (1073, 5), (1073, 6), (1073, 7), (1073, 8)] [1001, 1003, 1004, 1005, 1006, 1007, 1008, 1009, 1010, 1011, 1012, 1013, 1014, 1015, 1017, 1018, 1019, 1020, 1021, 1022, 1023, 1024, 1025, 1026, 1027, 1028, 1074, 1075] (fun _ _ => False) S0 S → (0 ≤ x2 ∧ x2 ≤ 1) → (0 ≤ x3 ∧ x3 ≤ 1501) → (zz_Hc S) → (1500 + 1 - x3).toNat < N → zz_E g l zy_readInto_8_2 zr_readInto_8_2 (zz_QI n (zp_readInto_8_2 p0 S0)) S n 24 [some (.ref 1073), none, some (zi x2), some (zi x3)] [] 0 0) := by
  intro N
  induction N with
  | zero => exact fun x2 x3 S _ _ _ _ _ h => absurd h (Nat.not_lt_zero _)
  | succ N ih =>
    exact fun x2 x3 S a b j0 j1 j2 hR => zb_readInto_8_2_24 p0 S0 n hn G_S0 hp0 H_S0 x2 x3 S a b j0 j1 j2 _ rfl (fun x2 x3 S a b j0 j1 j2 h => ih x2 x3 S a b j0 j1 j2 (Nat.lt_of_lt_of_le h (Nat.le_of_lt_succ hR)))
theorem zc_readInto_8_2 {g : mm_G} {l : Launch} (p0 : Int) (S0 : zz_S) (n : Nat) (hn : zz_end ≤ n) (G_S0 : zz_G S0) (hp0 : 0 ≤ p0 ∧ p0 ≤ 1) (H_S0 : zz_Hc S0) : mm_Met g l zy_readInto_8_2 zr_readInto_8_2 [.ref 1073, .ref (zz_rf 3 p0)] (zz_M S0 n) n (zz_QI n (zp_readInto_8_2 p0 S0)) := by
  refine zz_enter (by decide) (Nat.le_of_ble_eq_true rfl) (zz_less (ls1 := [some (.ref 1073), some (.ref (zz_rf 3 p0))]) ⟨rfl, ⟨rfl, trivial⟩⟩ ?_)
  have F_S0 : zz_fr [(1070, 2), (1070, 3), (1070, 4), (1070, 5), (1070, 6), (1073, 1), (1073, 4), (1073, 5), (1073, 6), (1073, 7), (1073, 8)] [1001, 1003, 1004, 1005, 1006, 1007, 1008, 1009, 1010, 1011, 1012, 1013, 1014, 1015, 1017, 1018, 1019, 1020, 1021, 1022, 1023, 1024, 1025, 1026, 1027, 1028, 1074, 1075] (fun _ _ => False) S0 S0 := zz_fr.refl
  have k24 : ∀ (x2 : Int) (x3 : Int) (S : zz_S), zz_G S → zz_fr [(1070, 2), (1070, 3), (1070, 4), (1070, 5), (1070, 6), (1073, 1), (1073, 4), (1073, 5), (1073, 6), (1073, 7), (1073, 8)] [1001, 1003, 1004, 1005, 1006, 1007, 1008, 1009, 1010, 1011, 1012, 1013, 1014, 1015, 1017, 1018, 1019, 1020, 1021, 1022, 1023, 1024, 1025, 1026, 1027, 1028, 1074, 1075] (fun _ _ => False) S0 S → (0 ≤ x2 ∧ x2 ≤ 1) → (0 ≤ x3 ∧ x3 ≤ 1501) → (zz_Hc S) → zz_E g l zy_readInto_8_2 zr_readInto_8_2 (zz_QI n (zp_readInto_8_2 p0 S0)) S n 24 [some (.ref 1073), none, some (zi x2), some (zi x3)] [] 0 0 := fun x2 x3 S a b j0 j1 j2 => (zi_readInto_8_2 (g := g) (l := l) p0 S0 n hn G_S0 hp0 H_S0 _) x2 x3 S a b j0 j1 j2 (Nat.lt_succ_self _)
  have b_p0 := zz_rf3 (z := p0) (by omega)
  refine zz_aload_n (x := 1073) rfl zd_8_2_0 ?_
  refine zz_aload_n (x := zz_rf 3 p0) rfl zd_8_2_1 ?_
  refine zz_putr (kd := 1) p0 zd_8_2_2 zf_NetworkReader_15 zT_1073 rfl (zz_ltn hn rfl) (by omega) rfl (fun _ => rfl) (fun _ => rfl) (fun S1 qS1 => ?_)
  have G_S1 := zz_G.put G_S0 qS1 0 1 rfl (by omega)
  have F_S1 := zz_fr.puts F_S0 qS1 rfl
  have H_S1 : zz_Hc S1 := zz_Hc.fr (q := 0) (zz_fr.put1 qS1) rfl rfl G_S0 (by decide) rfl (fun b j h => by omega) H_S0
  refine zz_iconst zd_8_2_5 ?_
  refine zz_istore_n [some (.ref 1073), some (.ref (zz_rf 3 p0)), some (zi 0)] zd_8_2_6 (by decide) rfl ?_
  refine zz_iconst zd_8_2_7 ?_
  refine zz_istore_n [some (.ref 1073), some (.ref (zz_rf 3 p0)), some (zi 0), some (zi 0)] zd_8_2_8 (by decide) rfl ?_
  refine zz_aload_n (x := 1073) rfl zd_8_2_9 ?_
  refine zz_getr (kd := 0) (z := 1075) zd_8_2_10 zf_NetworkReader_25 zT_1073 rfl (zz_ltn hn rfl) (zz_G.eq G_S1 1073 3 1075 rfl rfl) (by decide) 1075 rfl ?_
  refine zz_iconst zd_8_2_13 ?_
  refine zz_callSV [.ref 1075, zi 0] zd_8_2_14 zk_NetworkReader_44 rfl rfl ⟨Nat.le_of_ble_eq_true rfl, Nat.le_of_ble_eq_true rfl⟩ ⟨rfl, rfl⟩ (Nat.zero_le _) (Nat.zero_le _) (zc_fill_27_103_1075 0 S1 n hn G_S1 (by omega)) (fun S2 hP => ?_)
  obtain ⟨G_S2, fS2⟩ := hP
  have F_S2 := zz_fr.trans F_S1 fS2 rfl zz_nv
  have H_S2 : zz_Hc S2 := zz_Hc.fr (q := 0) fS2 rfl rfl G_S1 (by decide) rfl (fun b j h => h.elim) H_S1
  refine zz_aload_n (x := 1073) rfl zd_8_2_17 ?_
  refine zz_getr (kd := 0) (z := 1070) zd_8_2_18 zf_NetworkReader_9 zT_1073 rfl (zz_ltn hn rfl) (zz_G.eq G_S2 1073 0 1070 rfl rfl) (by decide) 1070 rfl ?_
  refine zz_callVV [] zd_8_2_21 zk_NetworkReader_50 zT_1070 (zz_ltn hn rfl) rfl rfl ⟨Nat.le_of_ble_eq_true rfl, Nat.le_of_ble_eq_true rfl⟩ ⟨rfl, rfl⟩ (Nat.zero_le _) (Nat.zero_le _) (zc_rewind_11_5  S2 n hn G_S2 ) (fun S4 hP => ?_)
  obtain ⟨G_S4, fS4, o6⟩ := hP
  have F_S4 := zz_fr.trans F_S2 fS4 rfl zz_nv
  have H_S4 : zz_Hc S4 := zz_Hc.fr (q := 0) fS4 rfl rfl G_S2 (by decide) rfl (fun b j h => h.elim) H_S2
  refine zz_less (ls1 := [some (.ref 1073), none, some (zi 0), some (zi 0)]) ⟨rfl, ⟨rfl, ⟨rfl, trivial⟩⟩⟩ ?_
  exact k24 0 0 S4 G_S4 F_S4 (by omega) (by omega) H_S4
theorem zk_TF_296 : mm_Vl "TensorForge" 296 8 1 zy_readInto_8_2 := ⟨zyw_readInto_8_2, (R_NetworkReader, F_NetworkReader, 9), rfl, mm_tb_1 912 (by decide +kernel) rfl, mm_tb_1 913 (by decide +kernel) rfl, mm_tb_1 914 (by decide +kernel) rfl⟩
theorem zg_1_25_11 : (decode zy_network_1_25.2.1 11 = .ok ((.istore_n 1), 1)) ∧ (decode zy_network_1_25.2.1 12 = .ok ((.iload_n 1), 1)) ∧ (decode zy_network_1_25.2.1 13 = .ok ((.iconst (-1)), 1)) ∧ (decode zy_network_1_25.2.1 14 = .ok ((Instr.if_icmp .ne) 21, 3)) ∧ (decode zy_network_1_25.2.1 35 = .ok ((.iload_n 1), 1)) ∧ (decode zy_network_1_25.2.1 36 = .ok ((.ireturn), 1)) ∧ (decode zy_network_1_25.2.1 17 = .ok ((.aload_n 0), 1)) ∧ (decode zy_network_1_25.2.1 18 = .ok ((.getfield 10), 3)) ∧ (decode zy_network_1_25.2.1 21 = .ok ((.astore_n 2), 1)) ∧ (decode zy_network_1_25.2.1 22 = .ok ((.aload_n 0), 1)) := by decide +kernel
theorem zd_1_25_11 : zz_D zy_network_1_25 11 (.istore_n 1) 1 12 := ⟨zg_1_25_11.1, rfl⟩
theorem zd_1_25_12 : zz_D zy_network_1_25 12 (.iload_n 1) 1 13 := ⟨zg_1_25_11.2.1, rfl⟩
theorem zd_1_25_13 : zz_D zy_network_1_25 13 (.iconst (-1)) 1 14 := ⟨zg_1_25_11.2.2.1, rfl⟩
theorem zd_1_25_14 : zz_B zy_network_1_25 14 (Instr.if_icmp .ne) 35 17 := ⟨21, zg_1_25_11.2.2.2.1, rfl, rfl⟩
theorem zd_1_25_35 : zz_D zy_network_1_25 35 (.iload_n 1) 1 36 := ⟨zg_1_25_11.2.2.2.2.1, rfl⟩
theorem zd_1_25_36 : zz_D zy_network_1_25 36 (.ireturn) 1 37 := ⟨zg_1_25_11.2.2.2.2.2.1, rfl⟩
theorem zd_1_25_17 : zz_D zy_network_1_25 17 (.aload_n 0) 1 18 := ⟨zg_1_25_11.2.2.2.2.2.2.1, rfl⟩
theorem zd_1_25_18 : zz_D zy_network_1_25 18 (.getfield 10) 3 21 := ⟨zg_1_25_11.2.2.2.2.2.2.2.1, rfl⟩
theorem zd_1_25_21 : zz_D zy_network_1_25 21 (.astore_n 2) 1 22 := ⟨zg_1_25_11.2.2.2.2.2.2.2.2.1, rfl⟩
theorem zd_1_25_22 : zz_D zy_network_1_25 22 (.aload_n 0) 1 23 := ⟨zg_1_25_11.2.2.2.2.2.2.2.2.2, rfl⟩
theorem zg_1_25_23 : (decode zy_network_1_25.2.1 23 = .ok ((.aload_n 0), 1)) ∧ (decode zy_network_1_25.2.1 24 = .ok ((.getfield 16), 3)) ∧ (decode zy_network_1_25.2.1 27 = .ok ((.putfield 10), 3)) ∧ (decode zy_network_1_25.2.1 30 = .ok ((.aload_n 0), 1)) ∧ (decode zy_network_1_25.2.1 31 = .ok ((.aload_n 2), 1)) ∧ (decode zy_network_1_25.2.1 32 = .ok ((.putfield 16), 3)) := by decide +kernel
theorem zd_1_25_23 : zz_D zy_network_1_25 23 (.aload_n 0) 1 24 := ⟨zg_1_25_23.1, rfl⟩
theorem zd_1_25_24 : zz_D zy_network_1_25 24 (.getfield 16) 3 27 := ⟨zg_1_25_23.2.1, rfl⟩
theorem zd_1_25_27 : zz_D zy_network_1_25 27 (.putfield 10) 3 30 := ⟨zg_1_25_23.2.2.1, rfl⟩
theorem zd_1_25_30 : zz_D zy_network_1_25 30 (.aload_n 0) 1 31 := ⟨zg_1_25_23.2.2.2.1, rfl⟩
theorem zd_1_25_31 : zz_D zy_network_1_25 31 (.aload_n 2) 1 32 := ⟨zg_1_25_23.2.2.2.2.1, rfl⟩
theorem zd_1_25_32 : zz_D zy_network_1_25 32 (.putfield 16) 3 35 := ⟨zg_1_25_23.2.2.2.2.2, rfl⟩

-- TensorForge$Line writeLayer (LTensorForge$Layer;)V
abbrev zr_writeLayer_5_4 : Room := { frames := 7, cells := 0, slots := 0, locals := 97 }
def zp_writeLayer_5_4 (p0 : Int) (S0 : zz_S) : zz_S → Prop := fun S => zz_G S ∧ zz_fr [(1077, 1)] [1078] (fun _ _ => False) S0 S ∧ (zs_lq (S0 (zz_rf 6 p0) 0) (S0 (zz_rf 6 p0) 1) (S0 (zz_rf 6 p0) 2) (S0 (zz_rf 6 p0) 3) (S0 (zz_rf 6 p0) 4) (S0 (zz_rf 6 p0) 12) (S0 (zz_rf 6 p0) 9) (S0 (zz_rf 6 p0) 10) (S0 (zz_rf 6 p0) 11) (S0 (zz_rf 6 p0) 5) (S0 (zz_rf 6 p0) 6) (S0 (zz_rf 6 p0) 7) → zs_P (S 1077 1) (S 1078) (zs_op (zs_hd (S0 (zz_rf 6 p0) 0) (S0 (zz_rf 6 p0) 1) (S0 (zz_rf 6 p0) 2) (S0 (zz_rf 6 p0) 3) (S0 (zz_rf 6 p0) 4) (S0 (zz_rf 6 p0) 12) (S0 (zz_rf 6 p0) 9) (S0 (zz_rf 6 p0) 10) (S0 (zz_rf 6 p0) 11)) (S0 (zz_rf 6 p0) 5) (S0 (zz_rf 6 p0) 6) (S0 (zz_rf 6 p0) 7) (S0 (zz_rf 6 p0) 8) ++ [10]))
theorem zc_writeLayer_5_4 {g : mm_G} {l : Launch} (p0 : Int) (S0 : zz_S) (n : Nat) (hn : zz_end ≤ n) (G_S0 : zz_G S0) (hp0 : 0 ≤ p0 ∧ p0 ≤ 23) : mm_Met g l zy_writeLayer_5_4 zr_writeLayer_5_4 [.ref 1077, .ref (zz_rf 6 p0)] (zz_M S0 n) n (zz_QV n (zp_writeLayer_5_4 p0 S0)) := by
  refine zz_enter (by decide) (Nat.le_of_ble_eq_true rfl) (zz_less (ls1 := [some (.ref 1077), some (.ref (zz_rf 6 p0))]) ⟨rfl, ⟨rfl, trivial⟩⟩ ?_)
  have F_S0 : zz_fr [(1077, 1)] [1078] (fun _ _ => False) S0 S0 := zz_fr.refl
  have b_p0 := zz_rf6 (z := p0) (by omega)
  refine zz_aload_n (x := 1077) rfl zd_5_4_0 ?_
  refine zz_iconst zd_5_4_1 ?_
  refine zz_puti zd_5_4_2 zf_Line_15 zT_1077 rfl (zz_ltn hn rfl) (fun S1 qS1 => ?_)
  have G_S1 := zz_G.put G_S0 qS1 0 128 rfl (by omega)
  have F_S1 := zz_fr.puts F_S0 qS1 rfl
  refine zz_aload_n (x := zz_rf 6 p0) rfl zd_5_4_5 ?_
  have g2 := zz_G.r G_S0 (zz_rf 6 p0) 0 (-2147483648) 2147483647 (zR_k6_0 (by omega)) (zB_k6 (by omega))
  refine zz_geti (z := S0 (zz_rf 6 p0) 0) zd_5_4_6 zf_Line_73 (zT_k6 (by omega)) rfl (zN_k6 hn (by omega)) (zz_ro qS1 (fun h => absurd h.2 (by decide)) rfl) ?_
  by_cases c3 : S0 (zz_rf 6 p0) 0 = 1
  · refine zz_swIn 1 27 c3 (by decide) zd_5_4_9 rfl rfl ?_
    refine zz_aload_n (x := 1077) rfl zd_5_4_36 ?_
    refine zz_ldcs (t := 21) (by decide +kernel) (by decide) zd_5_4_37 ?_
    refine zz_aload_n (x := zz_rf 6 p0) rfl zd_5_4_39 ?_
    have g4 := zz_G.r G_S0 (zz_rf 6 p0) 1 (-2147483648) 2147483647 (zR_k6_1 (by omega)) (zB_k6 (by omega))
    refine zz_geti (z := S0 (zz_rf 6 p0) 1) zd_5_4_40 zf_Line_80 (zT_k6 (by omega)) rfl (zN_k6 hn (by omega)) (zz_ro qS1 (fun h => absurd h.1 (by have := zz_rf6 (z := p0) (by omega); omega)) rfl) ?_
    have e5 : S1 1077 1 = 0 := (zz_rs qS1)
    refine zz_callVV [.ref (100 + 21), zi (S0 (zz_rf 6 p0) 1)] zd_5_4_43 zk_Line_83 zT_1077 (zz_ltn hn rfl) rfl rfl ⟨Nat.le_of_ble_eq_true rfl, Nat.le_of_ble_eq_true rfl⟩ ⟨rfl, rfl⟩ (Nat.zero_le _) (Nat.zero_le _) (zc_addNumbered_5_9 21 (S0 (zz_rf 6 p0) 1) S1 n hn G_S1 (by omega) (by omega)) (fun S6 hP => ?_)
    obtain ⟨G_S6, fS6, o8⟩ := hP
    have F_S6 := zz_fr.trans F_S1 fS6 rfl zz_nv
    refine zz_aload_n (x := 1077) rfl zd_5_4_46 ?_
    refine zz_ldcs (t := 11) (by decide +kernel) (by decide) zd_5_4_47 ?_
    refine zz_aload_n (x := zz_rf 6 p0) rfl zd_5_4_49 ?_
    have g9 := zz_G.r G_S0 (zz_rf 6 p0) 3 (-2147483648) 2147483647 (zR_k6_3 (by omega)) (zB_k6 (by omega))
    refine zz_geti (z := S0 (zz_rf 6 p0) 3) zd_5_4_50 zf_Line_87 (zT_k6 (by omega)) rfl (zN_k6 hn (by omega)) (zz_rc fS6 (zP_k6 (by omega) rfl) (zQ_k6 (by omega) rfl) (fun h => h) (zz_ro qS1 (fun h => absurd h.2 (by decide)) rfl)) ?_
    refine zz_aload_n (x := zz_rf 6 p0) rfl zd_5_4_53 ?_
    have g10 := zz_G.r G_S0 (zz_rf 6 p0) 4 (-2147483648) 2147483647 (zR_k6_4 (by omega)) (zB_k6 (by omega))
    refine zz_geti (z := S0 (zz_rf 6 p0) 4) zd_5_4_54 zf_Line_90 (zT_k6 (by omega)) rfl (zN_k6 hn (by omega)) (zz_rc fS6 (zP_k6 (by omega) rfl) (zQ_k6 (by omega) rfl) (fun h => h) (zz_ro qS1 (fun h => absurd h.2 (by decide)) rfl)) ?_
    have g11 := zz_G.r G_S6 1077 1 0 128 rfl rfl
    refine zz_callVV [.ref (100 + 11), zi (S0 (zz_rf 6 p0) 3), zi (S0 (zz_rf 6 p0) 4)] zd_5_4_57 zk_Line_45 zT_1077 (zz_ltn hn rfl) rfl rfl ⟨Nat.le_of_ble_eq_true rfl, Nat.le_of_ble_eq_true rfl⟩ ⟨rfl, rfl⟩ (Nat.zero_le _) (Nat.zero_le _) (zc_addPair_5_8 11 (S0 (zz_rf 6 p0) 3) (S0 (zz_rf 6 p0) 4) S6 n hn G_S6 (by omega) (by omega) (by omega)) (fun S12 hP => ?_)
    obtain ⟨G_S12, fS12, o14⟩ := hP
    have F_S12 := zz_fr.trans F_S6 fS12 rfl zz_nv
    refine zz_aload_n (x := 1077) rfl zd_5_4_60 ?_
    refine zz_ldcs (t := 24) (by decide +kernel) (by decide) zd_5_4_61 ?_
    refine zz_aload_n (x := zz_rf 6 p0) rfl zd_5_4_63 ?_
    have g15 := zz_G.r G_S0 (zz_rf 6 p0) 12 (-2147483648) 2147483647 (zR_k6_12 (by omega)) (zB_k6 (by omega))
    refine zz_geti (z := S0 (zz_rf 6 p0) 12) zd_5_4_64 zf_Line_95 (zT_k6 (by omega)) rfl (zN_k6 hn (by omega)) (zz_rc fS12 (zP_k6 (by omega) rfl) (zQ_k6 (by omega) rfl) (fun h => h) (zz_rc fS6 (zP_k6 (by omega) rfl) (zQ_k6 (by omega) rfl) (fun h => h) (zz_ro qS1 (fun h => absurd h.2 (by decide)) rfl))) ?_
    have g16 := zz_G.r G_S12 1077 1 0 128 rfl rfl
    refine zz_callVV [.ref (100 + 24), zi (S0 (zz_rf 6 p0) 12)] zd_5_4_67 zk_Line_83 zT_1077 (zz_ltn hn rfl) rfl rfl ⟨Nat.le_of_ble_eq_true rfl, Nat.le_of_ble_eq_true rfl⟩ ⟨rfl, rfl⟩ (Nat.zero_le _) (Nat.zero_le _) (zc_addNumbered_5_9 24 (S0 (zz_rf 6 p0) 12) S12 n hn G_S12 (by omega) (by omega)) (fun S17 hP => ?_)
    obtain ⟨G_S17, fS17, o19⟩ := hP
    have F_S17 := zz_fr.trans F_S12 fS17 rfl zz_nv
    refine zz_aload_n (x := 1077) rfl zd_5_4_70 ?_
    refine zz_ldcs (t := 10) (by decide +kernel) (by decide) zd_5_4_71 ?_
    refine zz_aload_n (x := zz_rf 6 p0) rfl zd_5_4_73 ?_
    have g20 := zz_G.r G_S0 (zz_rf 6 p0) 9 (-2147483648) 2147483647 (zR_k6_9 (by omega)) (zB_k6 (by omega))
    refine zz_geti (z := S0 (zz_rf 6 p0) 9) zd_5_4_74 zf_Line_98 (zT_k6 (by omega)) rfl (zN_k6 hn (by omega)) (zz_rc fS17 (zP_k6 (by omega) rfl) (zQ_k6 (by omega) rfl) (fun h => h) (zz_rc fS12 (zP_k6 (by omega) rfl) (zQ_k6 (by omega) rfl) (fun h => h) (zz_rc fS6 (zP_k6 (by omega) rfl) (zQ_k6 (by omega) rfl) (fun h => h) (zz_ro qS1 (fun h => absurd h.2 (by decide)) rfl)))) ?_
    have g21 := zz_G.r G_S17 1077 1 0 128 rfl rfl
    refine zz_callVV [.ref (100 + 10), zi (S0 (zz_rf 6 p0) 9)] zd_5_4_77 zk_Line_83 zT_1077 (zz_ltn hn rfl) rfl rfl ⟨Nat.le_of_ble_eq_true rfl, Nat.le_of_ble_eq_true rfl⟩ ⟨rfl, rfl⟩ (Nat.zero_le _) (Nat.zero_le _) (zc_addNumbered_5_9 10 (S0 (zz_rf 6 p0) 9) S17 n hn G_S17 (by omega) (by omega)) (fun S22 hP => ?_)
    obtain ⟨G_S22, fS22, o24⟩ := hP
    have F_S22 := zz_fr.trans F_S17 fS22 rfl zz_nv
    refine zz_goto zd_5_4_80 ?_
    refine zz_aload_n (x := 1077) rfl zd_5_4_155 ?_
    refine zz_aload_n (x := zz_rf 6 p0) rfl zd_5_4_156 ?_
    have g25 := zz_G.r G_S22 1077 1 0 128 rfl rfl
    have e26 : S22 (zz_rf 6 p0) 5 = S0 (zz_rf 6 p0) 5 := (zz_rc fS22 (zP_k6 (by omega) rfl) (zQ_k6 (by omega) rfl) (fun h => h) (zz_rc fS17 (zP_k6 (by omega) rfl) (zQ_k6 (by omega) rfl) (fun h => h) (zz_rc fS12 (zP_k6 (by omega) rfl) (zQ_k6 (by omega) rfl) (fun h => h) (zz_rc fS6 (zP_k6 (by omega) rfl) (zQ_k6 (by omega) rfl) (fun h => h) (zz_ro qS1 (fun h => absurd h.2 (by decide)) rfl)))))
    have e27 : S22 (zz_rf 6 p0) 6 = S0 (zz_rf 6 p0) 6 := (zz_rc fS22 (zP_k6 (by omega) rfl) (zQ_k6 (by omega) rfl) (fun h => h) (zz_rc fS17 (zP_k6 (by omega) rfl) (zQ_k6 (by omega) rfl) (fun h => h) (zz_rc fS12 (zP_k6 (by omega) rfl) (zQ_k6 (by omega) rfl) (fun h => h) (zz_rc fS6 (zP_k6 (by omega) rfl) (zQ_k6 (by omega) rfl) (fun h => h) (zz_ro qS1 (fun h => absurd h.2 (by decide)) rfl)))))
    have e28 : S22 (zz_rf 6 p0) 7 = S0 (zz_rf 6 p0) 7 := (zz_rc fS22 (zP_k6 (by omega) rfl) (zQ_k6 (by omega) rfl) (fun h => h) (zz_rc fS17 (zP_k6 (by omega) rfl) (zQ_k6 (by omega) rfl) (fun h => h) (zz_rc fS12 (zP_k6 (by omega) rfl) (zQ_k6 (by omega) rfl) (fun h => h) (zz_rc fS6 (zP_k6 (by omega) rfl) (zQ_k6 (by omega) rfl) (fun h => h) (zz_ro qS1 (fun h => absurd h.2 (by decide)) rfl)))))
    have e29 : S22 (zz_rf 6 p0) 8 = S0 (zz_rf 6 p0) 8 := (zz_rc fS22 (zP_k6 (by omega) rfl) (zQ_k6 (by omega) rfl) (fun h => h) (zz_rc fS17 (zP_k6 (by omega) rfl) (zQ_k6 (by omega) rfl) (fun h => h) (zz_rc fS12 (zP_k6 (by omega) rfl) (zQ_k6 (by omega) rfl) (fun h => h) (zz_rc fS6 (zP_k6 (by omega) rfl) (zQ_k6 (by omega) rfl) (fun h => h) (zz_ro qS1 (fun h => absurd h.2 (by decide)) rfl)))))
    refine zz_callVV [.ref (zz_rf 6 p0)] zd_5_4_157 zk_Line_122 zT_1077 (zz_ltn hn rfl) rfl rfl ⟨Nat.le_of_ble_eq_true rfl, Nat.le_of_ble_eq_true rfl⟩ ⟨rfl, rfl⟩ (Nat.zero_le _) (Nat.zero_le _) (zc_addOptions_5_5 p0 S22 n hn G_S22 (by omega)) (fun S30 hP => ?_)
    obtain ⟨G_S30, fS30, o32⟩ := hP
    have F_S30 := zz_fr.trans F_S22 fS30 rfl zz_nv
    refine zz_aload_n (x := 1077) rfl zd_5_4_160 ?_
    refine zz_bipush (by decide) zd_5_4_161 ?_
    have g33 := zz_G.r G_S30 1077 1 0 128 rfl rfl
    refine zz_callVV [zi 10] zd_5_4_163 zk_Line_69 zT_1077 (zz_ltn hn rfl) rfl rfl ⟨Nat.le_of_ble_eq_true rfl, Nat.le_of_ble_eq_true rfl⟩ ⟨rfl, rfl⟩ (Nat.zero_le _) (Nat.zero_le _) (zc_addSign_5_12 10 S30 n hn G_S30 (by omega)) (fun S34 hP => ?_)
    obtain ⟨G_S34, fS34, o36⟩ := hP
    have F_S34 := zz_fr.trans F_S30 fS34 rfl zz_nv
    have g37 := zz_G.r G_S34 1077 1 0 128 rfl rfl
    exact zz_vret zd_5_4_166 rfl (Nat.zero_le _) (Nat.zero_le _) ⟨_, rfl, G_S34, F_S34, (fun hq => by unfold zs_lq at hq; have k0 : zs_L (S1 1077 1) (S1 1078) [] 0 := ⟨zs_P0 (zz_rs qS1), Nat.le_refl 0⟩; have k1 := o8 _ _ k0 (by omega) (by omega); rw [show zt_tw 21 = zs_wconv by decide +kernel] at k1; have k1 := zs_Lm (k := 10) k1 (by show _ + 4 + 6 ≤ _; omega); have k2 := o14 _ _ k1 (by omega) (by omega) (by omega); rw [show zt_tw 11 = zs_wby by decide +kernel] at k2; have k2 := zs_Lm (k := 25) k2 (by show _ + 2 + 13 ≤ _; omega); have k3 := o19 _ _ k2 (by omega) (by omega); rw [show zt_tw 24 = zs_woutputs by decide +kernel] at k3; have k3 := zs_Lm (k := 38) k3 (by show _ + 7 + 6 ≤ _; omega); have k4 := o24 _ _ k3 (by omega) (by omega); rw [show zt_tw 10 = zs_wat by decide +kernel] at k4; have k4 := zs_Lm (k := 46) k4 (by show _ + 2 + 6 ≤ _; omega); have k5 := o32 _ _ (S0 (zz_rf 6 p0) 5) (S0 (zz_rf 6 p0) 6) (S0 (zz_rf 6 p0) 7) (S0 (zz_rf 6 p0) 8) k4 (by omega) (by omega) (F_S22 _ _ (zP_k6 (by omega) rfl) (zQ_k6 (by omega) rfl) (fun h => h)) (F_S22 _ _ (zP_k6 (by omega) rfl) (zQ_k6 (by omega) rfl) (fun h => h)) (F_S22 _ _ (zP_k6 (by omega) rfl) (zQ_k6 (by omega) rfl) (fun h => h)) (F_S22 _ _ (zP_k6 (by omega) rfl) (zQ_k6 (by omega) rfl) (fun h => h)); have k6 := o36 _ k5.1 (by have z9 := k5.2; omega); have e9 := zs_hd1 (K := (S0 (zz_rf 6 p0) 0)) (a := (S0 (zz_rf 6 p0) 1)) (b := (S0 (zz_rf 6 p0) 2)) (kh := (S0 (zz_rf 6 p0) 3)) (kw := (S0 (zz_rf 6 p0) 4)) (ch := (S0 (zz_rf 6 p0) 12)) (ad := (S0 (zz_rf 6 p0) 9)) (h := (S0 (zz_rf 6 p0) 10)) (w := (S0 (zz_rf 6 p0) 11)) (by omega); rw [e9]; exact k6)⟩
  by_cases c38 : S0 (zz_rf 6 p0) 0 = 2
  · refine zz_swIn 2 74 c38 (by decide) zd_5_4_9 rfl rfl ?_
    refine zz_aload_n (x := 1077) rfl zd_5_4_83 ?_
    refine zz_ldcs (t := 22) (by decide +kernel) (by decide) zd_5_4_84 ?_
    refine zz_aload_n (x := zz_rf 6 p0) rfl zd_5_4_86 ?_
    have g39 := zz_G.r G_S0 (zz_rf 6 p0) 1 (-2147483648) 2147483647 (zR_k6_1 (by omega)) (zB_k6 (by omega))
    refine zz_geti (z := S0 (zz_rf 6 p0) 1) zd_5_4_87 zf_Line_80 (zT_k6 (by omega)) rfl (zN_k6 hn (by omega)) (zz_ro qS1 (fun h => absurd h.1 (by have := zz_rf6 (z := p0) (by omega); omega)) rfl) ?_
    have e40 : S1 1077 1 = 0 := (zz_rs qS1)
    refine zz_callVV [.ref (100 + 22), zi (S0 (zz_rf 6 p0) 1)] zd_5_4_90 zk_Line_83 zT_1077 (zz_ltn hn rfl) rfl rfl ⟨Nat.le_of_ble_eq_true rfl, Nat.le_of_ble_eq_true rfl⟩ ⟨rfl, rfl⟩ (Nat.zero_le _) (Nat.zero_le _) (zc_addNumbered_5_9 22 (S0 (zz_rf 6 p0) 1) S1 n hn G_S1 (by omega) (by omega)) (fun S41 hP => ?_)
    obtain ⟨G_S41, fS41, o43⟩ := hP
    have F_S41 := zz_fr.trans F_S1 fS41 rfl zz_nv
    refine zz_aload_n (x := 1077) rfl zd_5_4_93 ?_
    refine zz_ldcs (t := 11) (by decide +kernel) (by decide) zd_5_4_94 ?_
    refine zz_aload_n (x := zz_rf 6 p0) rfl zd_5_4_96 ?_
    have g44 := zz_G.r G_S0 (zz_rf 6 p0) 3 (-2147483648) 2147483647 (zR_k6_3 (by omega)) (zB_k6 (by omega))
    refine zz_geti (z := S0 (zz_rf 6 p0) 3) zd_5_4_97 zf_Line_87 (zT_k6 (by omega)) rfl (zN_k6 hn (by omega)) (zz_rc fS41 (zP_k6 (by omega) rfl) (zQ_k6 (by omega) rfl) (fun h => h) (zz_ro qS1 (fun h => absurd h.2 (by decide)) rfl)) ?_
    refine zz_aload_n (x := zz_rf 6 p0) rfl zd_5_4_100 ?_
    have g45 := zz_G.r G_S0 (zz_rf 6 p0) 4 (-2147483648) 2147483647 (zR_k6_4 (by omega)) (zB_k6 (by omega))
    refine zz_geti (z := S0 (zz_rf 6 p0) 4) zd_5_4_101 zf_Line_90 (zT_k6 (by omega)) rfl (zN_k6 hn (by omega)) (zz_rc fS41 (zP_k6 (by omega) rfl) (zQ_k6 (by omega) rfl) (fun h => h) (zz_ro qS1 (fun h => absurd h.2 (by decide)) rfl)) ?_
    have g46 := zz_G.r G_S41 1077 1 0 128 rfl rfl
    refine zz_callVV [.ref (100 + 11), zi (S0 (zz_rf 6 p0) 3), zi (S0 (zz_rf 6 p0) 4)] zd_5_4_104 zk_Line_45 zT_1077 (zz_ltn hn rfl) rfl rfl ⟨Nat.le_of_ble_eq_true rfl, Nat.le_of_ble_eq_true rfl⟩ ⟨rfl, rfl⟩ (Nat.zero_le _) (Nat.zero_le _) (zc_addPair_5_8 11 (S0 (zz_rf 6 p0) 3) (S0 (zz_rf 6 p0) 4) S41 n hn G_S41 (by omega) (by omega) (by omega)) (fun S47 hP => ?_)
    obtain ⟨G_S47, fS47, o49⟩ := hP
    have F_S47 := zz_fr.trans F_S41 fS47 rfl zz_nv
    refine zz_goto zd_5_4_107 ?_
    refine zz_aload_n (x := 1077) rfl zd_5_4_155 ?_
    refine zz_aload_n (x := zz_rf 6 p0) rfl zd_5_4_156 ?_
    have g50 := zz_G.r G_S47 1077 1 0 128 rfl rfl
    have e51 : S47 (zz_rf 6 p0) 5 = S0 (zz_rf 6 p0) 5 := (zz_rc fS47 (zP_k6 (by omega) rfl) (zQ_k6 (by omega) rfl) (fun h => h) (zz_rc fS41 (zP_k6 (by omega) rfl) (zQ_k6 (by omega) rfl) (fun h => h) (zz_ro qS1 (fun h => absurd h.2 (by decide)) rfl)))
    have e52 : S47 (zz_rf 6 p0) 6 = S0 (zz_rf 6 p0) 6 := (zz_rc fS47 (zP_k6 (by omega) rfl) (zQ_k6 (by omega) rfl) (fun h => h) (zz_rc fS41 (zP_k6 (by omega) rfl) (zQ_k6 (by omega) rfl) (fun h => h) (zz_ro qS1 (fun h => absurd h.2 (by decide)) rfl)))
    have e53 : S47 (zz_rf 6 p0) 7 = S0 (zz_rf 6 p0) 7 := (zz_rc fS47 (zP_k6 (by omega) rfl) (zQ_k6 (by omega) rfl) (fun h => h) (zz_rc fS41 (zP_k6 (by omega) rfl) (zQ_k6 (by omega) rfl) (fun h => h) (zz_ro qS1 (fun h => absurd h.2 (by decide)) rfl)))
    have e54 : S47 (zz_rf 6 p0) 8 = S0 (zz_rf 6 p0) 8 := (zz_rc fS47 (zP_k6 (by omega) rfl) (zQ_k6 (by omega) rfl) (fun h => h) (zz_rc fS41 (zP_k6 (by omega) rfl) (zQ_k6 (by omega) rfl) (fun h => h) (zz_ro qS1 (fun h => absurd h.2 (by decide)) rfl)))
    refine zz_callVV [.ref (zz_rf 6 p0)] zd_5_4_157 zk_Line_122 zT_1077 (zz_ltn hn rfl) rfl rfl ⟨Nat.le_of_ble_eq_true rfl, Nat.le_of_ble_eq_true rfl⟩ ⟨rfl, rfl⟩ (Nat.zero_le _) (Nat.zero_le _) (zc_addOptions_5_5 p0 S47 n hn G_S47 (by omega)) (fun S55 hP => ?_)
    obtain ⟨G_S55, fS55, o57⟩ := hP
    have F_S55 := zz_fr.trans F_S47 fS55 rfl zz_nv
    refine zz_aload_n (x := 1077) rfl zd_5_4_160 ?_
    refine zz_bipush (by decide) zd_5_4_161 ?_
    have g58 := zz_G.r G_S55 1077 1 0 128 rfl rfl
    refine zz_callVV [zi 10] zd_5_4_163 zk_Line_69 zT_1077 (zz_ltn hn rfl) rfl rfl ⟨Nat.le_of_ble_eq_true rfl, Nat.le_of_ble_eq_true rfl⟩ ⟨rfl, rfl⟩ (Nat.zero_le _) (Nat.zero_le _) (zc_addSign_5_12 10 S55 n hn G_S55 (by omega)) (fun S59 hP => ?_)
    obtain ⟨G_S59, fS59, o61⟩ := hP
    have F_S59 := zz_fr.trans F_S55 fS59 rfl zz_nv
    have g62 := zz_G.r G_S59 1077 1 0 128 rfl rfl
    exact zz_vret zd_5_4_166 rfl (Nat.zero_le _) (Nat.zero_le _) ⟨_, rfl, G_S59, F_S59, (fun hq => by unfold zs_lq at hq; have k0 : zs_L (S1 1077 1) (S1 1078) [] 0 := ⟨zs_P0 (zz_rs qS1), Nat.le_refl 0⟩; have k1 := o43 _ _ k0 (by omega) (by omega); rw [show zt_tw 22 = zs_wpool by decide +kernel] at k1; have k1 := zs_Lm (k := 10) k1 (by show _ + 4 + 6 ≤ _; omega); have k2 := o49 _ _ k1 (by omega) (by omega) (by omega); rw [show zt_tw 11 = zs_wby by decide +kernel] at k2; have k2 := zs_Lm (k := 25) k2 (by show _ + 2 + 13 ≤ _; omega); have k3 := o57 _ _ (S0 (zz_rf 6 p0) 5) (S0 (zz_rf 6 p0) 6) (S0 (zz_rf 6 p0) 7) (S0 (zz_rf 6 p0) 8) k2 (by omega) (by omega) (F_S47 _ _ (zP_k6 (by omega) rfl) (zQ_k6 (by omega) rfl) (fun h => h)) (F_S47 _ _ (zP_k6 (by omega) rfl) (zQ_k6 (by omega) rfl) (fun h => h)) (F_S47 _ _ (zP_k6 (by omega) rfl) (zQ_k6 (by omega) rfl) (fun h => h)) (F_S47 _ _ (zP_k6 (by omega) rfl) (zQ_k6 (by omega) rfl) (fun h => h)); have k4 := o61 _ k3.1 (by have z9 := k3.2; omega); have e9 := zs_hd2 (K := (S0 (zz_rf 6 p0) 0)) (a := (S0 (zz_rf 6 p0) 1)) (b := (S0 (zz_rf 6 p0) 2)) (kh := (S0 (zz_rf 6 p0) 3)) (kw := (S0 (zz_rf 6 p0) 4)) (ch := (S0 (zz_rf 6 p0) 12)) (ad := (S0 (zz_rf 6 p0) 9)) (h := (S0 (zz_rf 6 p0) 10)) (w := (S0 (zz_rf 6 p0) 11)) (by omega); rw [e9]; exact k4)⟩
  by_cases c63 : S0 (zz_rf 6 p0) 0 = 3
  · refine zz_swIn 3 101 c63 (by decide) zd_5_4_9 rfl rfl ?_
    refine zz_aload_n (x := 1077) rfl zd_5_4_110 ?_
    refine zz_ldcs (t := 23) (by decide +kernel) (by decide) zd_5_4_111 ?_
    refine zz_aload_n (x := zz_rf 6 p0) rfl zd_5_4_113 ?_
    have g64 := zz_G.r G_S0 (zz_rf 6 p0) 1 (-2147483648) 2147483647 (zR_k6_1 (by omega)) (zB_k6 (by omega))
    refine zz_geti (z := S0 (zz_rf 6 p0) 1) zd_5_4_114 zf_Line_80 (zT_k6 (by omega)) rfl (zN_k6 hn (by omega)) (zz_ro qS1 (fun h => absurd h.1 (by have := zz_rf6 (z := p0) (by omega); omega)) rfl) ?_
    have e65 : S1 1077 1 = 0 := (zz_rs qS1)
    refine zz_callVV [.ref (100 + 23), zi (S0 (zz_rf 6 p0) 1)] zd_5_4_117 zk_Line_83 zT_1077 (zz_ltn hn rfl) rfl rfl ⟨Nat.le_of_ble_eq_true rfl, Nat.le_of_ble_eq_true rfl⟩ ⟨rfl, rfl⟩ (Nat.zero_le _) (Nat.zero_le _) (zc_addNumbered_5_9 23 (S0 (zz_rf 6 p0) 1) S1 n hn G_S1 (by omega) (by omega)) (fun S66 hP => ?_)
    obtain ⟨G_S66, fS66, o68⟩ := hP
    have F_S66 := zz_fr.trans F_S1 fS66 rfl zz_nv
    refine zz_aload_n (x := 1077) rfl zd_5_4_120 ?_
    refine zz_aload_n (x := zz_rf 6 p0) rfl zd_5_4_121 ?_
    have g69 := zz_G.r G_S0 (zz_rf 6 p0) 2 (-2147483648) 2147483647 (zR_k6_2 (by omega)) (zB_k6 (by omega))
    refine zz_geti (z := S0 (zz_rf 6 p0) 2) zd_5_4_122 zf_Line_105 (zT_k6 (by omega)) rfl (zN_k6 hn (by omega)) (zz_rc fS66 (zP_k6 (by omega) rfl) (zQ_k6 (by omega) rfl) (fun h => h) (zz_ro qS1 (fun h => absurd h.2 (by decide)) rfl)) ?_
    have g70 := zz_G.r G_S66 1077 1 0 128 rfl rfl
    refine zz_callVV [zi (S0 (zz_rf 6 p0) 2)] zd_5_4_125 zk_Line_108 zT_1077 (zz_ltn hn rfl) rfl rfl ⟨Nat.le_of_ble_eq_true rfl, Nat.le_of_ble_eq_true rfl⟩ ⟨rfl, rfl⟩ (Nat.zero_le _) (Nat.zero_le _) (zc_addNumber_5_11 (S0 (zz_rf 6 p0) 2) S66 n hn G_S66 (by omega)) (fun S71 hP => ?_)
    obtain ⟨G_S71, fS71, o73⟩ := hP
    have F_S71 := zz_fr.trans F_S66 fS71 rfl zz_nv
    refine zz_goto zd_5_4_128 ?_
    refine zz_aload_n (x := 1077) rfl zd_5_4_155 ?_
    refine zz_aload_n (x := zz_rf 6 p0) rfl zd_5_4_156 ?_
    have g74 := zz_G.r G_S71 1077 1 0 128 rfl rfl
    have e75 : S71 (zz_rf 6 p0) 5 = S0 (zz_rf 6 p0) 5 := (zz_rc fS71 (zP_k6 (by omega) rfl) (zQ_k6 (by omega) rfl) (fun h => h) (zz_rc fS66 (zP_k6 (by omega) rfl) (zQ_k6 (by omega) rfl) (fun h => h) (zz_ro qS1 (fun h => absurd h.2 (by decide)) rfl)))
    have e76 : S71 (zz_rf 6 p0) 6 = S0 (zz_rf 6 p0) 6 := (zz_rc fS71 (zP_k6 (by omega) rfl) (zQ_k6 (by omega) rfl) (fun h => h) (zz_rc fS66 (zP_k6 (by omega) rfl) (zQ_k6 (by omega) rfl) (fun h => h) (zz_ro qS1 (fun h => absurd h.2 (by decide)) rfl)))
    have e77 : S71 (zz_rf 6 p0) 7 = S0 (zz_rf 6 p0) 7 := (zz_rc fS71 (zP_k6 (by omega) rfl) (zQ_k6 (by omega) rfl) (fun h => h) (zz_rc fS66 (zP_k6 (by omega) rfl) (zQ_k6 (by omega) rfl) (fun h => h) (zz_ro qS1 (fun h => absurd h.2 (by decide)) rfl)))
    have e78 : S71 (zz_rf 6 p0) 8 = S0 (zz_rf 6 p0) 8 := (zz_rc fS71 (zP_k6 (by omega) rfl) (zQ_k6 (by omega) rfl) (fun h => h) (zz_rc fS66 (zP_k6 (by omega) rfl) (zQ_k6 (by omega) rfl) (fun h => h) (zz_ro qS1 (fun h => absurd h.2 (by decide)) rfl)))
    refine zz_callVV [.ref (zz_rf 6 p0)] zd_5_4_157 zk_Line_122 zT_1077 (zz_ltn hn rfl) rfl rfl ⟨Nat.le_of_ble_eq_true rfl, Nat.le_of_ble_eq_true rfl⟩ ⟨rfl, rfl⟩ (Nat.zero_le _) (Nat.zero_le _) (zc_addOptions_5_5 p0 S71 n hn G_S71 (by omega)) (fun S79 hP => ?_)
    obtain ⟨G_S79, fS79, o81⟩ := hP
    have F_S79 := zz_fr.trans F_S71 fS79 rfl zz_nv
    refine zz_aload_n (x := 1077) rfl zd_5_4_160 ?_
    refine zz_bipush (by decide) zd_5_4_161 ?_
    have g82 := zz_G.r G_S79 1077 1 0 128 rfl rfl
    refine zz_callVV [zi 10] zd_5_4_163 zk_Line_69 zT_1077 (zz_ltn hn rfl) rfl rfl ⟨Nat.le_of_ble_eq_true rfl, Nat.le_of_ble_eq_true rfl⟩ ⟨rfl, rfl⟩ (Nat.zero_le _) (Nat.zero_le _) (zc_addSign_5_12 10 S79 n hn G_S79 (by omega)) (fun S83 hP => ?_)
    obtain ⟨G_S83, fS83, o85⟩ := hP
    have F_S83 := zz_fr.trans F_S79 fS83 rfl zz_nv
    have g86 := zz_G.r G_S83 1077 1 0 128 rfl rfl
    exact zz_vret zd_5_4_166 rfl (Nat.zero_le _) (Nat.zero_le _) ⟨_, rfl, G_S83, F_S83, (fun hq => by unfold zs_lq at hq; have k0 : zs_L (S1 1077 1) (S1 1078) [] 0 := ⟨zs_P0 (zz_rs qS1), Nat.le_refl 0⟩; have k1 := o68 _ _ k0 (by omega) (by omega); rw [show zt_tw 23 = zs_wadd by decide +kernel] at k1; have k1 := zs_Lm (k := 9) k1 (by show _ + 3 + 6 ≤ _; omega); have k2 := o73 _ _ k1 (by omega) (by omega); have k2 := zs_Lm (k := 14) k2 (by omega); have k3 := o81 _ _ (S0 (zz_rf 6 p0) 5) (S0 (zz_rf 6 p0) 6) (S0 (zz_rf 6 p0) 7) (S0 (zz_rf 6 p0) 8) k2 (by omega) (by omega) (F_S71 _ _ (zP_k6 (by omega) rfl) (zQ_k6 (by omega) rfl) (fun h => h)) (F_S71 _ _ (zP_k6 (by omega) rfl) (zQ_k6 (by omega) rfl) (fun h => h)) (F_S71 _ _ (zP_k6 (by omega) rfl) (zQ_k6 (by omega) rfl) (fun h => h)) (F_S71 _ _ (zP_k6 (by omega) rfl) (zQ_k6 (by omega) rfl) (fun h => h)); have k4 := o85 _ k3.1 (by have z9 := k3.2; omega); have e9 := zs_hd3 (K := (S0 (zz_rf 6 p0) 0)) (a := (S0 (zz_rf 6 p0) 1)) (b := (S0 (zz_rf 6 p0) 2)) (kh := (S0 (zz_rf 6 p0) 3)) (kw := (S0 (zz_rf 6 p0) 4)) (ch := (S0 (zz_rf 6 p0) 12)) (ad := (S0 (zz_rf 6 p0) 9)) (h := (S0 (zz_rf 6 p0) 10)) (w := (S0 (zz_rf 6 p0) 11)) (by omega); rw [e9]; exact k4)⟩
  refine zz_swOut (by omega) (by omega) zd_5_4_9 rfl ?_
  refine zz_aload_n (x := 1077) rfl zd_5_4_131 ?_
  refine zz_ldcs (t := 29) (by decide +kernel) (by decide) zd_5_4_132 ?_
  refine zz_aload_n (x := zz_rf 6 p0) rfl zd_5_4_134 ?_
  have g88 := zz_G.r G_S0 (zz_rf 6 p0) 10 (-2147483648) 2147483647 (zR_k6_10 (by omega)) (zB_k6 (by omega))
  refine zz_geti (z := S0 (zz_rf 6 p0) 10) zd_5_4_135 zf_Line_114 (zT_k6 (by omega)) rfl (zN_k6 hn (by omega)) (zz_ro qS1 (fun h => absurd h.2 (by decide)) rfl) ?_
  refine zz_aload_n (x := zz_rf 6 p0) rfl zd_5_4_138 ?_
  have g89 := zz_G.r G_S0 (zz_rf 6 p0) 11 (-2147483648) 2147483647 (zR_k6_11 (by omega)) (zB_k6 (by omega))
  refine zz_geti (z := S0 (zz_rf 6 p0) 11) zd_5_4_139 zf_Line_117 (zT_k6 (by omega)) rfl (zN_k6 hn (by omega)) (zz_ro qS1 (fun h => absurd h.2 (by decide)) rfl) ?_
  have e90 : S1 1077 1 = 0 := (zz_rs qS1)
  refine zz_callVV [.ref (100 + 29), zi (S0 (zz_rf 6 p0) 10), zi (S0 (zz_rf 6 p0) 11)] zd_5_4_142 zk_Line_45 zT_1077 (zz_ltn hn rfl) rfl rfl ⟨Nat.le_of_ble_eq_true rfl, Nat.le_of_ble_eq_true rfl⟩ ⟨rfl, rfl⟩ (Nat.zero_le _) (Nat.zero_le _) (zc_addPair_5_8 29 (S0 (zz_rf 6 p0) 10) (S0 (zz_rf 6 p0) 11) S1 n hn G_S1 (by omega) (by omega) (by omega)) (fun S91 hP => ?_)
  obtain ⟨G_S91, fS91, o93⟩ := hP
  have F_S91 := zz_fr.trans F_S1 fS91 rfl zz_nv
  refine zz_aload_n (x := 1077) rfl zd_5_4_145 ?_
  refine zz_ldcs (t := 12) (by decide +kernel) (by decide) zd_5_4_146 ?_
  refine zz_aload_n (x := zz_rf 6 p0) rfl zd_5_4_148 ?_
  have g94 := zz_G.r G_S0 (zz_rf 6 p0) 12 (-2147483648) 2147483647 (zR_k6_12 (by omega)) (zB_k6 (by omega))
  refine zz_geti (z := S0 (zz_rf 6 p0) 12) zd_5_4_149 zf_Line_95 (zT_k6 (by omega)) rfl (zN_k6 hn (by omega)) (zz_rc fS91 (zP_k6 (by omega) rfl) (zQ_k6 (by omega) rfl) (fun h => h) (zz_ro qS1 (fun h => absurd h.2 (by decide)) rfl)) ?_
  have g95 := zz_G.r G_S91 1077 1 0 128 rfl rfl
  refine zz_callVV [.ref (100 + 12), zi (S0 (zz_rf 6 p0) 12)] zd_5_4_152 zk_Line_83 zT_1077 (zz_ltn hn rfl) rfl rfl ⟨Nat.le_of_ble_eq_true rfl, Nat.le_of_ble_eq_true rfl⟩ ⟨rfl, rfl⟩ (Nat.zero_le _) (Nat.zero_le _) (zc_addNumbered_5_9 12 (S0 (zz_rf 6 p0) 12) S91 n hn G_S91 (by omega) (by omega)) (fun S96 hP => ?_)
  obtain ⟨G_S96, fS96, o98⟩ := hP
  have F_S96 := zz_fr.trans F_S91 fS96 rfl zz_nv
  refine zz_aload_n (x := 1077) rfl zd_5_4_155 ?_
  refine zz_aload_n (x := zz_rf 6 p0) rfl zd_5_4_156 ?_
  have g99 := zz_G.r G_S96 1077 1 0 128 rfl rfl
  have e100 : S96 (zz_rf 6 p0) 5 = S0 (zz_rf 6 p0) 5 := (zz_rc fS96 (zP_k6 (by omega) rfl) (zQ_k6 (by omega) rfl) (fun h => h) (zz_rc fS91 (zP_k6 (by omega) rfl) (zQ_k6 (by omega) rfl) (fun h => h) (zz_ro qS1 (fun h => absurd h.2 (by decide)) rfl)))
  have e101 : S96 (zz_rf 6 p0) 6 = S0 (zz_rf 6 p0) 6 := (zz_rc fS96 (zP_k6 (by omega) rfl) (zQ_k6 (by omega) rfl) (fun h => h) (zz_rc fS91 (zP_k6 (by omega) rfl) (zQ_k6 (by omega) rfl) (fun h => h) (zz_ro qS1 (fun h => absurd h.2 (by decide)) rfl)))
  have e102 : S96 (zz_rf 6 p0) 7 = S0 (zz_rf 6 p0) 7 := (zz_rc fS96 (zP_k6 (by omega) rfl) (zQ_k6 (by omega) rfl) (fun h => h) (zz_rc fS91 (zP_k6 (by omega) rfl) (zQ_k6 (by omega) rfl) (fun h => h) (zz_ro qS1 (fun h => absurd h.2 (by decide)) rfl)))
  have e103 : S96 (zz_rf 6 p0) 8 = S0 (zz_rf 6 p0) 8 := (zz_rc fS96 (zP_k6 (by omega) rfl) (zQ_k6 (by omega) rfl) (fun h => h) (zz_rc fS91 (zP_k6 (by omega) rfl) (zQ_k6 (by omega) rfl) (fun h => h) (zz_ro qS1 (fun h => absurd h.2 (by decide)) rfl)))
  refine zz_callVV [.ref (zz_rf 6 p0)] zd_5_4_157 zk_Line_122 zT_1077 (zz_ltn hn rfl) rfl rfl ⟨Nat.le_of_ble_eq_true rfl, Nat.le_of_ble_eq_true rfl⟩ ⟨rfl, rfl⟩ (Nat.zero_le _) (Nat.zero_le _) (zc_addOptions_5_5 p0 S96 n hn G_S96 (by omega)) (fun S104 hP => ?_)
  obtain ⟨G_S104, fS104, o106⟩ := hP
  have F_S104 := zz_fr.trans F_S96 fS104 rfl zz_nv
  refine zz_aload_n (x := 1077) rfl zd_5_4_160 ?_
  refine zz_bipush (by decide) zd_5_4_161 ?_
  have g107 := zz_G.r G_S104 1077 1 0 128 rfl rfl
  refine zz_callVV [zi 10] zd_5_4_163 zk_Line_69 zT_1077 (zz_ltn hn rfl) rfl rfl ⟨Nat.le_of_ble_eq_true rfl, Nat.le_of_ble_eq_true rfl⟩ ⟨rfl, rfl⟩ (Nat.zero_le _) (Nat.zero_le _) (zc_addSign_5_12 10 S104 n hn G_S104 (by omega)) (fun S108 hP => ?_)
  obtain ⟨G_S108, fS108, o110⟩ := hP
  have F_S108 := zz_fr.trans F_S104 fS108 rfl zz_nv
  have g111 := zz_G.r G_S108 1077 1 0 128 rfl rfl
  exact zz_vret zd_5_4_166 rfl (Nat.zero_le _) (Nat.zero_le _) ⟨_, rfl, G_S108, F_S108, (fun hq => by unfold zs_lq at hq; have k0 : zs_L (S1 1077 1) (S1 1078) [] 0 := ⟨zs_P0 (zz_rs qS1), Nat.le_refl 0⟩; have k1 := o93 _ _ k0 (by omega) (by omega) (by omega); rw [show zt_tw 29 = zs_winput by decide +kernel] at k1; have k1 := zs_Lm (k := 18) k1 (by show _ + 5 + 13 ≤ _; omega); have k2 := o98 _ _ k1 (by omega) (by omega); rw [show zt_tw 12 = zs_wx by decide +kernel] at k2; have k2 := zs_Lm (k := 25) k2 (by show _ + 1 + 6 ≤ _; omega); have k3 := o106 _ _ (S0 (zz_rf 6 p0) 5) (S0 (zz_rf 6 p0) 6) (S0 (zz_rf 6 p0) 7) (S0 (zz_rf 6 p0) 8) k2 (by omega) (by omega) (F_S96 _ _ (zP_k6 (by omega) rfl) (zQ_k6 (by omega) rfl) (fun h => h)) (F_S96 _ _ (zP_k6 (by omega) rfl) (zQ_k6 (by omega) rfl) (fun h => h)) (F_S96 _ _ (zP_k6 (by omega) rfl) (zQ_k6 (by omega) rfl) (fun h => h)) (F_S96 _ _ (zP_k6 (by omega) rfl) (zQ_k6 (by omega) rfl) (fun h => h)); have k4 := o110 _ k3.1 (by have z9 := k3.2; omega); have e9 := zs_hd0 (K := (S0 (zz_rf 6 p0) 0)) (a := (S0 (zz_rf 6 p0) 1)) (b := (S0 (zz_rf 6 p0) 2)) (kh := (S0 (zz_rf 6 p0) 3)) (kw := (S0 (zz_rf 6 p0) 4)) (ch := (S0 (zz_rf 6 p0) 12)) (ad := (S0 (zz_rf 6 p0) 9)) (h := (S0 (zz_rf 6 p0) 10)) (w := (S0 (zz_rf 6 p0) 11)) (by omega); rw [e9]; exact k4)⟩
theorem zk_TF_301 : mm_Vl "TensorForge" 301 10 1 zy_writeLayer_5_4 := ⟨zyw_writeLayer_5_4, (R_Line, F_Line, 2), rfl, mm_tb_1 1489 (by decide +kernel) rfl, mm_tb_1 1490 (by decide +kernel) rfl, mm_tb_1 1491 (by decide +kernel) rfl⟩
theorem zg_1_26_42 : zq_at zy_networkSign_1_26.2.1 42 42 ∧ zq_at zy_networkSign_1_26.2.1 43 180 ∧ zq_at zy_networkSign_1_26.2.1 44 0 ∧ zq_at zy_networkSign_1_26.2.1 45 83 ∧ zq_at zy_networkSign_1_26.2.1 46 28 ∧ zq_at zy_networkSign_1_26.2.1 47 182 ∧ zq_at zy_networkSign_1_26.2.1 48 0 ∧ zq_at zy_networkSign_1_26.2.1 49 178 ∧ zq_at zy_networkSign_1_26.2.1 50 172 := by decide +kernel
theorem zd_1_26_42 : zz_D zy_networkSign_1_26 42 (.aload_n 0) 1 43 := ⟨zq_42 zg_1_26_42.1, rfl⟩
theorem zd_1_26_43 : zz_D zy_networkSign_1_26 43 (.getfield 83) 3 46 := ⟨zq_180 zg_1_26_42.2.1 zg_1_26_42.2.2.1 zg_1_26_42.2.2.2.1 rfl, rfl⟩
theorem zd_1_26_46 : zz_D zy_networkSign_1_26 46 (.iload_n 2) 1 47 := ⟨zq_28 zg_1_26_42.2.2.2.2.1, rfl⟩
theorem zd_1_26_47 : zz_D zy_networkSign_1_26 47 (.invokevirtual 178) 3 50 := ⟨zq_182 zg_1_26_42.2.2.2.2.2.1 zg_1_26_42.2.2.2.2.2.2.1 zg_1_26_42.2.2.2.2.2.2.2.1 rfl, rfl⟩
theorem zd_1_26_50 : zz_D zy_networkSign_1_26 50 (.ireturn) 1 51 := ⟨zq_172 zg_1_26_42.2.2.2.2.2.2.2.2, rfl⟩
-- TensorForge networkSign (II)I
abbrev zr_networkSign_1_26 : Room := { frames := 8, cells := 1, slots := 6, locals := 110 }
def zp_networkSign_1_26 (p0 : Int) (p1 : Int) (S0 : zz_S) : Int → zz_S → Prop := fun r S => zz_G S ∧ zz_fr [(1077, 1)] [1078] (fun _ _ => False) S0 S ∧ ((-2147483648) ≤ r ∧ r ≤ 2147483647) ∧ (∀ v : zn_T, zn_C S0 (S0 1000 7) v → zn_V v → zn_W v → zs_Q v → (0 ≤ p0 ∧ p0 < v 15 0 ∧ 0 ≤ p1) ∧ r = zs_at (zs_ln v p0.toNat) p1)
def zx_networkSign_1_26 (p0 : Int) (p1 : Int) (S0 : zz_S) : Nat → zz_S → Prop := fun i S => zz_G S ∧ zz_fr [(1077, 1)] [1078] (fun _ _ => False) S0 S ∧ (i < 4) ∧ (i = 1) ∧ (∀ v : zn_T, zn_C S0 (S0 1000 7) v → i = 1 ∧ ¬ (0 ≤ p0 ∧ p0 < v 15 0 ∧ 0 ≤ p1))
theorem zc_networkSign_1_26 {g : mm_G} {l : Launch} (p0 : Int) (p1 : Int) (S0 : zz_S) (n : Nat) (hn : zz_end ≤ n) (hfl : l.flags = flags0) (G_S0 : zz_G S0) (hp0 : (-2147483648) ≤ p0 ∧ p0 ≤ 2147483647) (hp1 : (-2147483648) ≤ p1 ∧ p1 ≤ 2147483647) : mm_Met g l zy_networkSign_1_26 zr_networkSign_1_26 [.ref 1000, zi p0, zi p1] (zz_M S0 n) n (zz_XI n (zp_networkSign_1_26 p0 p1 S0) (zx_networkSign_1_26 p0 p1 S0)) := by
  refine zz_enter (by decide) (Nat.le_of_ble_eq_true rfl) (zz_less (ls1 := [some (.ref 1000), some (zi p0), some (zi p1)]) ⟨rfl, ⟨rfl, ⟨rfl, trivial⟩⟩⟩ ?_)
  have F_S0 : zz_fr [(1077, 1)] [1078] (fun _ _ => False) S0 S0 := zz_fr.refl
  have hz9 := zz_G.r G_S0 1000 7 0 1 rfl rfl
  have ht9 := zz_G.r G_S0 (zz_rf 3 (S0 1000 7)) 1 1 11 (zR_k3_1 (by omega)) (zB_k3 (by omega))
  refine zz_aload_n (x := 1000) rfl zd_1_26_0 ?_
  have g1 := zz_G.r G_S0 1000 7 0 1 rfl rfl
  refine zz_getr (kd := 1) (z := S0 1000 7) zd_1_26_1 zf_TF_10 zT_1000 rfl (zz_ltn hn rfl) rfl (by omega) (zz_rf 3 (S0 1000 7)) rfl ?_
  refine zz_iload_n (x := p0) rfl zd_1_26_4 ?_
  refine zz_callVI [zi p0] zd_1_26_5 zk_TF_251 (zT_k3 (by omega)) (zN_k3 hn (by omega)) rfl rfl ⟨Nat.le_of_ble_eq_true rfl, Nat.le_of_ble_eq_true rfl⟩ ⟨rfl, rfl⟩ (Nat.zero_le _) (Nat.zero_le _) (zc_has_7_5 (S0 1000 7) p0 S0 n hn G_S0 (by omega) (by omega)) (fun v3 S2 hP => ?_)
  obtain ⟨rfl, o4, o5⟩ := hP
  rcases (by omega : v3 = 0 ∨ v3 = 1) with rfl | rfl
  · refine zz_if_eq (by omega) zd_1_26_8 (fun c6 => ?_) (fun c6 => ?_)
    · exact zz_throwW (i := 1) hfl hn zt_1_26_15 zyw_networkSign_1_26 zxl_TF_101_299_105 (Nat.le_of_ble_eq_true rfl) (Nat.le_of_ble_eq_true rfl) ⟨Nat.le_of_ble_eq_true rfl, Nat.le_of_ble_eq_true rfl⟩ (Or.inr ⟨_, _, rfl, G_S0, F_S0, by omega, by omega, (fun v hC => by have h9 := hC.1; omega)⟩)
    · exfalso; omega
  · refine zz_if_eq (by omega) zd_1_26_8 (fun c7 => ?_) (fun c7 => ?_)
    · exfalso; omega
    · refine zz_iload_n (x := p1) rfl zd_1_26_11 ?_
      refine zz_if_ge (by omega) zd_1_26_12 (fun c8 => ?_) (fun c8 => ?_)
      · refine zz_aload_n (x := 1000) rfl zd_1_26_26 ?_
        refine zz_getr (kd := 0) (z := 1077) zd_1_26_27 zf_TF_83 zT_1000 rfl (zz_ltn hn rfl) (zz_G.eq G_S0 1000 6 1077 rfl rfl) (by decide) 1077 rfl ?_
        refine zz_aload_n (x := 1000) rfl zd_1_26_30 ?_
        refine zz_getr (kd := 1) (z := S0 1000 7) zd_1_26_31 zf_TF_10 zT_1000 rfl (zz_ltn hn rfl) rfl (by omega) (zz_rf 3 (S0 1000 7)) rfl ?_
        refine zz_getr (kd := 0) (z := ((zz_rf 3 (S0 1000 7) + 1 : Nat) : Int)) zd_1_26_34 zf_TF_258 (zT_k3 (by omega)) rfl (zN_k3 hn (by omega)) (zE_k3a G_S0 (by omega)) (Int.natCast_nonneg _) (zz_rf 3 (S0 1000 7) + 1) (Int.toNat_natCast _) ?_
        refine zz_iload_n (x := p0) rfl zd_1_26_37 ?_
        refine zz_aald (kd := 4) (z := 12 * (S0 1000 7) + p0) zd_1_26_38 (zT_k3a (by omega)) rfl (zN_k3a hn (by omega)) (by decide) (by omega) (zE_lay G_S0 (by omega) (by omega)) (by omega) (zz_rf 6 (12 * (S0 1000 7) + p0)) rfl ?_
        refine zz_callVV [.ref (zz_rf 6 (12 * (S0 1000 7) + p0))] zd_1_26_39 zk_TF_301 zT_1077 (zz_ltn hn rfl) rfl rfl ⟨Nat.le_of_ble_eq_true rfl, Nat.le_of_ble_eq_true rfl⟩ ⟨rfl, rfl⟩ (Nat.zero_le _) (Nat.zero_le _) (zc_writeLayer_5_4 (12 * (S0 1000 7) + p0) S0 n hn G_S0 (by omega)) (fun S9 hP => ?_)
        obtain ⟨G_S9, fS9, o11⟩ := hP
        have F_S9 := zz_fr.trans F_S0 fS9 rfl zz_nv
        refine zz_aload_n (x := 1000) rfl zd_1_26_42 ?_
        refine zz_getr (kd := 0) (z := 1077) zd_1_26_43 zf_TF_83 zT_1000 rfl (zz_ltn hn rfl) (zz_G.eq G_S9 1000 6 1077 rfl rfl) (by decide) 1077 rfl ?_
        refine zz_iload_n (x := p1) rfl zd_1_26_46 ?_
        have g12 := zz_G.r G_S9 1077 1 0 128 rfl rfl
        refine zz_callVI [zi p1] zd_1_26_47 zk_TF_178 zT_1077 (zz_ltn hn rfl) rfl rfl ⟨Nat.le_of_ble_eq_true rfl, Nat.le_of_ble_eq_true rfl⟩ ⟨rfl, rfl⟩ (Nat.zero_le _) (Nat.zero_le _) (zc_signAt_5_2 p1 S9 n hn G_S9 (by omega)) (fun v14 S13 hP => ?_)
        obtain ⟨rfl, o15, o16⟩ := hP
        exact zz_iret zd_1_26_50 rfl (Nat.le_of_ble_eq_true rfl) (Nat.le_of_ble_eq_true rfl) (Or.inl ⟨_, _, rfl, G_S9, F_S9, by omega, (fun v hC hV hW hQ => by have h9 := hC.1; exact ⟨by omega, o16 _ (zs_CP hC hV hW hQ (k := p0) (by omega) (by omega) o11) (by omega)⟩)⟩)
      · exact zz_throwW (i := 1) hfl hn zt_1_26_15 zyw_networkSign_1_26 zxl_TF_101_299_105 (Nat.le_of_ble_eq_true rfl) (Nat.le_of_ble_eq_true rfl) ⟨Nat.le_of_ble_eq_true rfl, Nat.le_of_ble_eq_true rfl⟩ (Or.inr ⟨_, _, rfl, G_S0, F_S0, by omega, by omega, (fun v hC => by have h9 := hC.1; omega)⟩)
abbrev zy_place_1_27 : mm_Y := (⟨"TensorForge", "place", "()I"⟩, prog_1_method_27_code, 1, (some .int))
theorem zyw_place_1_27 : mm_Yw zy_place_1_27 0 := ⟨mm_tb_1 1511 (by decide +kernel) rfl, mm_tb_1 1 (by decide +kernel) rfl, ⟨by decide, by decide⟩, by decide +kernel⟩
abbrev zy_findSpots_7_10 : mm_Y := (⟨"TensorForge$Network", "findSpots", "()Z"⟩, prog_7_method_10_code, 2, (some .boolean))
theorem zyw_findSpots_7_10 : mm_Yw zy_findSpots_7_10 0 := ⟨mm_tb_1 1515 (by decide +kernel) rfl, mm_tb_1 2 (by decide +kernel) rfl, ⟨by decide, by decide⟩, by decide +kernel⟩
theorem zf_Network_76 : mm_Fl "TensorForge$Network" 76 2 14 .int false := ⟨R_Layer, F_Layer, 15, t_Layer, rfl, i_Layer, by decide, mm_tb_1 111 (by decide +kernel) rfl, rfl, t_Layer_ok, n_Layer, rfl, by decide +kernel⟩
abbrev zy_leastSpot_7_12 : mm_Y := (⟨"TensorForge$Network", "leastSpot", "(I)I"⟩, prog_7_method_12_code, 7, (some .int))
theorem zyw_leastSpot_7_12 : mm_Yw zy_leastSpot_7_12 1 := ⟨mm_tb_1 1519 (by decide +kernel) rfl, mm_tb_1 2 (by decide +kernel) rfl, ⟨by decide, by decide⟩, by decide +kernel⟩
abbrev zy_isNeeded_7_13 : mm_Y := (⟨"TensorForge$Network", "isNeeded", "(II)Z"⟩, prog_7_method_13_code, 5, (some .boolean))
theorem zyw_isNeeded_7_13 : mm_Yw zy_isNeeded_7_13 2 := ⟨mm_tb_1 1523 (by decide +kernel) rfl, mm_tb_1 2 (by decide +kernel) rfl, ⟨by decide, by decide⟩, by decide +kernel⟩
abbrev zy_takes_4_8 : mm_Y := (⟨"TensorForge$Layer", "takes", "(I)Z"⟩, prog_4_method_8_code, 2, (some .boolean))
theorem zyw_takes_4_8 : mm_Yw zy_takes_4_8 1 := ⟨mm_tb_1 1527 (by decide +kernel) rfl, mm_tb_1 3 (by decide +kernel) rfl, ⟨by decide, by decide⟩, by decide +kernel⟩
theorem zg_1_27_0 : zq_at zy_place_1_27.2.1 0 42 ∧ zq_at zy_place_1_27.2.1 1 180 ∧ zq_at zy_place_1_27.2.1 2 0 ∧ zq_at zy_place_1_27.2.1 3 10 ∧ zq_at zy_place_1_27.2.1 4 182 ∧ zq_at zy_place_1_27.2.1 5 1 ∧ zq_at zy_place_1_27.2.1 6 49 := by decide +kernel
theorem zd_1_27_0 : zz_D zy_place_1_27 0 (.aload_n 0) 1 1 := ⟨zq_42 zg_1_27_0.1, rfl⟩
theorem zd_1_27_1 : zz_D zy_place_1_27 1 (.getfield 10) 3 4 := ⟨zq_180 zg_1_27_0.2.1 zg_1_27_0.2.2.1 zg_1_27_0.2.2.2.1 rfl, rfl⟩
theorem zd_1_27_4 : zz_D zy_place_1_27 4 (.invokevirtual 305) 3 7 := ⟨zq_182 zg_1_27_0.2.2.2.2.1 zg_1_27_0.2.2.2.2.2.1 zg_1_27_0.2.2.2.2.2.2 rfl, rfl⟩
theorem zg_7_10_0 : zq_at zy_findSpots_7_10.2.1 0 42 ∧ zq_at zy_findSpots_7_10.2.1 1 180 ∧ zq_at zy_findSpots_7_10.2.1 2 0 ∧ zq_at zy_findSpots_7_10.2.1 3 11 ∧ zq_at zy_findSpots_7_10.2.1 4 3 ∧ zq_at zy_findSpots_7_10.2.1 5 50 ∧ zq_at zy_findSpots_7_10.2.1 6 3 ∧ zq_at zy_findSpots_7_10.2.1 7 181 ∧ zq_at zy_findSpots_7_10.2.1 8 0 ∧ zq_at zy_findSpots_7_10.2.1 9 76 ∧ zq_at zy_findSpots_7_10.2.1 10 4 ∧ zq_at zy_findSpots_7_10.2.1 11 60 ∧ zq_at zy_findSpots_7_10.2.1 12 27 ∧ zq_at zy_findSpots_7_10.2.1 13 42 ∧ zq_at zy_findSpots_7_10.2.1 14 180 ∧ zq_at zy_findSpots_7_10.2.1 15 0 ∧ zq_at zy_findSpots_7_10.2.1 16 16 ∧ zq_at zy_findSpots_7_10.2.1 17 162 ∧ zq_at zy_findSpots_7_10.2.1 18 0 ∧ zq_at zy_findSpots_7_10.2.1 19 50 ∧ zq_at zy_findSpots_7_10.2.1 67 4 ∧ zq_at zy_findSpots_7_10.2.1 68 172 ∧ zq_at zy_findSpots_7_10.2.1 20 42 := by decide +kernel
theorem zd_7_10_0 : zz_D zy_findSpots_7_10 0 (.aload_n 0) 1 1 := ⟨zq_42 zg_7_10_0.1, rfl⟩
theorem zd_7_10_1 : zz_D zy_findSpots_7_10 1 (.getfield 11) 3 4 := ⟨zq_180 zg_7_10_0.2.1 zg_7_10_0.2.2.1 zg_7_10_0.2.2.2.1 rfl, rfl⟩
theorem zd_7_10_4 : zz_D zy_findSpots_7_10 4 (.iconst 0) 1 5 := ⟨zq_3 zg_7_10_0.2.2.2.2.1, rfl⟩
theorem zd_7_10_5 : zz_D zy_findSpots_7_10 5 (.aaload) 1 6 := ⟨zq_50 zg_7_10_0.2.2.2.2.2.1, rfl⟩
theorem zd_7_10_6 : zz_D zy_findSpots_7_10 6 (.iconst 0) 1 7 := ⟨zq_3 zg_7_10_0.2.2.2.2.2.2.1, rfl⟩
theorem zd_7_10_7 : zz_D zy_findSpots_7_10 7 (.putfield 76) 3 10 := ⟨zq_181 zg_7_10_0.2.2.2.2.2.2.2.1 zg_7_10_0.2.2.2.2.2.2.2.2.1 zg_7_10_0.2.2.2.2.2.2.2.2.2.1 rfl, rfl⟩
theorem zd_7_10_10 : zz_D zy_findSpots_7_10 10 (.iconst 1) 1 11 := ⟨zq_4 zg_7_10_0.2.2.2.2.2.2.2.2.2.2.1, rfl⟩
theorem zd_7_10_11 : zz_D zy_findSpots_7_10 11 (.istore_n 1) 1 12 := ⟨zq_60 zg_7_10_0.2.2.2.2.2.2.2.2.2.2.2.1, rfl⟩
theorem zd_7_10_12 : zz_D zy_findSpots_7_10 12 (.iload_n 1) 1 13 := ⟨zq_27 zg_7_10_0.2.2.2.2.2.2.2.2.2.2.2.2.1, rfl⟩
theorem zd_7_10_13 : zz_D zy_findSpots_7_10 13 (.aload_n 0) 1 14 := ⟨zq_42 zg_7_10_0.2.2.2.2.2.2.2.2.2.2.2.2.2.1, rfl⟩
theorem zd_7_10_14 : zz_D zy_findSpots_7_10 14 (.getfield 16) 3 17 := ⟨zq_180 zg_7_10_0.2.2.2.2.2.2.2.2.2.2.2.2.2.2.1 zg_7_10_0.2.2.2.2.2.2.2.2.2.2.2.2.2.2.2.1 zg_7_10_0.2.2.2.2.2.2.2.2.2.2.2.2.2.2.2.2.1 rfl, rfl⟩
theorem zd_7_10_17 : zz_B zy_findSpots_7_10 17 (Instr.if_icmp .ge) 67 20 := ⟨50, zq_162 zg_7_10_0.2.2.2.2.2.2.2.2.2.2.2.2.2.2.2.2.2.1 zg_7_10_0.2.2.2.2.2.2.2.2.2.2.2.2.2.2.2.2.2.2.1 zg_7_10_0.2.2.2.2.2.2.2.2.2.2.2.2.2.2.2.2.2.2.2.1 (by decide), rfl, rfl⟩
theorem zd_7_10_67 : zz_D zy_findSpots_7_10 67 (.iconst 1) 1 68 := ⟨zq_4 zg_7_10_0.2.2.2.2.2.2.2.2.2.2.2.2.2.2.2.2.2.2.2.2.1, rfl⟩
theorem zd_7_10_68 : zz_D zy_findSpots_7_10 68 (.ireturn) 1 69 := ⟨zq_172 zg_7_10_0.2.2.2.2.2.2.2.2.2.2.2.2.2.2.2.2.2.2.2.2.2.1, rfl⟩
theorem zd_7_10_20 : zz_D zy_findSpots_7_10 20 (.aload_n 0) 1 21 := ⟨zq_42 zg_7_10_0.2.2.2.2.2.2.2.2.2.2.2.2.2.2.2.2.2.2.2.2.2.2, rfl⟩
theorem zg_7_10_21 : zq_at zy_findSpots_7_10.2.1 21 180 ∧ zq_at zy_findSpots_7_10.2.1 22 0 ∧ zq_at zy_findSpots_7_10.2.1 23 11 ∧ zq_at zy_findSpots_7_10.2.1 24 27 ∧ zq_at zy_findSpots_7_10.2.1 25 50 ∧ zq_at zy_findSpots_7_10.2.1 26 42 ∧ zq_at zy_findSpots_7_10.2.1 27 27 ∧ zq_at zy_findSpots_7_10.2.1 28 182 ∧ zq_at zy_findSpots_7_10.2.1 29 0 ∧ zq_at zy_findSpots_7_10.2.1 30 79 := by decide +kernel
theorem zd_7_10_21 : zz_D zy_findSpots_7_10 21 (.getfield 11) 3 24 := ⟨zq_180 zg_7_10_21.1 zg_7_10_21.2.1 zg_7_10_21.2.2.1 rfl, rfl⟩
theorem zd_7_10_24 : zz_D zy_findSpots_7_10 24 (.iload_n 1) 1 25 := ⟨zq_27 zg_7_10_21.2.2.2.1, rfl⟩
theorem zd_7_10_25 : zz_D zy_findSpots_7_10 25 (.aaload) 1 26 := ⟨zq_50 zg_7_10_21.2.2.2.2.1, rfl⟩
theorem zd_7_10_26 : zz_D zy_findSpots_7_10 26 (.aload_n 0) 1 27 := ⟨zq_42 zg_7_10_21.2.2.2.2.2.1, rfl⟩
theorem zd_7_10_27 : zz_D zy_findSpots_7_10 27 (.iload_n 1) 1 28 := ⟨zq_27 zg_7_10_21.2.2.2.2.2.2.1, rfl⟩
theorem zd_7_10_28 : zz_D zy_findSpots_7_10 28 (.invokevirtual 79) 3 31 := ⟨zq_182 zg_7_10_21.2.2.2.2.2.2.2.1 zg_7_10_21.2.2.2.2.2.2.2.2.1 zg_7_10_21.2.2.2.2.2.2.2.2.2 rfl, rfl⟩
theorem zg_7_12_0 : zq_at zy_leastSpot_7_12.2.1 0 3 ∧ zq_at zy_leastSpot_7_12.2.1 1 61 ∧ zq_at zy_leastSpot_7_12.2.1 2 42 ∧ zq_at zy_leastSpot_7_12.2.1 3 180 ∧ zq_at zy_leastSpot_7_12.2.1 4 0 ∧ zq_at zy_leastSpot_7_12.2.1 5 11 ∧ zq_at zy_leastSpot_7_12.2.1 6 27 ∧ zq_at zy_leastSpot_7_12.2.1 7 50 ∧ zq_at zy_leastSpot_7_12.2.1 8 182 ∧ zq_at zy_leastSpot_7_12.2.1 9 0 ∧ zq_at zy_leastSpot_7_12.2.1 10 60 ∧ zq_at zy_leastSpot_7_12.2.1 11 62 ∧ zq_at zy_leastSpot_7_12.2.1 12 3 ∧ zq_at zy_leastSpot_7_12.2.1 13 54 ∧ zq_at zy_leastSpot_7_12.2.1 14 4 ∧ zq_at zy_leastSpot_7_12.2.1 15 21 ∧ zq_at zy_leastSpot_7_12.2.1 16 4 ∧ zq_at zy_leastSpot_7_12.2.1 17 27 ∧ zq_at zy_leastSpot_7_12.2.1 18 162 ∧ zq_at zy_leastSpot_7_12.2.1 19 0 ∧ zq_at zy_leastSpot_7_12.2.1 20 82 ∧ zq_at zy_leastSpot_7_12.2.1 100 28 ∧ zq_at zy_leastSpot_7_12.2.1 101 172 ∧ zq_at zy_leastSpot_7_12.2.1 21 3 := by decide +kernel
theorem zd_7_12_0 : zz_D zy_leastSpot_7_12 0 (.iconst 0) 1 1 := ⟨zq_3 zg_7_12_0.1, rfl⟩
theorem zd_7_12_1 : zz_D zy_leastSpot_7_12 1 (.istore_n 2) 1 2 := ⟨zq_61 zg_7_12_0.2.1, rfl⟩
theorem zd_7_12_2 : zz_D zy_leastSpot_7_12 2 (.aload_n 0) 1 3 := ⟨zq_42 zg_7_12_0.2.2.1, rfl⟩
theorem zd_7_12_3 : zz_D zy_leastSpot_7_12 3 (.getfield 11) 3 6 := ⟨zq_180 zg_7_12_0.2.2.2.1 zg_7_12_0.2.2.2.2.1 zg_7_12_0.2.2.2.2.2.1 rfl, rfl⟩
theorem zd_7_12_6 : zz_D zy_leastSpot_7_12 6 (.iload_n 1) 1 7 := ⟨zq_27 zg_7_12_0.2.2.2.2.2.2.1, rfl⟩
theorem zd_7_12_7 : zz_D zy_leastSpot_7_12 7 (.aaload) 1 8 := ⟨zq_50 zg_7_12_0.2.2.2.2.2.2.2.1, rfl⟩
theorem zd_7_12_8 : zz_D zy_leastSpot_7_12 8 (.invokevirtual 60) 3 11 := ⟨zq_182 zg_7_12_0.2.2.2.2.2.2.2.2.1 zg_7_12_0.2.2.2.2.2.2.2.2.2.1 zg_7_12_0.2.2.2.2.2.2.2.2.2.2.1 rfl, rfl⟩
theorem zd_7_12_11 : zz_D zy_leastSpot_7_12 11 (.istore_n 3) 1 12 := ⟨zq_62 zg_7_12_0.2.2.2.2.2.2.2.2.2.2.2.1, rfl⟩
theorem zd_7_12_12 : zz_D zy_leastSpot_7_12 12 (.iconst 0) 1 13 := ⟨zq_3 zg_7_12_0.2.2.2.2.2.2.2.2.2.2.2.2.1, rfl⟩
theorem zd_7_12_13 : zz_D zy_leastSpot_7_12 13 (.istore 4) 2 15 := ⟨zq_54 zg_7_12_0.2.2.2.2.2.2.2.2.2.2.2.2.2.1 zg_7_12_0.2.2.2.2.2.2.2.2.2.2.2.2.2.2.1, rfl⟩
theorem zd_7_12_15 : zz_D zy_leastSpot_7_12 15 (.iload 4) 2 17 := ⟨zq_21 zg_7_12_0.2.2.2.2.2.2.2.2.2.2.2.2.2.2.2.1 zg_7_12_0.2.2.2.2.2.2.2.2.2.2.2.2.2.2.2.2.1, rfl⟩
theorem zd_7_12_17 : zz_D zy_leastSpot_7_12 17 (.iload_n 1) 1 18 := ⟨zq_27 zg_7_12_0.2.2.2.2.2.2.2.2.2.2.2.2.2.2.2.2.2.1, rfl⟩
theorem zd_7_12_18 : zz_B zy_leastSpot_7_12 18 (Instr.if_icmp .ge) 100 21 := ⟨82, zq_162 zg_7_12_0.2.2.2.2.2.2.2.2.2.2.2.2.2.2.2.2.2.2.1 zg_7_12_0.2.2.2.2.2.2.2.2.2.2.2.2.2.2.2.2.2.2.2.1 zg_7_12_0.2.2.2.2.2.2.2.2.2.2.2.2.2.2.2.2.2.2.2.2.1 (by decide), rfl, rfl⟩
theorem zd_7_12_100 : zz_D zy_leastSpot_7_12 100 (.iload_n 2) 1 101 := ⟨zq_28 zg_7_12_0.2.2.2.2.2.2.2.2.2.2.2.2.2.2.2.2.2.2.2.2.2.1, rfl⟩
theorem zd_7_12_101 : zz_D zy_leastSpot_7_12 101 (.ireturn) 1 102 := ⟨zq_172 zg_7_12_0.2.2.2.2.2.2.2.2.2.2.2.2.2.2.2.2.2.2.2.2.2.2.1, rfl⟩
theorem zd_7_12_21 : zz_D zy_leastSpot_7_12 21 (.iconst 0) 1 22 := ⟨zq_3 zg_7_12_0.2.2.2.2.2.2.2.2.2.2.2.2.2.2.2.2.2.2.2.2.2.2.2, rfl⟩
theorem zg_7_12_22 : zq_at zy_leastSpot_7_12.2.1 22 54 ∧ zq_at zy_leastSpot_7_12.2.1 23 5 ∧ zq_at zy_leastSpot_7_12.2.1 24 21 ∧ zq_at zy_leastSpot_7_12.2.1 25 5 ∧ zq_at zy_leastSpot_7_12.2.1 26 27 ∧ zq_at zy_leastSpot_7_12.2.1 27 162 ∧ zq_at zy_leastSpot_7_12.2.1 28 0 ∧ zq_at zy_leastSpot_7_12.2.1 29 67 ∧ zq_at zy_leastSpot_7_12.2.1 30 42 ∧ zq_at zy_leastSpot_7_12.2.1 31 180 ∧ zq_at zy_leastSpot_7_12.2.1 32 0 ∧ zq_at zy_leastSpot_7_12.2.1 33 11 ∧ zq_at zy_leastSpot_7_12.2.1 34 21 ∧ zq_at zy_leastSpot_7_12.2.1 35 5 ∧ zq_at zy_leastSpot_7_12.2.1 36 50 ∧ zq_at zy_leastSpot_7_12.2.1 37 180 ∧ zq_at zy_leastSpot_7_12.2.1 38 0 ∧ zq_at zy_leastSpot_7_12.2.1 39 76 ∧ zq_at zy_leastSpot_7_12.2.1 40 42 ∧ zq_at zy_leastSpot_7_12.2.1 41 180 ∧ zq_at zy_leastSpot_7_12.2.1 42 0 ∧ zq_at zy_leastSpot_7_12.2.1 43 11 ∧ zq_at zy_leastSpot_7_12.2.1 44 21 ∧ zq_at zy_leastSpot_7_12.2.1 45 5 := by decide +kernel
theorem zd_7_12_22 : zz_D zy_leastSpot_7_12 22 (.istore 5) 2 24 := ⟨zq_54 zg_7_12_22.1 zg_7_12_22.2.1, rfl⟩
theorem zd_7_12_24 : zz_D zy_leastSpot_7_12 24 (.iload 5) 2 26 := ⟨zq_21 zg_7_12_22.2.2.1 zg_7_12_22.2.2.2.1, rfl⟩
theorem zd_7_12_26 : zz_D zy_leastSpot_7_12 26 (.iload_n 1) 1 27 := ⟨zq_27 zg_7_12_22.2.2.2.2.1, rfl⟩
theorem zd_7_12_27 : zz_B zy_leastSpot_7_12 27 (Instr.if_icmp .ge) 94 30 := ⟨67, zq_162 zg_7_12_22.2.2.2.2.2.1 zg_7_12_22.2.2.2.2.2.2.1 zg_7_12_22.2.2.2.2.2.2.2.1 (by decide), rfl, rfl⟩
theorem zd_7_12_30 : zz_D zy_leastSpot_7_12 30 (.aload_n 0) 1 31 := ⟨zq_42 zg_7_12_22.2.2.2.2.2.2.2.2.1, rfl⟩
theorem zd_7_12_31 : zz_D zy_leastSpot_7_12 31 (.getfield 11) 3 34 := ⟨zq_180 zg_7_12_22.2.2.2.2.2.2.2.2.2.1 zg_7_12_22.2.2.2.2.2.2.2.2.2.2.1 zg_7_12_22.2.2.2.2.2.2.2.2.2.2.2.1 rfl, rfl⟩
theorem zd_7_12_34 : zz_D zy_leastSpot_7_12 34 (.iload 5) 2 36 := ⟨zq_21 zg_7_12_22.2.2.2.2.2.2.2.2.2.2.2.2.1 zg_7_12_22.2.2.2.2.2.2.2.2.2.2.2.2.2.1, rfl⟩
theorem zd_7_12_36 : zz_D zy_leastSpot_7_12 36 (.aaload) 1 37 := ⟨zq_50 zg_7_12_22.2.2.2.2.2.2.2.2.2.2.2.2.2.2.1, rfl⟩
theorem zd_7_12_37 : zz_D zy_leastSpot_7_12 37 (.getfield 76) 3 40 := ⟨zq_180 zg_7_12_22.2.2.2.2.2.2.2.2.2.2.2.2.2.2.2.1 zg_7_12_22.2.2.2.2.2.2.2.2.2.2.2.2.2.2.2.2.1 zg_7_12_22.2.2.2.2.2.2.2.2.2.2.2.2.2.2.2.2.2.1 rfl, rfl⟩
theorem zd_7_12_40 : zz_D zy_leastSpot_7_12 40 (.aload_n 0) 1 41 := ⟨zq_42 zg_7_12_22.2.2.2.2.2.2.2.2.2.2.2.2.2.2.2.2.2.2.1, rfl⟩
theorem zd_7_12_41 : zz_D zy_leastSpot_7_12 41 (.getfield 11) 3 44 := ⟨zq_180 zg_7_12_22.2.2.2.2.2.2.2.2.2.2.2.2.2.2.2.2.2.2.2.1 zg_7_12_22.2.2.2.2.2.2.2.2.2.2.2.2.2.2.2.2.2.2.2.2.1 zg_7_12_22.2.2.2.2.2.2.2.2.2.2.2.2.2.2.2.2.2.2.2.2.2.1 rfl, rfl⟩
theorem zd_7_12_44 : zz_D zy_leastSpot_7_12 44 (.iload 5) 2 46 := ⟨zq_21 zg_7_12_22.2.2.2.2.2.2.2.2.2.2.2.2.2.2.2.2.2.2.2.2.2.2.1 zg_7_12_22.2.2.2.2.2.2.2.2.2.2.2.2.2.2.2.2.2.2.2.2.2.2.2, rfl⟩
theorem zg_7_12_46 : zq_at zy_leastSpot_7_12.2.1 46 50 ∧ zq_at zy_leastSpot_7_12.2.1 47 182 ∧ zq_at zy_leastSpot_7_12.2.1 48 0 ∧ zq_at zy_leastSpot_7_12.2.1 49 60 ∧ zq_at zy_leastSpot_7_12.2.1 50 96 ∧ zq_at zy_leastSpot_7_12.2.1 51 54 ∧ zq_at zy_leastSpot_7_12.2.1 52 6 ∧ zq_at zy_leastSpot_7_12.2.1 53 28 ∧ zq_at zy_leastSpot_7_12.2.1 54 21 ∧ zq_at zy_leastSpot_7_12.2.1 55 6 ∧ zq_at zy_leastSpot_7_12.2.1 56 162 ∧ zq_at zy_leastSpot_7_12.2.1 57 0 ∧ zq_at zy_leastSpot_7_12.2.1 58 32 ∧ zq_at zy_leastSpot_7_12.2.1 88 132 ∧ zq_at zy_leastSpot_7_12.2.1 89 5 ∧ zq_at zy_leastSpot_7_12.2.1 90 1 ∧ zq_at zy_leastSpot_7_12.2.1 91 167 ∧ zq_at zy_leastSpot_7_12.2.1 92 255 ∧ zq_at zy_leastSpot_7_12.2.1 93 189 ∧ zq_at zy_leastSpot_7_12.2.1 59 42 ∧ zq_at zy_leastSpot_7_12.2.1 60 180 ∧ zq_at zy_leastSpot_7_12.2.1 61 0 ∧ zq_at zy_leastSpot_7_12.2.1 62 11 := by decide +kernel
theorem zd_7_12_46 : zz_D zy_leastSpot_7_12 46 (.aaload) 1 47 := ⟨zq_50 zg_7_12_46.1, rfl⟩
theorem zd_7_12_47 : zz_D zy_leastSpot_7_12 47 (.invokevirtual 60) 3 50 := ⟨zq_182 zg_7_12_46.2.1 zg_7_12_46.2.2.1 zg_7_12_46.2.2.2.1 rfl, rfl⟩
theorem zd_7_12_50 : zz_D zy_leastSpot_7_12 50 (.iadd) 1 51 := ⟨zq_96 zg_7_12_46.2.2.2.2.1, rfl⟩
theorem zd_7_12_51 : zz_D zy_leastSpot_7_12 51 (.istore 6) 2 53 := ⟨zq_54 zg_7_12_46.2.2.2.2.2.1 zg_7_12_46.2.2.2.2.2.2.1, rfl⟩
theorem zd_7_12_53 : zz_D zy_leastSpot_7_12 53 (.iload_n 2) 1 54 := ⟨zq_28 zg_7_12_46.2.2.2.2.2.2.2.1, rfl⟩
theorem zd_7_12_54 : zz_D zy_leastSpot_7_12 54 (.iload 6) 2 56 := ⟨zq_21 zg_7_12_46.2.2.2.2.2.2.2.2.1 zg_7_12_46.2.2.2.2.2.2.2.2.2.1, rfl⟩
theorem zd_7_12_56 : zz_B zy_leastSpot_7_12 56 (Instr.if_icmp .ge) 88 59 := ⟨32, zq_162 zg_7_12_46.2.2.2.2.2.2.2.2.2.2.1 zg_7_12_46.2.2.2.2.2.2.2.2.2.2.2.1 zg_7_12_46.2.2.2.2.2.2.2.2.2.2.2.2.1 (by decide), rfl, rfl⟩
theorem zd_7_12_88 : zz_D zy_leastSpot_7_12 88 (.iinc 5 1) 3 91 := ⟨zq_132 zg_7_12_46.2.2.2.2.2.2.2.2.2.2.2.2.2.1 zg_7_12_46.2.2.2.2.2.2.2.2.2.2.2.2.2.2.1 zg_7_12_46.2.2.2.2.2.2.2.2.2.2.2.2.2.2.2.1 (by decide), rfl⟩
theorem zd_7_12_91 : zz_B zy_leastSpot_7_12 91 Instr.goto 24 94 := ⟨(-67), zq_167 zg_7_12_46.2.2.2.2.2.2.2.2.2.2.2.2.2.2.2.2.1 zg_7_12_46.2.2.2.2.2.2.2.2.2.2.2.2.2.2.2.2.2.1 zg_7_12_46.2.2.2.2.2.2.2.2.2.2.2.2.2.2.2.2.2.2.1 (by decide), rfl, rfl⟩
theorem zd_7_12_59 : zz_D zy_leastSpot_7_12 59 (.aload_n 0) 1 60 := ⟨zq_42 zg_7_12_46.2.2.2.2.2.2.2.2.2.2.2.2.2.2.2.2.2.2.2.1, rfl⟩
theorem zd_7_12_60 : zz_D zy_leastSpot_7_12 60 (.getfield 11) 3 63 := ⟨zq_180 zg_7_12_46.2.2.2.2.2.2.2.2.2.2.2.2.2.2.2.2.2.2.2.2.1 zg_7_12_46.2.2.2.2.2.2.2.2.2.2.2.2.2.2.2.2.2.2.2.2.2.1 zg_7_12_46.2.2.2.2.2.2.2.2.2.2.2.2.2.2.2.2.2.2.2.2.2.2 rfl, rfl⟩
theorem zg_7_12_63 : zq_at zy_leastSpot_7_12.2.1 63 21 ∧ zq_at zy_leastSpot_7_12.2.1 64 5 ∧ zq_at zy_leastSpot_7_12.2.1 65 50 ∧ zq_at zy_leastSpot_7_12.2.1 66 180 ∧ zq_at zy_leastSpot_7_12.2.1 67 0 ∧ zq_at zy_leastSpot_7_12.2.1 68 76 ∧ zq_at zy_leastSpot_7_12.2.1 69 28 ∧ zq_at zy_leastSpot_7_12.2.1 70 29 ∧ zq_at zy_leastSpot_7_12.2.1 71 96 ∧ zq_at zy_leastSpot_7_12.2.1 72 162 ∧ zq_at zy_leastSpot_7_12.2.1 73 0 ∧ zq_at zy_leastSpot_7_12.2.1 74 16 ∧ zq_at zy_leastSpot_7_12.2.1 75 42 ∧ zq_at zy_leastSpot_7_12.2.1 76 21 ∧ zq_at zy_leastSpot_7_12.2.1 77 5 ∧ zq_at zy_leastSpot_7_12.2.1 78 27 ∧ zq_at zy_leastSpot_7_12.2.1 79 182 ∧ zq_at zy_leastSpot_7_12.2.1 80 0 ∧ zq_at zy_leastSpot_7_12.2.1 81 83 := by decide +kernel
theorem zd_7_12_63 : zz_D zy_leastSpot_7_12 63 (.iload 5) 2 65 := ⟨zq_21 zg_7_12_63.1 zg_7_12_63.2.1, rfl⟩
theorem zd_7_12_65 : zz_D zy_leastSpot_7_12 65 (.aaload) 1 66 := ⟨zq_50 zg_7_12_63.2.2.1, rfl⟩
theorem zd_7_12_66 : zz_D zy_leastSpot_7_12 66 (.getfield 76) 3 69 := ⟨zq_180 zg_7_12_63.2.2.2.1 zg_7_12_63.2.2.2.2.1 zg_7_12_63.2.2.2.2.2.1 rfl, rfl⟩
theorem zd_7_12_69 : zz_D zy_leastSpot_7_12 69 (.iload_n 2) 1 70 := ⟨zq_28 zg_7_12_63.2.2.2.2.2.2.1, rfl⟩
theorem zd_7_12_70 : zz_D zy_leastSpot_7_12 70 (.iload_n 3) 1 71 := ⟨zq_29 zg_7_12_63.2.2.2.2.2.2.2.1, rfl⟩
theorem zd_7_12_71 : zz_D zy_leastSpot_7_12 71 (.iadd) 1 72 := ⟨zq_96 zg_7_12_63.2.2.2.2.2.2.2.2.1, rfl⟩
theorem zd_7_12_72 : zz_B zy_leastSpot_7_12 72 (Instr.if_icmp .ge) 88 75 := ⟨16, zq_162 zg_7_12_63.2.2.2.2.2.2.2.2.2.1 zg_7_12_63.2.2.2.2.2.2.2.2.2.2.1 zg_7_12_63.2.2.2.2.2.2.2.2.2.2.2.1 (by decide), rfl, rfl⟩
theorem zd_7_12_75 : zz_D zy_leastSpot_7_12 75 (.aload_n 0) 1 76 := ⟨zq_42 zg_7_12_63.2.2.2.2.2.2.2.2.2.2.2.2.1, rfl⟩
theorem zd_7_12_76 : zz_D zy_leastSpot_7_12 76 (.iload 5) 2 78 := ⟨zq_21 zg_7_12_63.2.2.2.2.2.2.2.2.2.2.2.2.2.1 zg_7_12_63.2.2.2.2.2.2.2.2.2.2.2.2.2.2.1, rfl⟩
theorem zd_7_12_78 : zz_D zy_leastSpot_7_12 78 (.iload_n 1) 1 79 := ⟨zq_27 zg_7_12_63.2.2.2.2.2.2.2.2.2.2.2.2.2.2.2.1, rfl⟩
theorem zd_7_12_79 : zz_D zy_leastSpot_7_12 79 (.invokevirtual 83) 3 82 := ⟨zq_182 zg_7_12_63.2.2.2.2.2.2.2.2.2.2.2.2.2.2.2.2.1 zg_7_12_63.2.2.2.2.2.2.2.2.2.2.2.2.2.2.2.2.2.1 zg_7_12_63.2.2.2.2.2.2.2.2.2.2.2.2.2.2.2.2.2.2 rfl, rfl⟩
theorem zg_7_13_0 : zq_at zy_isNeeded_7_13.2.1 0 3 ∧ zq_at zy_isNeeded_7_13.2.1 1 62 ∧ zq_at zy_isNeeded_7_13.2.1 2 4 ∧ zq_at zy_isNeeded_7_13.2.1 3 54 ∧ zq_at zy_isNeeded_7_13.2.1 4 4 ∧ zq_at zy_isNeeded_7_13.2.1 5 21 ∧ zq_at zy_isNeeded_7_13.2.1 6 4 ∧ zq_at zy_isNeeded_7_13.2.1 7 42 ∧ zq_at zy_isNeeded_7_13.2.1 8 180 ∧ zq_at zy_isNeeded_7_13.2.1 9 0 ∧ zq_at zy_isNeeded_7_13.2.1 10 16 ∧ zq_at zy_isNeeded_7_13.2.1 11 162 ∧ zq_at zy_isNeeded_7_13.2.1 12 0 ∧ zq_at zy_isNeeded_7_13.2.1 13 33 ∧ zq_at zy_isNeeded_7_13.2.1 44 29 ∧ zq_at zy_isNeeded_7_13.2.1 45 154 ∧ zq_at zy_isNeeded_7_13.2.1 46 0 ∧ zq_at zy_isNeeded_7_13.2.1 47 7 ∧ zq_at zy_isNeeded_7_13.2.1 52 3 ∧ zq_at zy_isNeeded_7_13.2.1 53 172 ∧ zq_at zy_isNeeded_7_13.2.1 48 4 ∧ zq_at zy_isNeeded_7_13.2.1 49 167 ∧ zq_at zy_isNeeded_7_13.2.1 50 0 ∧ zq_at zy_isNeeded_7_13.2.1 51 4 := by decide +kernel
theorem zd_7_13_0 : zz_D zy_isNeeded_7_13 0 (.iconst 0) 1 1 := ⟨zq_3 zg_7_13_0.1, rfl⟩
theorem zd_7_13_1 : zz_D zy_isNeeded_7_13 1 (.istore_n 3) 1 2 := ⟨zq_62 zg_7_13_0.2.1, rfl⟩
theorem zd_7_13_2 : zz_D zy_isNeeded_7_13 2 (.iconst 1) 1 3 := ⟨zq_4 zg_7_13_0.2.2.1, rfl⟩
theorem zd_7_13_3 : zz_D zy_isNeeded_7_13 3 (.istore 4) 2 5 := ⟨zq_54 zg_7_13_0.2.2.2.1 zg_7_13_0.2.2.2.2.1, rfl⟩
theorem zd_7_13_5 : zz_D zy_isNeeded_7_13 5 (.iload 4) 2 7 := ⟨zq_21 zg_7_13_0.2.2.2.2.2.1 zg_7_13_0.2.2.2.2.2.2.1, rfl⟩
theorem zd_7_13_7 : zz_D zy_isNeeded_7_13 7 (.aload_n 0) 1 8 := ⟨zq_42 zg_7_13_0.2.2.2.2.2.2.2.1, rfl⟩
theorem zd_7_13_8 : zz_D zy_isNeeded_7_13 8 (.getfield 16) 3 11 := ⟨zq_180 zg_7_13_0.2.2.2.2.2.2.2.2.1 zg_7_13_0.2.2.2.2.2.2.2.2.2.1 zg_7_13_0.2.2.2.2.2.2.2.2.2.2.1 rfl, rfl⟩
theorem zd_7_13_11 : zz_B zy_isNeeded_7_13 11 (Instr.if_icmp .ge) 44 14 := ⟨33, zq_162 zg_7_13_0.2.2.2.2.2.2.2.2.2.2.2.1 zg_7_13_0.2.2.2.2.2.2.2.2.2.2.2.2.1 zg_7_13_0.2.2.2.2.2.2.2.2.2.2.2.2.2.1 (by decide), rfl, rfl⟩
theorem zd_7_13_44 : zz_D zy_isNeeded_7_13 44 (.iload_n 3) 1 45 := ⟨zq_29 zg_7_13_0.2.2.2.2.2.2.2.2.2.2.2.2.2.2.1, rfl⟩
theorem zd_7_13_45 : zz_B zy_isNeeded_7_13 45 (Instr.ifCond .ne) 52 48 := ⟨7, zq_154 zg_7_13_0.2.2.2.2.2.2.2.2.2.2.2.2.2.2.2.1 zg_7_13_0.2.2.2.2.2.2.2.2.2.2.2.2.2.2.2.2.1 zg_7_13_0.2.2.2.2.2.2.2.2.2.2.2.2.2.2.2.2.2.1 (by decide), rfl, rfl⟩
theorem zd_7_13_52 : zz_D zy_isNeeded_7_13 52 (.iconst 0) 1 53 := ⟨zq_3 zg_7_13_0.2.2.2.2.2.2.2.2.2.2.2.2.2.2.2.2.2.2.1, rfl⟩
theorem zd_7_13_53 : zz_D zy_isNeeded_7_13 53 (.ireturn) 1 54 := ⟨zq_172 zg_7_13_0.2.2.2.2.2.2.2.2.2.2.2.2.2.2.2.2.2.2.2.1, rfl⟩
theorem zd_7_13_48 : zz_D zy_isNeeded_7_13 48 (.iconst 1) 1 49 := ⟨zq_4 zg_7_13_0.2.2.2.2.2.2.2.2.2.2.2.2.2.2.2.2.2.2.2.2.1, rfl⟩
theorem zd_7_13_49 : zz_B zy_isNeeded_7_13 49 Instr.goto 53 52 := ⟨4, zq_167 zg_7_13_0.2.2.2.2.2.2.2.2.2.2.2.2.2.2.2.2.2.2.2.2.2.1 zg_7_13_0.2.2.2.2.2.2.2.2.2.2.2.2.2.2.2.2.2.2.2.2.2.2.1 zg_7_13_0.2.2.2.2.2.2.2.2.2.2.2.2.2.2.2.2.2.2.2.2.2.2.2 (by decide), rfl, rfl⟩
theorem zg_7_13_14 : zq_at zy_isNeeded_7_13.2.1 14 42 ∧ zq_at zy_isNeeded_7_13.2.1 15 180 ∧ zq_at zy_isNeeded_7_13.2.1 16 0 ∧ zq_at zy_isNeeded_7_13.2.1 17 11 ∧ zq_at zy_isNeeded_7_13.2.1 18 21 ∧ zq_at zy_isNeeded_7_13.2.1 19 4 ∧ zq_at zy_isNeeded_7_13.2.1 20 50 ∧ zq_at zy_isNeeded_7_13.2.1 21 27 ∧ zq_at zy_isNeeded_7_13.2.1 22 182 ∧ zq_at zy_isNeeded_7_13.2.1 23 0 ∧ zq_at zy_isNeeded_7_13.2.1 24 87 := by decide +kernel
theorem zd_7_13_14 : zz_D zy_isNeeded_7_13 14 (.aload_n 0) 1 15 := ⟨zq_42 zg_7_13_14.1, rfl⟩
theorem zd_7_13_15 : zz_D zy_isNeeded_7_13 15 (.getfield 11) 3 18 := ⟨zq_180 zg_7_13_14.2.1 zg_7_13_14.2.2.1 zg_7_13_14.2.2.2.1 rfl, rfl⟩
theorem zd_7_13_18 : zz_D zy_isNeeded_7_13 18 (.iload 4) 2 20 := ⟨zq_21 zg_7_13_14.2.2.2.2.1 zg_7_13_14.2.2.2.2.2.1, rfl⟩
theorem zd_7_13_20 : zz_D zy_isNeeded_7_13 20 (.aaload) 1 21 := ⟨zq_50 zg_7_13_14.2.2.2.2.2.2.1, rfl⟩
theorem zd_7_13_21 : zz_D zy_isNeeded_7_13 21 (.iload_n 1) 1 22 := ⟨zq_27 zg_7_13_14.2.2.2.2.2.2.2.1, rfl⟩
theorem zd_7_13_22 : zz_D zy_isNeeded_7_13 22 (.invokevirtual 87) 3 25 := ⟨zq_182 zg_7_13_14.2.2.2.2.2.2.2.2.1 zg_7_13_14.2.2.2.2.2.2.2.2.2.1 zg_7_13_14.2.2.2.2.2.2.2.2.2.2 rfl, rfl⟩
theorem zg_4_8_0 : zq_at zy_takes_4_8.2.1 0 42 ∧ zq_at zy_takes_4_8.2.1 1 180 ∧ zq_at zy_takes_4_8.2.1 2 0 ∧ zq_at zy_takes_4_8.2.1 3 13 ∧ zq_at zy_takes_4_8.2.1 4 153 ∧ zq_at zy_takes_4_8.2.1 5 0 ∧ zq_at zy_takes_4_8.2.1 6 23 ∧ zq_at zy_takes_4_8.2.1 27 3 ∧ zq_at zy_takes_4_8.2.1 28 172 ∧ zq_at zy_takes_4_8.2.1 7 42 ∧ zq_at zy_takes_4_8.2.1 8 180 ∧ zq_at zy_takes_4_8.2.1 9 0 ∧ zq_at zy_takes_4_8.2.1 10 17 ∧ zq_at zy_takes_4_8.2.1 11 27 ∧ zq_at zy_takes_4_8.2.1 12 159 ∧ zq_at zy_takes_4_8.2.1 13 0 ∧ zq_at zy_takes_4_8.2.1 14 11 ∧ zq_at zy_takes_4_8.2.1 23 4 ∧ zq_at zy_takes_4_8.2.1 24 167 ∧ zq_at zy_takes_4_8.2.1 25 0 ∧ zq_at zy_takes_4_8.2.1 26 4 ∧ zq_at zy_takes_4_8.2.1 15 42 := by decide +kernel
theorem zd_4_8_0 : zz_D zy_takes_4_8 0 (.aload_n 0) 1 1 := ⟨zq_42 zg_4_8_0.1, rfl⟩
theorem zd_4_8_1 : zz_D zy_takes_4_8 1 (.getfield 13) 3 4 := ⟨zq_180 zg_4_8_0.2.1 zg_4_8_0.2.2.1 zg_4_8_0.2.2.2.1 rfl, rfl⟩
theorem zd_4_8_4 : zz_B zy_takes_4_8 4 (Instr.ifCond .eq) 27 7 := ⟨23, zq_153 zg_4_8_0.2.2.2.2.1 zg_4_8_0.2.2.2.2.2.1 zg_4_8_0.2.2.2.2.2.2.1 (by decide), rfl, rfl⟩
theorem zd_4_8_27 : zz_D zy_takes_4_8 27 (.iconst 0) 1 28 := ⟨zq_3 zg_4_8_0.2.2.2.2.2.2.2.1, rfl⟩
theorem zd_4_8_28 : zz_D zy_takes_4_8 28 (.ireturn) 1 29 := ⟨zq_172 zg_4_8_0.2.2.2.2.2.2.2.2.1, rfl⟩
theorem zd_4_8_7 : zz_D zy_takes_4_8 7 (.aload_n 0) 1 8 := ⟨zq_42 zg_4_8_0.2.2.2.2.2.2.2.2.2.1, rfl⟩
theorem zd_4_8_8 : zz_D zy_takes_4_8 8 (.getfield 17) 3 11 := ⟨zq_180 zg_4_8_0.2.2.2.2.2.2.2.2.2.2.1 zg_4_8_0.2.2.2.2.2.2.2.2.2.2.2.1 zg_4_8_0.2.2.2.2.2.2.2.2.2.2.2.2.1 rfl, rfl⟩
theorem zd_4_8_11 : zz_D zy_takes_4_8 11 (.iload_n 1) 1 12 := ⟨zq_27 zg_4_8_0.2.2.2.2.2.2.2.2.2.2.2.2.2.1, rfl⟩
theorem zd_4_8_12 : zz_B zy_takes_4_8 12 (Instr.if_icmp .eq) 23 15 := ⟨11, zq_159 zg_4_8_0.2.2.2.2.2.2.2.2.2.2.2.2.2.2.1 zg_4_8_0.2.2.2.2.2.2.2.2.2.2.2.2.2.2.2.1 zg_4_8_0.2.2.2.2.2.2.2.2.2.2.2.2.2.2.2.2.1 (by decide), rfl, rfl⟩
theorem zd_4_8_23 : zz_D zy_takes_4_8 23 (.iconst 1) 1 24 := ⟨zq_4 zg_4_8_0.2.2.2.2.2.2.2.2.2.2.2.2.2.2.2.2.2.1, rfl⟩
theorem zd_4_8_24 : zz_B zy_takes_4_8 24 Instr.goto 28 27 := ⟨4, zq_167 zg_4_8_0.2.2.2.2.2.2.2.2.2.2.2.2.2.2.2.2.2.2.1 zg_4_8_0.2.2.2.2.2.2.2.2.2.2.2.2.2.2.2.2.2.2.2.1 zg_4_8_0.2.2.2.2.2.2.2.2.2.2.2.2.2.2.2.2.2.2.2.2.1 (by decide), rfl, rfl⟩
theorem zd_4_8_15 : zz_D zy_takes_4_8 15 (.aload_n 0) 1 16 := ⟨zq_42 zg_4_8_0.2.2.2.2.2.2.2.2.2.2.2.2.2.2.2.2.2.2.2.2.2, rfl⟩
theorem zg_4_8_16 : zq_at zy_takes_4_8.2.1 16 180 ∧ zq_at zy_takes_4_8.2.1 17 0 ∧ zq_at zy_takes_4_8.2.1 18 20 ∧ zq_at zy_takes_4_8.2.1 19 27 ∧ zq_at zy_takes_4_8.2.1 20 160 ∧ zq_at zy_takes_4_8.2.1 21 0 ∧ zq_at zy_takes_4_8.2.1 22 7 := by decide +kernel
theorem zd_4_8_16 : zz_D zy_takes_4_8 16 (.getfield 20) 3 19 := ⟨zq_180 zg_4_8_16.1 zg_4_8_16.2.1 zg_4_8_16.2.2.1 rfl, rfl⟩
theorem zd_4_8_19 : zz_D zy_takes_4_8 19 (.iload_n 1) 1 20 := ⟨zq_27 zg_4_8_16.2.2.2.1, rfl⟩
theorem zd_4_8_20 : zz_B zy_takes_4_8 20 (Instr.if_icmp .ne) 27 23 := ⟨7, zq_160 zg_4_8_16.2.2.2.2.1 zg_4_8_16.2.2.2.2.2.1 zg_4_8_16.2.2.2.2.2.2 (by decide), rfl, rfl⟩
-- TensorForge$Layer takes (I)Z
abbrev zr_takes_4_8 : Room := { frames := 0, cells := 0, slots := 0, locals := 0 }
def zp_takes_4_8 (t : Int) (p0 : Int) (S0 : zz_S) : Int → zz_S → Prop := fun r S => S0 = S ∧ (0 ≤ r ∧ r ≤ 1) ∧ ((r = 1 ∧ (S0 (zz_rf 6 t) 0 ≠ 0 ∧ (S0 (zz_rf 6 t) 1 = p0 ∨ S0 (zz_rf 6 t) 2 = p0))) ∨ (r = 0 ∧ ¬ (S0 (zz_rf 6 t) 0 ≠ 0 ∧ (S0 (zz_rf 6 t) 1 = p0 ∨ S0 (zz_rf 6 t) 2 = p0))))
theorem zc_takes_4_8 {g : mm_G} {l : Launch} (t : Int) (p0 : Int) (S0 : zz_S) (n : Nat) (hn : zz_end ≤ n) (G_S0 : zz_G S0) (ht : 0 ≤ t ∧ t ≤ 23) (hp0 : (-2147483648) ≤ p0 ∧ p0 ≤ 2147483647) : mm_Met g l zy_takes_4_8 zr_takes_4_8 [.ref (zz_rf 6 t), zi p0] (zz_M S0 n) n (zz_QI n (zp_takes_4_8 t p0 S0)) := by
  refine zz_enter (by decide) (Nat.le_of_ble_eq_true rfl) (zz_less (ls1 := [some (.ref (zz_rf 6 t)), some (zi p0)]) ⟨rfl, ⟨rfl, trivial⟩⟩ ?_)
  have b_t := zz_rf6 (z := t) (by omega)
  refine zz_aload_n (x := zz_rf 6 t) rfl zd_4_8_0 ?_
  have g1 := zz_G.r G_S0 (zz_rf 6 t) 0 (-2147483648) 2147483647 (zR_k6_0 (by omega)) (zB_k6 (by omega))
  refine zz_geti (z := S0 (zz_rf 6 t) 0) zd_4_8_1 zf_Layer_13 (zT_k6 (by omega)) rfl (zN_k6 hn (by omega)) rfl ?_
  refine zz_if_eq (by omega) zd_4_8_4 (fun c2 => ?_) (fun c2 => ?_)
  · refine zz_iconst zd_4_8_27 ?_
    exact zz_zret zd_4_8_28 rfl (by omega) (Nat.zero_le _) (Nat.zero_le _) ⟨_, _, rfl, rfl, by omega, by omega⟩
  · refine zz_aload_n (x := zz_rf 6 t) rfl zd_4_8_7 ?_
    have g3 := zz_G.r G_S0 (zz_rf 6 t) 1 (-2147483648) 2147483647 (zR_k6_1 (by omega)) (zB_k6 (by omega))
    refine zz_geti (z := S0 (zz_rf 6 t) 1) zd_4_8_8 zf_Layer_17 (zT_k6 (by omega)) rfl (zN_k6 hn (by omega)) rfl ?_
    refine zz_iload_n (x := p0) rfl zd_4_8_11 ?_
    refine zz_icmp_eq (by omega) (by omega) zd_4_8_12 (fun c4 => ?_) (fun c4 => ?_)
    · refine zz_iconst zd_4_8_23 ?_
      refine zz_goto zd_4_8_24 ?_
      exact zz_zret zd_4_8_28 rfl (by omega) (Nat.zero_le _) (Nat.zero_le _) ⟨_, _, rfl, rfl, by omega, by omega⟩
    · refine zz_aload_n (x := zz_rf 6 t) rfl zd_4_8_15 ?_
      have g5 := zz_G.r G_S0 (zz_rf 6 t) 2 (-2147483648) 2147483647 (zR_k6_2 (by omega)) (zB_k6 (by omega))
      refine zz_geti (z := S0 (zz_rf 6 t) 2) zd_4_8_16 zf_Layer_20 (zT_k6 (by omega)) rfl (zN_k6 hn (by omega)) rfl ?_
      refine zz_iload_n (x := p0) rfl zd_4_8_19 ?_
      refine zz_icmp_ne (by omega) (by omega) zd_4_8_20 (fun c6 => ?_) (fun c6 => ?_)
      · refine zz_iconst zd_4_8_27 ?_
        exact zz_zret zd_4_8_28 rfl (by omega) (Nat.zero_le _) (Nat.zero_le _) ⟨_, _, rfl, rfl, by omega, by omega⟩
      · refine zz_iconst zd_4_8_23 ?_
        refine zz_goto zd_4_8_24 ?_
        exact zz_zret zd_4_8_28 rfl (by omega) (Nat.zero_le _) (Nat.zero_le _) ⟨_, _, rfl, rfl, by omega, by omega⟩
theorem zk_Network_87 : mm_Vl "TensorForge$Network" 87 2 1 zy_takes_4_8 := ⟨zyw_takes_4_8, (R_Layer, F_Layer, 15), rfl, mm_tb_1 1524 (by decide +kernel) rfl, mm_tb_1 1525 (by decide +kernel) rfl, mm_tb_1 1526 (by decide +kernel) rfl⟩
theorem zg_7_13_25 : zq_at zy_isNeeded_7_13.2.1 25 153 ∧ zq_at zy_isNeeded_7_13.2.1 26 0 ∧ zq_at zy_isNeeded_7_13.2.1 27 13 ∧ zq_at zy_isNeeded_7_13.2.1 38 132 ∧ zq_at zy_isNeeded_7_13.2.1 39 4 ∧ zq_at zy_isNeeded_7_13.2.1 40 1 ∧ zq_at zy_isNeeded_7_13.2.1 41 167 ∧ zq_at zy_isNeeded_7_13.2.1 42 255 ∧ zq_at zy_isNeeded_7_13.2.1 43 220 ∧ zq_at zy_isNeeded_7_13.2.1 28 4 ∧ zq_at zy_isNeeded_7_13.2.1 29 62 ∧ zq_at zy_isNeeded_7_13.2.1 30 21 ∧ zq_at zy_isNeeded_7_13.2.1 31 4 ∧ zq_at zy_isNeeded_7_13.2.1 32 28 ∧ zq_at zy_isNeeded_7_13.2.1 33 161 ∧ zq_at zy_isNeeded_7_13.2.1 34 0 ∧ zq_at zy_isNeeded_7_13.2.1 35 5 ∧ zq_at zy_isNeeded_7_13.2.1 36 4 ∧ zq_at zy_isNeeded_7_13.2.1 37 172 := by decide +kernel
theorem zd_7_13_25 : zz_B zy_isNeeded_7_13 25 (Instr.ifCond .eq) 38 28 := ⟨13, zq_153 zg_7_13_25.1 zg_7_13_25.2.1 zg_7_13_25.2.2.1 (by decide), rfl, rfl⟩
theorem zd_7_13_38 : zz_D zy_isNeeded_7_13 38 (.iinc 4 1) 3 41 := ⟨zq_132 zg_7_13_25.2.2.2.1 zg_7_13_25.2.2.2.2.1 zg_7_13_25.2.2.2.2.2.1 (by decide), rfl⟩
theorem zd_7_13_41 : zz_B zy_isNeeded_7_13 41 Instr.goto 5 44 := ⟨(-36), zq_167 zg_7_13_25.2.2.2.2.2.2.1 zg_7_13_25.2.2.2.2.2.2.2.1 zg_7_13_25.2.2.2.2.2.2.2.2.1 (by decide), rfl, rfl⟩
theorem zd_7_13_28 : zz_D zy_isNeeded_7_13 28 (.iconst 1) 1 29 := ⟨zq_4 zg_7_13_25.2.2.2.2.2.2.2.2.2.1, rfl⟩
theorem zd_7_13_29 : zz_D zy_isNeeded_7_13 29 (.istore_n 3) 1 30 := ⟨zq_62 zg_7_13_25.2.2.2.2.2.2.2.2.2.2.1, rfl⟩
theorem zd_7_13_30 : zz_D zy_isNeeded_7_13 30 (.iload 4) 2 32 := ⟨zq_21 zg_7_13_25.2.2.2.2.2.2.2.2.2.2.2.1 zg_7_13_25.2.2.2.2.2.2.2.2.2.2.2.2.1, rfl⟩
theorem zd_7_13_32 : zz_D zy_isNeeded_7_13 32 (.iload_n 2) 1 33 := ⟨zq_28 zg_7_13_25.2.2.2.2.2.2.2.2.2.2.2.2.2.1, rfl⟩
theorem zd_7_13_33 : zz_B zy_isNeeded_7_13 33 (Instr.if_icmp .lt) 38 36 := ⟨5, zq_161 zg_7_13_25.2.2.2.2.2.2.2.2.2.2.2.2.2.2.1 zg_7_13_25.2.2.2.2.2.2.2.2.2.2.2.2.2.2.2.1 zg_7_13_25.2.2.2.2.2.2.2.2.2.2.2.2.2.2.2.2.1 (by decide), rfl, rfl⟩
theorem zd_7_13_36 : zz_D zy_isNeeded_7_13 36 (.iconst 1) 1 37 := ⟨zq_4 zg_7_13_25.2.2.2.2.2.2.2.2.2.2.2.2.2.2.2.2.2.1, rfl⟩
theorem zd_7_13_37 : zz_D zy_isNeeded_7_13 37 (.ireturn) 1 38 := ⟨zq_172 zg_7_13_25.2.2.2.2.2.2.2.2.2.2.2.2.2.2.2.2.2.2, rfl⟩
-- TensorForge$Network isNeeded (II)Z
abbrev zr_isNeeded_7_13 : Room := { frames := 1, cells := 0, slots := 0, locals := 13 }
def zp_isNeeded_7_13 (t : Int) (p0 : Int) (p1 : Int) (S0 : zz_S) : Int → zz_S → Prop := fun r S => S0 = S ∧ (0 ≤ r ∧ r ≤ 1) ∧ (zn_NDp S0 t p0 p1 r)
theorem zb_isNeeded_7_13_5 {g : mm_G} {l : Launch} (t : Int) (p0 : Int) (p1 : Int) (S0 : zz_S) (n : Nat) (hn : zz_end ≤ n) (G_S0 : zz_G S0) (ht : 0 ≤ t ∧ t ≤ 1) (hp0 : (-2147483648) ≤ p0 ∧ p0 ≤ 2147483647) (hp1 : (-2147483648) ≤ p1 ∧ p1 ≤ 2147483647) (x3 : Int) (x4 : Int) (S : zz_S) (G_S : zz_G S) (F_S : zz_fr [] [] (fun _ _ => False) S0 S) (i5_0 : 0 ≤ x3 ∧ x3 ≤ 1) (i5_1 : 1 ≤ x4 ∧ x4 ≤ 11) (i5_2 : x4 ≤ S0 (zz_rf 3 t) 1 ∨ x4 = 1) (i5_3 : zn_NI S0 t p0 p1 x3 x4) (R : Nat) (hR : (S (zz_rf 3 t) 1 - x4).toNat = R) (k5 : ∀ (x3 : Int) (x4 : Int) (S : zz_S), zz_G S → zz_fr [] [] (fun _ _ => False) S0 S → (0 ≤ x3 ∧ x3 ≤ 1) → (1 ≤ x4 ∧ x4 ≤ 11) → (x4 ≤ S0 (zz_rf 3 t) 1 ∨ x4 = 1) → (zn_NI S0 t p0 p1 x3 x4) → (S (zz_rf 3 t) 1 - x4).toNat < R → zz_E g l zy_isNeeded_7_13 zr_isNeeded_7_13 (zz_QI n (zp_isNeeded_7_13 t p0 p1 S0)) S n 5 [some (.ref (zz_rf 3 t)), some (zi p0), some (zi p1), some (zi x3), some (zi x4)] [] 0 0) : zz_E g l zy_isNeeded_7_13 zr_isNeeded_7_13 (zz_QI n (zp_isNeeded_7_13 t p0 p1 S0)) S n 5 [some (.ref (zz_rf 3 t)), some (zi p0), some (zi p1), some (zi x3), some (zi x4)] [] 0 0 := by
  have b_t := zz_rf3 (z := t) (by omega)
  refine zz_iload (x := x4) rfl zd_7_13_5 ?_
  refine zz_aload_n (x := zz_rf 3 t) rfl zd_7_13_7 ?_
  have g1 := zz_G.r G_S0 (zz_rf 3 t) 1 1 11 (zR_k3_1 (by omega)) (zB_k3 (by omega))
  refine zz_geti (z := S0 (zz_rf 3 t) 1) zd_7_13_8 zf_Network_16 (zT_k3 (by omega)) rfl (zN_k3 hn (by omega)) (zz_rc F_S (zP_k3 (by omega) rfl) (zQ_k3 (by omega) rfl) (fun h => h) rfl) ?_
  refine zz_icmp_ge (by omega) (by omega) zd_7_13_11 (fun c2 => ?_) (fun c2 => ?_)
  · refine zz_iload_n (x := x3) rfl zd_7_13_44 ?_
    refine zz_if_ne (by omega) zd_7_13_45 (fun c3 => ?_) (fun c3 => ?_)
    · refine zz_iconst zd_7_13_52 ?_
      exact zz_zret zd_7_13_53 rfl (by omega) (Nat.zero_le _) (Nat.zero_le _) ⟨_, _, rfl, zz_fr.eq F_S, by omega, (zn_NIe i5_3 (by omega) (by omega) (by omega))⟩
    · refine zz_iconst zd_7_13_48 ?_
      refine zz_goto zd_7_13_49 ?_
      exact zz_zret zd_7_13_53 rfl (by omega) (Nat.zero_le _) (Nat.zero_le _) ⟨_, _, rfl, zz_fr.eq F_S, by omega, (zn_NIe i5_3 (by omega) (by omega) (by omega))⟩
  · refine zz_aload_n (x := zz_rf 3 t) rfl zd_7_13_14 ?_
    refine zz_getr (kd := 0) (z := ((zz_rf 3 t + 1 : Nat) : Int)) zd_7_13_15 zf_Network_11 (zT_k3 (by omega)) rfl (zN_k3 hn (by omega)) (zE_k3a G_S (by omega)) (Int.natCast_nonneg _) (zz_rf 3 t + 1) (Int.toNat_natCast _) ?_
    refine zz_iload (x := x4) rfl zd_7_13_18 ?_
    refine zz_aald (kd := 4) (z := 12 * t + x4) zd_7_13_20 (zT_k3a (by omega)) rfl (zN_k3a hn (by omega)) (by decide) (by omega) (zE_lay G_S (by omega) (by omega)) (by omega) (zz_rf 6 (12 * t + x4)) rfl ?_
    refine zz_iload_n (x := p0) rfl zd_7_13_21 ?_
    have e4 : S (zz_rf 6 (12 * t + x4)) 0 = S0 (zz_rf 6 (12 * t + x4)) 0 := (zz_rc F_S (zP_k6 (by omega) rfl) (zQ_k6 (by omega) rfl) (fun h => h) rfl)
    have e5 : S (zz_rf 6 (12 * t + x4)) 1 = S0 (zz_rf 6 (12 * t + x4)) 1 := (zz_rc F_S (zP_k6 (by omega) rfl) (zQ_k6 (by omega) rfl) (fun h => h) rfl)
    have e6 : S (zz_rf 6 (12 * t + x4)) 2 = S0 (zz_rf 6 (12 * t + x4)) 2 := (zz_rc F_S (zP_k6 (by omega) rfl) (zQ_k6 (by omega) rfl) (fun h => h) rfl)
    refine zz_callVI [zi p0] zd_7_13_22 zk_Network_87 (zT_k6 (by omega)) (zN_k6 hn (by omega)) rfl rfl ⟨Nat.le_of_ble_eq_true rfl, Nat.le_of_ble_eq_true rfl⟩ ⟨rfl, rfl⟩ (Nat.zero_le _) (Nat.zero_le _) (zc_takes_4_8 (12 * t + x4) p0 S n hn G_S (by omega) (by omega)) (fun v8 S7 hP => ?_)
    obtain ⟨rfl, o9, o10⟩ := hP
    rcases (by omega : v8 = 0 ∨ v8 = 1) with rfl | rfl
    · rw [← zz_fr.eq F_S] at o10
      refine zz_if_eq (by omega) zd_7_13_25 (fun c11 => ?_) (fun c11 => ?_)
      · refine zz_iinc [some (.ref (zz_rf 3 t)), some (zi p0), some (zi p1), some (zi x3), some (zi (x4 + 1))] zd_7_13_38 rfl rfl ?_
        refine zz_goto zd_7_13_41 ?_
        have e12 : S (zz_rf 3 t) 1 = S0 (zz_rf 3 t) 1 := (zz_rc F_S (zP_k3 (by omega) rfl) (zQ_k3 (by omega) rfl) (fun h => h) rfl)
        refine zz_less (ls1 := [some (.ref (zz_rf 3 t)), some (zi p0), some (zi p1), some (zi x3), some (zi (x4 + 1))]) ⟨rfl, ⟨rfl, ⟨rfl, ⟨rfl, ⟨rfl, trivial⟩⟩⟩⟩⟩ ?_
        exact k5 x3 (x4 + 1) S G_S F_S (by omega) (by omega) (by omega) (zn_NIs i5_3 (by omega) (by omega) (o10.resolve_left (fun h => absurd h.1 (by decide))).2) (by omega)
      · exfalso; omega
    · rw [← zz_fr.eq F_S] at o10
      refine zz_if_eq (by omega) zd_7_13_25 (fun c13 => ?_) (fun c13 => ?_)
      · exfalso; omega
      · refine zz_iconst zd_7_13_28 ?_
        refine zz_istore_n [some (.ref (zz_rf 3 t)), some (zi p0), some (zi p1), some (zi 1), some (zi x4)] zd_7_13_29 (by decide) rfl ?_
        refine zz_iload (x := x4) rfl zd_7_13_30 ?_
        refine zz_iload_n (x := p1) rfl zd_7_13_32 ?_
        refine zz_icmp_lt (by omega) (by omega) zd_7_13_33 (fun c14 => ?_) (fun c14 => ?_)
        · refine zz_iinc [some (.ref (zz_rf 3 t)), some (zi p0), some (zi p1), some (zi 1), some (zi (x4 + 1))] zd_7_13_38 rfl rfl ?_
          refine zz_goto zd_7_13_41 ?_
          have e15 : S (zz_rf 3 t) 1 = S0 (zz_rf 3 t) 1 := (zz_rc F_S (zP_k3 (by omega) rfl) (zQ_k3 (by omega) rfl) (fun h => h) rfl)
          refine zz_less (ls1 := [some (.ref (zz_rf 3 t)), some (zi p0), some (zi p1), some (zi 1), some (zi (x4 + 1))]) ⟨rfl, ⟨rfl, ⟨rfl, ⟨rfl, ⟨rfl, trivial⟩⟩⟩⟩⟩ ?_
          exact k5 1 (x4 + 1) S G_S F_S (by omega) (by omega) (by omega) (zn_NIt i5_3 (by omega) (by omega) (o10.resolve_right (fun h => absurd h.1 (by decide))).2 (by omega)) (by omega)
        · refine zz_iconst zd_7_13_36 ?_
          exact zz_zret zd_7_13_37 rfl (by omega) (Nat.zero_le _) (Nat.zero_le _) ⟨_, _, rfl, zz_fr.eq F_S, by omega, (zn_NIy (k := x4) (by omega) (by omega) (o10.resolve_right (fun h => absurd h.1 (by decide))).2 (by omega))⟩
theorem zi_isNeeded_7_13 {g : mm_G} {l : Launch} (t : Int) (p0 : Int) (p1 : Int) (S0 : zz_S) (n : Nat) (hn : zz_end ≤ n) (G_S0 : zz_G S0) (ht : 0 ≤ t ∧ t ≤ 1) (hp0 : (-2147483648) ≤ p0 ∧ p0 ≤ 2147483647) (hp1 : (-2147483648) ≤ p1 ∧ p1 ≤ 2147483647) : ∀ N : Nat, (∀ (x3 : Int) (x4 : Int) (S : zz_S), zz_G S → zz_fr [] [] (fun _ _ => False) S0 S → (0 ≤ x3 ∧ x3 ≤ 1) → (1 ≤ x4 ∧ x4 ≤ 11) → (x4 ≤ S0 (zz_rf 3 t) 1 ∨ x4 = 1) → (zn_NI S0 t p0 p1 x3 x4) → (S (zz_rf 3 t) 1 - x4).toNat < N → zz_E g l zy_isNeeded_7_13 zr_isNeeded_7_13 (zz_QI n (zp_isNeeded_7_13 t p0 p1 S0)) S n 5 [some (.ref (zz_rf 3 t)), some (zi p0), some (zi p1), some (zi x3), some (zi x4)] [] 0 0) := by
  intro N
  induction N with
  | zero => exact fun x3 x4 S _ _ _ _ _ _ h => absurd h (Nat.not_lt_zero _)
  | succ N ih =>
    exact fun x3 x4 S a b j0 j1 j2 j3 hR => zb_isNeeded_7_13_5 t p0 p1 S0 n hn G_S0 ht hp0 hp1 x3 x4 S a b j0 j1 j2 j3 _ rfl (fun x3 x4 S a b j0 j1 j2 j3 h => ih x3 x4 S a b j0 j1 j2 j3 (Nat.lt_of_lt_of_le h (Nat.le_of_lt_succ hR)))
theorem zc_isNeeded_7_13 {g : mm_G} {l : Launch} (t : Int) (p0 : Int) (p1 : Int) (S0 : zz_S) (n : Nat) (hn : zz_end ≤ n) (G_S0 : zz_G S0) (ht : 0 ≤ t ∧ t ≤ 1) (hp0 : (-2147483648) ≤ p0 ∧ p0 ≤ 2147483647) (hp1 : (-2147483648) ≤ p1 ∧ p1 ≤ 2147483647) : mm_Met g l zy_isNeeded_7_13 zr_isNeeded_7_13 [.ref (zz_rf 3 t), zi p0, zi p1] (zz_M S0 n) n (zz_QI n (zp_isNeeded_7_13 t p0 p1 S0)) := by
  refine zz_enter (by decide) (Nat.le_of_ble_eq_true rfl) (zz_less (ls1 := [some (.ref (zz_rf 3 t)), some (zi p0), some (zi p1)]) ⟨rfl, ⟨rfl, ⟨rfl, trivial⟩⟩⟩ ?_)
  have F_S0 : zz_fr [] [] (fun _ _ => False) S0 S0 := zz_fr.refl
  have k5 : ∀ (x3 : Int) (x4 : Int) (S : zz_S), zz_G S → zz_fr [] [] (fun _ _ => False) S0 S → (0 ≤ x3 ∧ x3 ≤ 1) → (1 ≤ x4 ∧ x4 ≤ 11) → (x4 ≤ S0 (zz_rf 3 t) 1 ∨ x4 = 1) → (zn_NI S0 t p0 p1 x3 x4) → zz_E g l zy_isNeeded_7_13 zr_isNeeded_7_13 (zz_QI n (zp_isNeeded_7_13 t p0 p1 S0)) S n 5 [some (.ref (zz_rf 3 t)), some (zi p0), some (zi p1), some (zi x3), some (zi x4)] [] 0 0 := fun x3 x4 S a b j0 j1 j2 j3 => (zi_isNeeded_7_13 (g := g) (l := l) t p0 p1 S0 n hn G_S0 ht hp0 hp1 _) x3 x4 S a b j0 j1 j2 j3 (Nat.lt_succ_self _)
  have b_t := zz_rf3 (z := t) (by omega)
  refine zz_iconst zd_7_13_0 ?_
  refine zz_istore_n [some (.ref (zz_rf 3 t)), some (zi p0), some (zi p1), some (zi 0)] zd_7_13_1 (by decide) rfl ?_
  refine zz_iconst zd_7_13_2 ?_
  refine zz_istore [some (.ref (zz_rf 3 t)), some (zi p0), some (zi p1), some (zi 0), some (zi 1)] zd_7_13_3 (by decide) rfl ?_
  refine zz_less (ls1 := [some (.ref (zz_rf 3 t)), some (zi p0), some (zi p1), some (zi 0), some (zi 1)]) ⟨rfl, ⟨rfl, ⟨rfl, ⟨rfl, ⟨rfl, trivial⟩⟩⟩⟩⟩ ?_
  exact k5 0 1 S0 G_S0 F_S0 (by omega) (by omega) (by omega) zn_NI0
theorem zk_Network_83 : mm_Vl "TensorForge$Network" 83 1 2 zy_isNeeded_7_13 := ⟨zyw_isNeeded_7_13, (R_Network, F_Network, 2), rfl, mm_tb_1 1520 (by decide +kernel) rfl, mm_tb_1 1522 (by decide +kernel) rfl, mm_tb_s 78 (by decide +kernel) rfl⟩
theorem zg_7_12_82 : zq_at zy_leastSpot_7_12.2.1 82 153 ∧ zq_at zy_leastSpot_7_12.2.1 83 0 ∧ zq_at zy_leastSpot_7_12.2.1 84 6 ∧ zq_at zy_leastSpot_7_12.2.1 85 21 ∧ zq_at zy_leastSpot_7_12.2.1 86 6 ∧ zq_at zy_leastSpot_7_12.2.1 87 61 ∧ zq_at zy_leastSpot_7_12.2.1 94 132 ∧ zq_at zy_leastSpot_7_12.2.1 95 4 ∧ zq_at zy_leastSpot_7_12.2.1 96 1 ∧ zq_at zy_leastSpot_7_12.2.1 97 167 ∧ zq_at zy_leastSpot_7_12.2.1 98 255 ∧ zq_at zy_leastSpot_7_12.2.1 99 174 := by decide +kernel
theorem zd_7_12_82 : zz_B zy_leastSpot_7_12 82 (Instr.ifCond .eq) 88 85 := ⟨6, zq_153 zg_7_12_82.1 zg_7_12_82.2.1 zg_7_12_82.2.2.1 (by decide), rfl, rfl⟩
theorem zd_7_12_85 : zz_D zy_leastSpot_7_12 85 (.iload 6) 2 87 := ⟨zq_21 zg_7_12_82.2.2.2.1 zg_7_12_82.2.2.2.2.1, rfl⟩
theorem zd_7_12_87 : zz_D zy_leastSpot_7_12 87 (.istore_n 2) 1 88 := ⟨zq_61 zg_7_12_82.2.2.2.2.2.1, rfl⟩
theorem zd_7_12_94 : zz_D zy_leastSpot_7_12 94 (.iinc 4 1) 3 97 := ⟨zq_132 zg_7_12_82.2.2.2.2.2.2.1 zg_7_12_82.2.2.2.2.2.2.2.1 zg_7_12_82.2.2.2.2.2.2.2.2.1 (by decide), rfl⟩
theorem zd_7_12_97 : zz_B zy_leastSpot_7_12 97 Instr.goto 15 100 := ⟨(-82), zq_167 zg_7_12_82.2.2.2.2.2.2.2.2.2.1 zg_7_12_82.2.2.2.2.2.2.2.2.2.2.1 zg_7_12_82.2.2.2.2.2.2.2.2.2.2.2 (by decide), rfl, rfl⟩
-- TensorForge$Network leastSpot (I)I
abbrev zr_leastSpot_7_12 : Room := { frames := 2, cells := 0, slots := 0, locals := 29 }
def zp_leastSpot_7_12 (t : Int) (p0 : Int) (S0 : zz_S) : Int → zz_S → Prop := fun r S => S0 = S ∧ ((-2147483648) ≤ r ∧ r ≤ 2147483647) ∧ (p0 < S0 (zz_rf 3 t) 1 → ∀ v : zn_T, zn_LA S0 t p0 v → zn_ls v (zn_B S0 t) p0 r ∧ r ≤ 2048)
theorem zb_leastSpot_7_12_15 {g : mm_G} {l : Launch} (t : Int) (p0 : Int) (S0 : zz_S) (n : Nat) (hn : zz_end ≤ n) (G_S0 : zz_G S0) (ht : 0 ≤ t ∧ t ≤ 1) (hp0 : 0 ≤ p0 ∧ p0 ≤ 11) (x2 : Int) (x3 : Int) (x4 : Int) (S : zz_S) (G_S : zz_G S) (F_S : zz_fr [] [] (fun _ _ => False) S0 S) (i15_0 : 0 ≤ x2 ∧ x2 ≤ 2147483647) (i15_1 : (-2147483648) ≤ x3 ∧ x3 ≤ 2147483647) (i15_2 : 0 ≤ x4 ∧ x4 ≤ 13) (i15_3 : p0 < S0 (zz_rf 3 t) 1 → zn_LO S0 t p0 x2 x4) (i15_4 : zn_pz S0 (12 * t + p0) x3) (R : Nat) (hR : (34359738368 + (p0 - x4).toNat) * 1099511627776 + 1099511627775 = R) (k24 : ∀ (x2 : Int) (x3 : Int) (x4 : Int) (x5 : Int) (S : zz_S), zz_G S → zz_fr [] [] (fun _ _ => False) S0 S → (0 ≤ x2 ∧ x2 ≤ 2147483647) → ((-2147483648) ≤ x3 ∧ x3 ≤ 2147483647) → (0 ≤ x4 ∧ x4 ≤ 12) → (0 ≤ x5 ∧ x5 ≤ 11) → (0 ≤ x4 ∧ x4 ≤ 13) → (x4 < p0) → (1 ≤ p0 ∧ p0 ≤ 11) → (p0 < S0 (zz_rf 3 t) 1 → zn_LI S0 t p0 x2 x4 x5) → (zn_pz S0 (12 * t + p0) x3) → (34359738368 + (p0 - x4).toNat) * 1099511627776 + (17179869184 + (p0 - x5).toNat) < R → zz_E g l zy_leastSpot_7_12 zr_leastSpot_7_12 (zz_QI n (zp_leastSpot_7_12 t p0 S0)) S n 24 [some (.ref (zz_rf 3 t)), some (zi p0), some (zi x2), some (zi x3), some (zi x4), some (zi x5)] [] 0 0) : zz_E g l zy_leastSpot_7_12 zr_leastSpot_7_12 (zz_QI n (zp_leastSpot_7_12 t p0 S0)) S n 15 [some (.ref (zz_rf 3 t)), some (zi p0), some (zi x2), some (zi x3), some (zi x4)] [] 0 0 := by
  have b_t := zz_rf3 (z := t) (by omega)
  refine zz_iload (x := x4) rfl zd_7_12_15 ?_
  refine zz_iload_n (x := p0) rfl zd_7_12_17 ?_
  refine zz_icmp_ge (by omega) (by omega) zd_7_12_18 (fun c5 => ?_) (fun c5 => ?_)
  · refine zz_iload_n (x := x2) rfl zd_7_12_100 ?_
    exact zz_iret zd_7_12_101 rfl (Nat.zero_le _) (Nat.zero_le _) ⟨_, _, rfl, zz_fr.eq F_S, by omega, (fun h => zn_LOe (i15_3 h) (by omega) (by omega))⟩
  · refine zz_iconst zd_7_12_21 ?_
    refine zz_istore [some (.ref (zz_rf 3 t)), some (zi p0), some (zi x2), some (zi x3), some (zi x4), some (zi 0)] zd_7_12_22 (by decide) rfl ?_
    refine zz_less (ls1 := [some (.ref (zz_rf 3 t)), some (zi p0), some (zi x2), some (zi x3), some (zi x4), some (zi 0)]) ⟨rfl, ⟨rfl, ⟨rfl, ⟨rfl, ⟨rfl, ⟨rfl, trivial⟩⟩⟩⟩⟩⟩ ?_
    exact k24 x2 x3 x4 0 S G_S F_S (by omega) (by omega) (by omega) (by omega) (by omega) (by omega) (by omega) (fun h => zn_LIo (i15_3 h)) i15_4 (by omega)
theorem zb_leastSpot_7_12_24 {g : mm_G} {l : Launch} (t : Int) (p0 : Int) (S0 : zz_S) (n : Nat) (hn : zz_end ≤ n) (G_S0 : zz_G S0) (ht : 0 ≤ t ∧ t ≤ 1) (hp0 : 0 ≤ p0 ∧ p0 ≤ 11) (x2 : Int) (x3 : Int) (x4 : Int) (x5 : Int) (S : zz_S) (G_S : zz_G S) (F_S : zz_fr [] [] (fun _ _ => False) S0 S) (i24_0 : 0 ≤ x2 ∧ x2 ≤ 2147483647) (i24_1 : (-2147483648) ≤ x3 ∧ x3 ≤ 2147483647) (i24_2 : 0 ≤ x4 ∧ x4 ≤ 12) (i24_3 : 0 ≤ x5 ∧ x5 ≤ 11) (i24_4 : 0 ≤ x4 ∧ x4 ≤ 13) (i24_5 : x4 < p0) (i24_6 : 1 ≤ p0 ∧ p0 ≤ 11) (i24_7 : p0 < S0 (zz_rf 3 t) 1 → zn_LI S0 t p0 x2 x4 x5) (i24_8 : zn_pz S0 (12 * t + p0) x3) (R : Nat) (hR : (34359738368 + (p0 - x4).toNat) * 1099511627776 + (17179869184 + (p0 - x5).toNat) = R) (k15 : ∀ (x2 : Int) (x3 : Int) (x4 : Int) (S : zz_S), zz_G S → zz_fr [] [] (fun _ _ => False) S0 S → (0 ≤ x2 ∧ x2 ≤ 2147483647) → ((-2147483648) ≤ x3 ∧ x3 ≤ 2147483647) → (0 ≤ x4 ∧ x4 ≤ 13) → (p0 < S0 (zz_rf 3 t) 1 → zn_LO S0 t p0 x2 x4) → (zn_pz S0 (12 * t + p0) x3) → (34359738368 + (p0 - x4).toNat) * 1099511627776 + 1099511627775 < R → zz_E g l zy_leastSpot_7_12 zr_leastSpot_7_12 (zz_QI n (zp_leastSpot_7_12 t p0 S0)) S n 15 [some (.ref (zz_rf 3 t)), some (zi p0), some (zi x2), some (zi x3), some (zi x4)] [] 0 0) (k24 : ∀ (x2 : Int) (x3 : Int) (x4 : Int) (x5 : Int) (S : zz_S), zz_G S → zz_fr [] [] (fun _ _ => False) S0 S → (0 ≤ x2 ∧ x2 ≤ 2147483647) → ((-2147483648) ≤ x3 ∧ x3 ≤ 2147483647) → (0 ≤ x4 ∧ x4 ≤ 12) → (0 ≤ x5 ∧ x5 ≤ 11) → (0 ≤ x4 ∧ x4 ≤ 13) → (x4 < p0) → (1 ≤ p0 ∧ p0 ≤ 11) → (p0 < S0 (zz_rf 3 t) 1 → zn_LI S0 t p0 x2 x4 x5) → (zn_pz S0 (12 * t + p0) x3) → (34359738368 + (p0 - x4).toNat) * 1099511627776 + (17179869184 + (p0 - x5).toNat) < R → zz_E g l zy_leastSpot_7_12 zr_leastSpot_7_12 (zz_QI n (zp_leastSpot_7_12 t p0 S0)) S n 24 [some (.ref (zz_rf 3 t)), some (zi p0), some (zi x2), some (zi x3), some (zi x4), some (zi x5)] [] 0 0) : zz_E g l zy_leastSpot_7_12 zr_leastSpot_7_12 (zz_QI n (zp_leastSpot_7_12 t p0 S0)) S n 24 [some (.ref (zz_rf 3 t)), some (zi p0), some (zi x2), some (zi x3), some (zi x4), some (zi x5)] [] 0 0 := by
  have b_t := zz_rf3 (z := t) (by omega)
  refine zz_iload (x := x5) rfl zd_7_12_24 ?_
  refine zz_iload_n (x := p0) rfl zd_7_12_26 ?_
  refine zz_icmp_ge (by omega) (by omega) zd_7_12_27 (fun c6 => ?_) (fun c6 => ?_)
  · refine zz_iinc [some (.ref (zz_rf 3 t)), some (zi p0), some (zi x2), some (zi x3), some (zi (x4 + 1)), some (zi x5)] zd_7_12_94 rfl rfl ?_
    refine zz_goto zd_7_12_97 ?_
    refine zz_less (ls1 := [some (.ref (zz_rf 3 t)), some (zi p0), some (zi x2), some (zi x3), some (zi (x4 + 1))]) ⟨rfl, ⟨rfl, ⟨rfl, ⟨rfl, ⟨rfl, trivial⟩⟩⟩⟩⟩ ?_
    exact k15 x2 x3 (x4 + 1) S G_S F_S (by omega) (by omega) (by omega) (fun h => zn_LOi (i24_7 h) (by omega)) i24_8 (by omega)
  · refine zz_aload_n (x := zz_rf 3 t) rfl zd_7_12_30 ?_
    refine zz_getr (kd := 0) (z := ((zz_rf 3 t + 1 : Nat) : Int)) zd_7_12_31 zf_Network_11 (zT_k3 (by omega)) rfl (zN_k3 hn (by omega)) (zE_k3a G_S (by omega)) (Int.natCast_nonneg _) (zz_rf 3 t + 1) (Int.toNat_natCast _) ?_
    refine zz_iload (x := x5) rfl zd_7_12_34 ?_
    refine zz_aald (kd := 4) (z := 12 * t + x5) zd_7_12_36 (zT_k3a (by omega)) rfl (zN_k3a hn (by omega)) (by decide) (by omega) (zE_lay G_S (by omega) (by omega)) (by omega) (zz_rf 6 (12 * t + x5)) rfl ?_
    have g7 := zz_G.r G_S0 (zz_rf 6 (12 * t + x5)) 14 (-2147483648) 2147483647 (zR_k6_14 (by omega)) (zB_k6 (by omega))
    refine zz_geti (z := S0 (zz_rf 6 (12 * t + x5)) 14) zd_7_12_37 zf_Network_76 (zT_k6 (by omega)) rfl (zN_k6 hn (by omega)) (zz_rc F_S (zP_k6 (by omega) rfl) (zQ_k6 (by omega) rfl) (fun h => h) rfl) ?_
    refine zz_aload_n (x := zz_rf 3 t) rfl zd_7_12_40 ?_
    refine zz_getr (kd := 0) (z := ((zz_rf 3 t + 1 : Nat) : Int)) zd_7_12_41 zf_Network_11 (zT_k3 (by omega)) rfl (zN_k3 hn (by omega)) (zE_k3a G_S (by omega)) (Int.natCast_nonneg _) (zz_rf 3 t + 1) (Int.toNat_natCast _) ?_
    refine zz_iload (x := x5) rfl zd_7_12_44 ?_
    refine zz_aald (kd := 4) (z := 12 * t + x5) zd_7_12_46 (zT_k3a (by omega)) rfl (zN_k3a hn (by omega)) (by decide) (by omega) (zE_lay G_S (by omega) (by omega)) (by omega) (zz_rf 6 (12 * t + x5)) rfl ?_
    have e8 : S (zz_rf 6 (12 * t + x5)) 10 = S0 (zz_rf 6 (12 * t + x5)) 10 := (zz_rc F_S (zP_k6 (by omega) rfl) (zQ_k6 (by omega) rfl) (fun h => h) rfl)
    have e9 : S (zz_rf 6 (12 * t + x5)) 11 = S0 (zz_rf 6 (12 * t + x5)) 11 := (zz_rc F_S (zP_k6 (by omega) rfl) (zQ_k6 (by omega) rfl) (fun h => h) rfl)
    have e10 : S (zz_rf 6 (12 * t + x5)) 12 = S0 (zz_rf 6 (12 * t + x5)) 12 := (zz_rc F_S (zP_k6 (by omega) rfl) (zQ_k6 (by omega) rfl) (fun h => h) rfl)
    refine zz_callVI [] zd_7_12_47 zk_Network_60 (zT_k6 (by omega)) (zN_k6 hn (by omega)) rfl rfl ⟨Nat.le_of_ble_eq_true rfl, Nat.le_of_ble_eq_true rfl⟩ ⟨rfl, rfl⟩ (Nat.zero_le _) (Nat.zero_le _) (zc_size_4_7 (12 * t + x5) S n hn G_S (by omega)) (fun v12 S11 hP => ?_)
    obtain ⟨rfl, o13, o14⟩ := hP
    rw [← zz_fr.eq F_S] at o14
    refine zz_iadd zd_7_12_50 ?_
    refine zz_nrm (fun v15 hv15 ev15 => ?_)
    refine zz_istore [some (.ref (zz_rf 3 t)), some (zi p0), some (zi x2), some (zi x3), some (zi x4), some (zi x5), some (zi v15)] zd_7_12_51 (by decide) rfl ?_
    refine zz_iload_n (x := x2) rfl zd_7_12_53 ?_
    refine zz_iload (x := v15) rfl zd_7_12_54 ?_
    refine zz_icmp_ge (by omega) (by omega) zd_7_12_56 (fun c16 => ?_) (fun c16 => ?_)
    · refine zz_iinc [some (.ref (zz_rf 3 t)), some (zi p0), some (zi x2), some (zi x3), some (zi x4), some (zi (x5 + 1)), some (zi v15)] zd_7_12_88 rfl rfl ?_
      refine zz_goto zd_7_12_91 ?_
      refine zz_less (ls1 := [some (.ref (zz_rf 3 t)), some (zi p0), some (zi x2), some (zi x3), some (zi x4), some (zi (x5 + 1))]) ⟨rfl, ⟨rfl, ⟨rfl, ⟨rfl, ⟨rfl, ⟨rfl, trivial⟩⟩⟩⟩⟩⟩ ?_
      exact k24 x2 x3 x4 (x5 + 1) S G_S F_S (by omega) (by omega) (by omega) (by omega) (by omega) (by omega) (by omega) (fun h => zn_LIn (i24_7 h) (by omega) (by omega) (by omega) i24_8 o14 ev15 (Or.inl (by omega))) i24_8 (by omega)
    · refine zz_aload_n (x := zz_rf 3 t) rfl zd_7_12_59 ?_
      refine zz_getr (kd := 0) (z := ((zz_rf 3 t + 1 : Nat) : Int)) zd_7_12_60 zf_Network_11 (zT_k3 (by omega)) rfl (zN_k3 hn (by omega)) (zE_k3a G_S (by omega)) (Int.natCast_nonneg _) (zz_rf 3 t + 1) (Int.toNat_natCast _) ?_
      refine zz_iload (x := x5) rfl zd_7_12_63 ?_
      refine zz_aald (kd := 4) (z := 12 * t + x5) zd_7_12_65 (zT_k3a (by omega)) rfl (zN_k3a hn (by omega)) (by decide) (by omega) (zE_lay G_S (by omega) (by omega)) (by omega) (zz_rf 6 (12 * t + x5)) rfl ?_
      refine zz_geti (z := S0 (zz_rf 6 (12 * t + x5)) 14) zd_7_12_66 zf_Network_76 (zT_k6 (by omega)) rfl (zN_k6 hn (by omega)) (zz_rc F_S (zP_k6 (by omega) rfl) (zQ_k6 (by omega) rfl) (fun h => h) rfl) ?_
      refine zz_iload_n (x := x2) rfl zd_7_12_69 ?_
      refine zz_iload_n (x := x3) rfl zd_7_12_70 ?_
      refine zz_iadd zd_7_12_71 ?_
      refine zz_nrm (fun v17 hv17 ev17 => ?_)
      refine zz_icmp_ge (by omega) (by omega) zd_7_12_72 (fun c18 => ?_) (fun c18 => ?_)
      · refine zz_iinc [some (.ref (zz_rf 3 t)), some (zi p0), some (zi x2), some (zi x3), some (zi x4), some (zi (x5 + 1)), some (zi v15)] zd_7_12_88 rfl rfl ?_
        refine zz_goto zd_7_12_91 ?_
        refine zz_less (ls1 := [some (.ref (zz_rf 3 t)), some (zi p0), some (zi x2), some (zi x3), some (zi x4), some (zi (x5 + 1))]) ⟨rfl, ⟨rfl, ⟨rfl, ⟨rfl, ⟨rfl, ⟨rfl, trivial⟩⟩⟩⟩⟩⟩ ?_
        exact k24 x2 x3 x4 (x5 + 1) S G_S F_S (by omega) (by omega) (by omega) (by omega) (by omega) (by omega) (by omega) (fun h => zn_LIn (i24_7 h) (by omega) (by omega) (by omega) i24_8 o14 ev15 (Or.inr (Or.inl ⟨_, ev17, by omega⟩))) i24_8 (by omega)
      · refine zz_aload_n (x := zz_rf 3 t) rfl zd_7_12_75 ?_
        refine zz_iload (x := x5) rfl zd_7_12_76 ?_
        refine zz_iload_n (x := p0) rfl zd_7_12_78 ?_
        refine zz_callVI [zi x5, zi p0] zd_7_12_79 zk_Network_83 (zT_k3 (by omega)) (zN_k3 hn (by omega)) rfl rfl ⟨Nat.le_of_ble_eq_true rfl, Nat.le_of_ble_eq_true rfl⟩ ⟨rfl, rfl⟩ (Nat.zero_le _) (Nat.zero_le _) (zc_isNeeded_7_13 t x5 p0 S n hn G_S (by omega) (by omega) (by omega)) (fun v20 S19 hP => ?_)
        obtain ⟨rfl, o21, o22⟩ := hP
        rcases (by omega : v20 = 0 ∨ v20 = 1) with rfl | rfl
        · rw [← zz_fr.eq F_S] at o22
          refine zz_if_eq (by omega) zd_7_12_82 (fun c23 => ?_) (fun c23 => ?_)
          · refine zz_iinc [some (.ref (zz_rf 3 t)), some (zi p0), some (zi x2), some (zi x3), some (zi x4), some (zi (x5 + 1)), some (zi v15)] zd_7_12_88 rfl rfl ?_
            refine zz_goto zd_7_12_91 ?_
            refine zz_less (ls1 := [some (.ref (zz_rf 3 t)), some (zi p0), some (zi x2), some (zi x3), some (zi x4), some (zi (x5 + 1))]) ⟨rfl, ⟨rfl, ⟨rfl, ⟨rfl, ⟨rfl, ⟨rfl, trivial⟩⟩⟩⟩⟩⟩ ?_
            exact k24 x2 x3 x4 (x5 + 1) S G_S F_S (by omega) (by omega) (by omega) (by omega) (by omega) (by omega) (by omega) (fun h => zn_LIn (i24_7 h) (by omega) (by omega) (by omega) i24_8 o14 ev15 (Or.inr (Or.inr o22))) i24_8 (by omega)
          · exfalso; omega
        · rw [← zz_fr.eq F_S] at o22
          refine zz_if_eq (by omega) zd_7_12_82 (fun c24 => ?_) (fun c24 => ?_)
          · exfalso; omega
          · refine zz_iload (x := v15) rfl zd_7_12_85 ?_
            refine zz_istore_n [some (.ref (zz_rf 3 t)), some (zi p0), some (zi v15), some (zi x3), some (zi x4), some (zi x5), some (zi v15)] zd_7_12_87 (by decide) rfl ?_
            refine zz_iinc [some (.ref (zz_rf 3 t)), some (zi p0), some (zi v15), some (zi x3), some (zi x4), some (zi (x5 + 1)), some (zi v15)] zd_7_12_88 rfl rfl ?_
            refine zz_goto zd_7_12_91 ?_
            refine zz_less (ls1 := [some (.ref (zz_rf 3 t)), some (zi p0), some (zi v15), some (zi x3), some (zi x4), some (zi (x5 + 1))]) ⟨rfl, ⟨rfl, ⟨rfl, ⟨rfl, ⟨rfl, ⟨rfl, trivial⟩⟩⟩⟩⟩⟩ ?_
            exact k24 v15 x3 x4 (x5 + 1) S G_S F_S (by omega) (by omega) (by omega) (by omega) (by omega) (by omega) (by omega) (fun h => zn_LIc (i24_7 h) (by omega) (by omega) (by omega) i24_8 o14 ev15 (by omega) ev17 (by omega) o22) i24_8 (by omega)
theorem zi_leastSpot_7_12 {g : mm_G} {l : Launch} (t : Int) (p0 : Int) (S0 : zz_S) (n : Nat) (hn : zz_end ≤ n) (G_S0 : zz_G S0) (ht : 0 ≤ t ∧ t ≤ 1) (hp0 : 0 ≤ p0 ∧ p0 ≤ 11) : ∀ N : Nat, (∀ (x2 : Int) (x3 : Int) (x4 : Int) (S : zz_S), zz_G S → zz_fr [] [] (fun _ _ => False) S0 S → (0 ≤ x2 ∧ x2 ≤ 2147483647) → ((-2147483648) ≤ x3 ∧ x3 ≤ 2147483647) → (0 ≤ x4 ∧ x4 ≤ 13) → (p0 < S0 (zz_rf 3 t) 1 → zn_LO S0 t p0 x2 x4) → (zn_pz S0 (12 * t + p0) x3) → (34359738368 + (p0 - x4).toNat) * 1099511627776 + 1099511627775 < N → zz_E g l zy_leastSpot_7_12 zr_leastSpot_7_12 (zz_QI n (zp_leastSpot_7_12 t p0 S0)) S n 15 [some (.ref (zz_rf 3 t)), some (zi p0), some (zi x2), some (zi x3), some (zi x4)] [] 0 0) ∧ (∀ (x2 : Int) (x3 : Int) (x4 : Int) (x5 : Int) (S : zz_S), zz_G S → zz_fr [] [] (fun _ _ => False) S0 S → (0 ≤ x2 ∧ x2 ≤ 2147483647) → ((-2147483648) ≤ x3 ∧ x3 ≤ 2147483647) → (0 ≤ x4 ∧ x4 ≤ 12) → (0 ≤ x5 ∧ x5 ≤ 11) → (0 ≤ x4 ∧ x4 ≤ 13) → (x4 < p0) → (1 ≤ p0 ∧ p0 ≤ 11) → (p0 < S0 (zz_rf 3 t) 1 → zn_LI S0 t p0 x2 x4 x5) → (zn_pz S0 (12 * t + p0) x3) → (34359738368 + (p0 - x4).toNat) * 1099511627776 + (17179869184 + (p0 - x5).toNat) < N → zz_E g l zy_leastSpot_7_12 zr_leastSpot_7_12 (zz_QI n (zp_leastSpot_7_12 t p0 S0)) S n 24 [some (.ref (zz_rf 3 t)), some (zi p0), some (zi x2), some (zi x3), some (zi x4), some (zi x5)] [] 0 0) := by
  intro N
  induction N with
  | zero => exact ⟨fun x2 x3 x4 S _ _ _ _ _ _ _ h => absurd h (Nat.not_lt_zero _), fun x2 x3 x4 x5 S _ _ _ _ _ _ _ _ _ _ _ h => absurd h (Nat.not_lt_zero _)⟩
  | succ N ih =>
    exact ⟨fun x2 x3 x4 S a b j0 j1 j2 j3 j4 hR => zb_leastSpot_7_12_15 t p0 S0 n hn G_S0 ht hp0 x2 x3 x4 S a b j0 j1 j2 j3 j4 _ rfl (fun x2 x3 x4 x5 S a b j0 j1 j2 j3 j4 j5 j6 j7 j8 h => ih.2 x2 x3 x4 x5 S a b j0 j1 j2 j3 j4 j5 j6 j7 j8 (Nat.lt_of_lt_of_le h (Nat.le_of_lt_succ hR))),
      fun x2 x3 x4 x5 S a b j0 j1 j2 j3 j4 j5 j6 j7 j8 hR => zb_leastSpot_7_12_24 t p0 S0 n hn G_S0 ht hp0 x2 x3 x4 x5 S a b j0 j1 j2 j3 j4 j5 j6 j7 j8 _ rfl (fun x2 x3 x4 S a b j0 j1 j2 j3 j4 h => ih.1 x2 x3 x4 S a b j0 j1 j2 j3 j4 (Nat.lt_of_lt_of_le h (Nat.le_of_lt_succ hR))) (fun x2 x3 x4 x5 S a b j0 j1 j2 j3 j4 j5 j6 j7 j8 h => ih.2 x2 x3 x4 x5 S a b j0 j1 j2 j3 j4 j5 j6 j7 j8 (Nat.lt_of_lt_of_le h (Nat.le_of_lt_succ hR)))⟩
theorem zc_leastSpot_7_12 {g : mm_G} {l : Launch} (t : Int) (p0 : Int) (S0 : zz_S) (n : Nat) (hn : zz_end ≤ n) (G_S0 : zz_G S0) (ht : 0 ≤ t ∧ t ≤ 1) (hp0 : 0 ≤ p0 ∧ p0 ≤ 11) : mm_Met g l zy_leastSpot_7_12 zr_leastSpot_7_12 [.ref (zz_rf 3 t), zi p0] (zz_M S0 n) n (zz_QI n (zp_leastSpot_7_12 t p0 S0)) := by
  refine zz_enter (by decide) (Nat.le_of_ble_eq_true rfl) (zz_less (ls1 := [some (.ref (zz_rf 3 t)), some (zi p0)]) ⟨rfl, ⟨rfl, trivial⟩⟩ ?_)
  have F_S0 : zz_fr [] [] (fun _ _ => False) S0 S0 := zz_fr.refl
  have k15 : ∀ (x2 : Int) (x3 : Int) (x4 : Int) (S : zz_S), zz_G S → zz_fr [] [] (fun _ _ => False) S0 S → (0 ≤ x2 ∧ x2 ≤ 2147483647) → ((-2147483648) ≤ x3 ∧ x3 ≤ 2147483647) → (0 ≤ x4 ∧ x4 ≤ 13) → (p0 < S0 (zz_rf 3 t) 1 → zn_LO S0 t p0 x2 x4) → (zn_pz S0 (12 * t + p0) x3) → zz_E g l zy_leastSpot_7_12 zr_leastSpot_7_12 (zz_QI n (zp_leastSpot_7_12 t p0 S0)) S n 15 [some (.ref (zz_rf 3 t)), some (zi p0), some (zi x2), some (zi x3), some (zi x4)] [] 0 0 := fun x2 x3 x4 S a b j0 j1 j2 j3 j4 => (zi_leastSpot_7_12 (g := g) (l := l) t p0 S0 n hn G_S0 ht hp0 _).1 x2 x3 x4 S a b j0 j1 j2 j3 j4 (Nat.lt_succ_self _)
  have b_t := zz_rf3 (z := t) (by omega)
  refine zz_iconst zd_7_12_0 ?_
  refine zz_istore_n [some (.ref (zz_rf 3 t)), some (zi p0), some (zi 0)] zd_7_12_1 (by decide) rfl ?_
  refine zz_aload_n (x := zz_rf 3 t) rfl zd_7_12_2 ?_
  refine zz_getr (kd := 0) (z := ((zz_rf 3 t + 1 : Nat) : Int)) zd_7_12_3 zf_Network_11 (zT_k3 (by omega)) rfl (zN_k3 hn (by omega)) (zE_k3a G_S0 (by omega)) (Int.natCast_nonneg _) (zz_rf 3 t + 1) (Int.toNat_natCast _) ?_
  refine zz_iload_n (x := p0) rfl zd_7_12_6 ?_
  refine zz_aald (kd := 4) (z := 12 * t + p0) zd_7_12_7 (zT_k3a (by omega)) rfl (zN_k3a hn (by omega)) (by decide) (by omega) (zE_lay G_S0 (by omega) (by omega)) (by omega) (zz_rf 6 (12 * t + p0)) rfl ?_
  refine zz_callVI [] zd_7_12_8 zk_Network_60 (zT_k6 (by omega)) (zN_k6 hn (by omega)) rfl rfl ⟨Nat.le_of_ble_eq_true rfl, Nat.le_of_ble_eq_true rfl⟩ ⟨rfl, rfl⟩ (Nat.zero_le _) (Nat.zero_le _) (zc_size_4_7 (12 * t + p0) S0 n hn G_S0 (by omega)) (fun v2 S1 hP => ?_)
  obtain ⟨rfl, o3, o4⟩ := hP
  refine zz_istore_n [some (.ref (zz_rf 3 t)), some (zi p0), some (zi 0), some (zi v2)] zd_7_12_11 (by decide) rfl ?_
  refine zz_iconst zd_7_12_12 ?_
  refine zz_istore [some (.ref (zz_rf 3 t)), some (zi p0), some (zi 0), some (zi v2), some (zi 0)] zd_7_12_13 (by decide) rfl ?_
  refine zz_less (ls1 := [some (.ref (zz_rf 3 t)), some (zi p0), some (zi 0), some (zi v2), some (zi 0)]) ⟨rfl, ⟨rfl, ⟨rfl, ⟨rfl, ⟨rfl, trivial⟩⟩⟩⟩⟩ ?_
  exact k15 0 v2 0 S0 G_S0 F_S0 (by omega) (by omega) (by omega) (fun _ => zn_LO0) o4
theorem zk_Network_79 : mm_Vl "TensorForge$Network" 79 1 1 zy_leastSpot_7_12 := ⟨zyw_leastSpot_7_12, (R_Network, F_Network, 2), rfl, mm_tb_1 1516 (by decide +kernel) rfl, mm_tb_1 1518 (by decide +kernel) rfl, mm_tb_s 77 (by decide +kernel) rfl⟩
theorem zg_7_10_31 : zq_at zy_findSpots_7_10.2.1 31 181 ∧ zq_at zy_findSpots_7_10.2.1 32 0 ∧ zq_at zy_findSpots_7_10.2.1 33 76 ∧ zq_at zy_findSpots_7_10.2.1 34 42 ∧ zq_at zy_findSpots_7_10.2.1 35 180 ∧ zq_at zy_findSpots_7_10.2.1 36 0 ∧ zq_at zy_findSpots_7_10.2.1 37 11 ∧ zq_at zy_findSpots_7_10.2.1 38 27 ∧ zq_at zy_findSpots_7_10.2.1 39 50 ∧ zq_at zy_findSpots_7_10.2.1 40 180 ∧ zq_at zy_findSpots_7_10.2.1 41 0 ∧ zq_at zy_findSpots_7_10.2.1 42 76 ∧ zq_at zy_findSpots_7_10.2.1 43 42 ∧ zq_at zy_findSpots_7_10.2.1 44 180 ∧ zq_at zy_findSpots_7_10.2.1 45 0 ∧ zq_at zy_findSpots_7_10.2.1 46 11 ∧ zq_at zy_findSpots_7_10.2.1 47 27 ∧ zq_at zy_findSpots_7_10.2.1 48 50 ∧ zq_at zy_findSpots_7_10.2.1 49 182 ∧ zq_at zy_findSpots_7_10.2.1 50 0 ∧ zq_at zy_findSpots_7_10.2.1 51 60 ∧ zq_at zy_findSpots_7_10.2.1 52 96 := by decide +kernel
theorem zd_7_10_31 : zz_D zy_findSpots_7_10 31 (.putfield 76) 3 34 := ⟨zq_181 zg_7_10_31.1 zg_7_10_31.2.1 zg_7_10_31.2.2.1 rfl, rfl⟩
theorem zd_7_10_34 : zz_D zy_findSpots_7_10 34 (.aload_n 0) 1 35 := ⟨zq_42 zg_7_10_31.2.2.2.1, rfl⟩
theorem zd_7_10_35 : zz_D zy_findSpots_7_10 35 (.getfield 11) 3 38 := ⟨zq_180 zg_7_10_31.2.2.2.2.1 zg_7_10_31.2.2.2.2.2.1 zg_7_10_31.2.2.2.2.2.2.1 rfl, rfl⟩
theorem zd_7_10_38 : zz_D zy_findSpots_7_10 38 (.iload_n 1) 1 39 := ⟨zq_27 zg_7_10_31.2.2.2.2.2.2.2.1, rfl⟩
theorem zd_7_10_39 : zz_D zy_findSpots_7_10 39 (.aaload) 1 40 := ⟨zq_50 zg_7_10_31.2.2.2.2.2.2.2.2.1, rfl⟩
theorem zd_7_10_40 : zz_D zy_findSpots_7_10 40 (.getfield 76) 3 43 := ⟨zq_180 zg_7_10_31.2.2.2.2.2.2.2.2.2.1 zg_7_10_31.2.2.2.2.2.2.2.2.2.2.1 zg_7_10_31.2.2.2.2.2.2.2.2.2.2.2.1 rfl, rfl⟩
theorem zd_7_10_43 : zz_D zy_findSpots_7_10 43 (.aload_n 0) 1 44 := ⟨zq_42 zg_7_10_31.2.2.2.2.2.2.2.2.2.2.2.2.1, rfl⟩
theorem zd_7_10_44 : zz_D zy_findSpots_7_10 44 (.getfield 11) 3 47 := ⟨zq_180 zg_7_10_31.2.2.2.2.2.2.2.2.2.2.2.2.2.1 zg_7_10_31.2.2.2.2.2.2.2.2.2.2.2.2.2.2.1 zg_7_10_31.2.2.2.2.2.2.2.2.2.2.2.2.2.2.2.1 rfl, rfl⟩
theorem zd_7_10_47 : zz_D zy_findSpots_7_10 47 (.iload_n 1) 1 48 := ⟨zq_27 zg_7_10_31.2.2.2.2.2.2.2.2.2.2.2.2.2.2.2.2.1, rfl⟩
theorem zd_7_10_48 : zz_D zy_findSpots_7_10 48 (.aaload) 1 49 := ⟨zq_50 zg_7_10_31.2.2.2.2.2.2.2.2.2.2.2.2.2.2.2.2.2.1, rfl⟩
theorem zd_7_10_49 : zz_D zy_findSpots_7_10 49 (.invokevirtual 60) 3 52 := ⟨zq_182 zg_7_10_31.2.2.2.2.2.2.2.2.2.2.2.2.2.2.2.2.2.2.1 zg_7_10_31.2.2.2.2.2.2.2.2.2.2.2.2.2.2.2.2.2.2.2.1 zg_7_10_31.2.2.2.2.2.2.2.2.2.2.2.2.2.2.2.2.2.2.2.2.1 rfl, rfl⟩
theorem zd_7_10_52 : zz_D zy_findSpots_7_10 52 (.iadd) 1 53 := ⟨zq_96 zg_7_10_31.2.2.2.2.2.2.2.2.2.2.2.2.2.2.2.2.2.2.2.2.2, rfl⟩
theorem zg_7_10_53 : zq_at zy_findSpots_7_10.2.1 53 17 ∧ zq_at zy_findSpots_7_10.2.1 54 8 ∧ zq_at zy_findSpots_7_10.2.1 55 0 ∧ zq_at zy_findSpots_7_10.2.1 56 164 ∧ zq_at zy_findSpots_7_10.2.1 57 0 ∧ zq_at zy_findSpots_7_10.2.1 58 5 ∧ zq_at zy_findSpots_7_10.2.1 61 132 ∧ zq_at zy_findSpots_7_10.2.1 62 1 ∧ zq_at zy_findSpots_7_10.2.1 63 1 ∧ zq_at zy_findSpots_7_10.2.1 64 167 ∧ zq_at zy_findSpots_7_10.2.1 65 255 ∧ zq_at zy_findSpots_7_10.2.1 66 204 ∧ zq_at zy_findSpots_7_10.2.1 59 3 ∧ zq_at zy_findSpots_7_10.2.1 60 172 := by decide +kernel
theorem zd_7_10_53 : zz_D zy_findSpots_7_10 53 (.sipush 2048) 3 56 := ⟨zq_17 zg_7_10_53.1 zg_7_10_53.2.1 zg_7_10_53.2.2.1 (by decide), rfl⟩
theorem zd_7_10_56 : zz_B zy_findSpots_7_10 56 (Instr.if_icmp .le) 61 59 := ⟨5, zq_164 zg_7_10_53.2.2.2.1 zg_7_10_53.2.2.2.2.1 zg_7_10_53.2.2.2.2.2.1 (by decide), rfl, rfl⟩
theorem zd_7_10_61 : zz_D zy_findSpots_7_10 61 (.iinc 1 1) 3 64 := ⟨zq_132 zg_7_10_53.2.2.2.2.2.2.1 zg_7_10_53.2.2.2.2.2.2.2.1 zg_7_10_53.2.2.2.2.2.2.2.2.1 (by decide), rfl⟩
theorem zd_7_10_64 : zz_B zy_findSpots_7_10 64 Instr.goto 12 67 := ⟨(-52), zq_167 zg_7_10_53.2.2.2.2.2.2.2.2.2.1 zg_7_10_53.2.2.2.2.2.2.2.2.2.2.1 zg_7_10_53.2.2.2.2.2.2.2.2.2.2.2.1 (by decide), rfl, rfl⟩
theorem zd_7_10_59 : zz_D zy_findSpots_7_10 59 (.iconst 0) 1 60 := ⟨zq_3 zg_7_10_53.2.2.2.2.2.2.2.2.2.2.2.2.1, rfl⟩
theorem zd_7_10_60 : zz_D zy_findSpots_7_10 60 (.ireturn) 1 61 := ⟨zq_172 zg_7_10_53.2.2.2.2.2.2.2.2.2.2.2.2.2, rfl⟩
-- TensorForge$Network findSpots ()Z
abbrev zr_findSpots_7_10 : Room := { frames := 3, cells := 0, slots := 0, locals := 48 }
def zp_findSpots_7_10 (t : Int) (S0 : zz_S) : Int → zz_S → Prop := fun r S => zz_G S ∧ zz_fr [(1003, 14), (1004, 14), (1005, 14), (1006, 14), (1007, 14), (1008, 14), (1009, 14), (1010, 14), (1011, 14), (1012, 14), (1013, 14), (1014, 14), (1017, 14), (1018, 14), (1019, 14), (1020, 14), (1021, 14), (1022, 14), (1023, 14), (1024, 14), (1025, 14), (1026, 14), (1027, 14), (1028, 14)] [] (fun a i => (a = zz_rf 6 (12 * t + 0) ∧ i = 14)) S0 S ∧ (0 ≤ r ∧ r ≤ 1) ∧ (zn_FP S0 S t r)
theorem zb_findSpots_7_10_12 {g : mm_G} {l : Launch} (t : Int) (S0 : zz_S) (n : Nat) (hn : zz_end ≤ n) (G_S0 : zz_G S0) (ht : 0 ≤ t ∧ t ≤ 1) (x1 : Int) (S : zz_S) (G_S : zz_G S) (F_S : zz_fr [(1003, 14), (1004, 14), (1005, 14), (1006, 14), (1007, 14), (1008, 14), (1009, 14), (1010, 14), (1011, 14), (1012, 14), (1013, 14), (1014, 14), (1017, 14), (1018, 14), (1019, 14), (1020, 14), (1021, 14), (1022, 14), (1023, 14), (1024, 14), (1025, 14), (1026, 14), (1027, 14), (1028, 14)] [] (fun a i => (a = zz_rf 6 (12 * t + 0) ∧ i = 14)) S0 S) (i12_0 : 1 ≤ x1 ∧ x1 ≤ 11) (i12_1 : zn_FS S0 S t x1) (R : Nat) (hR : (S0 (zz_rf 3 t) 1 - x1).toNat = R) (k12 : ∀ (x1 : Int) (S : zz_S), zz_G S → zz_fr [(1003, 14), (1004, 14), (1005, 14), (1006, 14), (1007, 14), (1008, 14), (1009, 14), (1010, 14), (1011, 14), (1012, 14), (1013, 14), (1014, 14), (1017, 14), (1018, 14), (1019, 14), (1020, 14), (1021, 14), (1022, 14), (1023, 14), (1024, 14), (1025, 14), (1026, 14), (1027, 14), (1028, 14)] [] (fun a i => (a = zz_rf 6 (12 * t + 0) ∧ i = 14)) S0 S → (1 ≤ x1 ∧ x1 ≤ 11) → (zn_FS S0 S t x1) → (S0 (zz_rf 3 t) 1 - x1).toNat < R → zz_E g l zy_findSpots_7_10 zr_findSpots_7_10 (zz_QI n (zp_findSpots_7_10 t S0)) S n 12 [some (.ref (zz_rf 3 t)), some (zi x1)] [] 0 0) : zz_E g l zy_findSpots_7_10 zr_findSpots_7_10 (zz_QI n (zp_findSpots_7_10 t S0)) S n 12 [some (.ref (zz_rf 3 t)), some (zi x1)] [] 0 0 := by
  have b_t := zz_rf3 (z := t) (by omega)
  refine zz_iload_n (x := x1) rfl zd_7_10_12 ?_
  refine zz_aload_n (x := zz_rf 3 t) rfl zd_7_10_13 ?_
  have g2 := zz_G.r G_S0 (zz_rf 3 t) 1 1 11 (zR_k3_1 (by omega)) (zB_k3 (by omega))
  refine zz_geti (z := S0 (zz_rf 3 t) 1) zd_7_10_14 zf_Network_16 (zT_k3 (by omega)) rfl (zN_k3 hn (by omega)) (zz_rc F_S (zP_k3 (by omega) rfl) (zQ_k3 (by omega) rfl) (by have hz_ := zz_rf3 (z := t) (by omega); omega) rfl) ?_
  refine zz_icmp_ge (by omega) (by omega) zd_7_10_17 (fun c3 => ?_) (fun c3 => ?_)
  · refine zz_iconst zd_7_10_67 ?_
    exact zz_zret zd_7_10_68 rfl (by omega) (Nat.zero_le _) (Nat.zero_le _) ⟨_, _, rfl, G_S, F_S, by omega, (zn_FPe i12_1 (fun v h => zn_C.sl h F_S rfl (fun a i h => h.2)) (by omega))⟩
  · refine zz_aload_n (x := zz_rf 3 t) rfl zd_7_10_20 ?_
    refine zz_getr (kd := 0) (z := ((zz_rf 3 t + 1 : Nat) : Int)) zd_7_10_21 zf_Network_11 (zT_k3 (by omega)) rfl (zN_k3 hn (by omega)) (zE_k3a G_S (by omega)) (Int.natCast_nonneg _) (zz_rf 3 t + 1) (Int.toNat_natCast _) ?_
    refine zz_iload_n (x := x1) rfl zd_7_10_24 ?_
    refine zz_aald (kd := 4) (z := 12 * t + x1) zd_7_10_25 (zT_k3a (by omega)) rfl (zN_k3a hn (by omega)) (by decide) (by omega) (zE_lay G_S (by omega) (by omega)) (by omega) (zz_rf 6 (12 * t + x1)) rfl ?_
    refine zz_aload_n (x := zz_rf 3 t) rfl zd_7_10_26 ?_
    refine zz_iload_n (x := x1) rfl zd_7_10_27 ?_
    have e4 : S (zz_rf 3 t) 1 = S0 (zz_rf 3 t) 1 := (zz_rc F_S (zP_k3 (by omega) rfl) (zQ_k3 (by omega) rfl) (by have hz_ := zz_rf3 (z := t) (by omega); omega) rfl)
    refine zz_callVI [zi x1] zd_7_10_28 zk_Network_79 (zT_k3 (by omega)) (zN_k3 hn (by omega)) rfl rfl ⟨Nat.le_of_ble_eq_true rfl, Nat.le_of_ble_eq_true rfl⟩ ⟨rfl, rfl⟩ (Nat.zero_le _) (Nat.zero_le _) (zc_leastSpot_7_12 t x1 S n hn G_S (by omega) (by omega)) (fun v6 S5 hP => ?_)
    obtain ⟨rfl, o7, o8⟩ := hP
    refine zz_puti zd_7_10_31 zf_Network_76 (zT_k6 (by omega)) rfl (zN_k6 hn (by omega)) (fun S9 qS9 => ?_)
    have G_S9 := zz_G.put G_S qS9 (-2147483648) 2147483647 (zR_k6_14 (by omega)) (by omega)
    have F_S9 := zz_fr.puts F_S qS9 (zMs_k6 (by omega) rfl)
    refine zz_aload_n (x := zz_rf 3 t) rfl zd_7_10_34 ?_
    refine zz_getr (kd := 0) (z := ((zz_rf 3 t + 1 : Nat) : Int)) zd_7_10_35 zf_Network_11 (zT_k3 (by omega)) rfl (zN_k3 hn (by omega)) (zE_k3a G_S9 (by omega)) (Int.natCast_nonneg _) (zz_rf 3 t + 1) (Int.toNat_natCast _) ?_
    refine zz_iload_n (x := x1) rfl zd_7_10_38 ?_
    refine zz_aald (kd := 4) (z := 12 * t + x1) zd_7_10_39 (zT_k3a (by omega)) rfl (zN_k3a hn (by omega)) (by decide) (by omega) (zE_lay G_S9 (by omega) (by omega)) (by omega) (zz_rf 6 (12 * t + x1)) rfl ?_
    refine zz_geti (z := v6) zd_7_10_40 zf_Network_76 (zT_k6 (by omega)) rfl (zN_k6 hn (by omega)) (zz_rs qS9) ?_
    refine zz_aload_n (x := zz_rf 3 t) rfl zd_7_10_43 ?_
    refine zz_getr (kd := 0) (z := ((zz_rf 3 t + 1 : Nat) : Int)) zd_7_10_44 zf_Network_11 (zT_k3 (by omega)) rfl (zN_k3 hn (by omega)) (zE_k3a G_S9 (by omega)) (Int.natCast_nonneg _) (zz_rf 3 t + 1) (Int.toNat_natCast _) ?_
    refine zz_iload_n (x := x1) rfl zd_7_10_47 ?_
    refine zz_aald (kd := 4) (z := 12 * t + x1) zd_7_10_48 (zT_k3a (by omega)) rfl (zN_k3a hn (by omega)) (by decide) (by omega) (zE_lay G_S9 (by omega) (by omega)) (by omega) (zz_rf 6 (12 * t + x1)) rfl ?_
    have e10 : S9 (zz_rf 6 (12 * t + x1)) 10 = S (zz_rf 6 (12 * t + x1)) 10 := (zz_ro qS9 (fun h => absurd h.2 (by decide)) rfl)
    have e11 : S9 (zz_rf 6 (12 * t + x1)) 11 = S (zz_rf 6 (12 * t + x1)) 11 := (zz_ro qS9 (fun h => absurd h.2 (by decide)) rfl)
    have e12 : S9 (zz_rf 6 (12 * t + x1)) 12 = S (zz_rf 6 (12 * t + x1)) 12 := (zz_ro qS9 (fun h => absurd h.2 (by decide)) rfl)
    refine zz_callVI [] zd_7_10_49 zk_Network_60 (zT_k6 (by omega)) (zN_k6 hn (by omega)) rfl rfl ⟨Nat.le_of_ble_eq_true rfl, Nat.le_of_ble_eq_true rfl⟩ ⟨rfl, rfl⟩ (Nat.zero_le _) (Nat.zero_le _) (zc_size_4_7 (12 * t + x1) S9 n hn G_S9 (by omega)) (fun v14 S13 hP => ?_)
    obtain ⟨rfl, o15, o16⟩ := hP
    refine zz_iadd zd_7_10_52 ?_
    refine zz_nrm (fun v17 hv17 ev17 => ?_)
    refine zz_sipush (by decide) zd_7_10_53 ?_
    refine zz_icmp_le (by omega) (by omega) zd_7_10_56 (fun c18 => ?_) (fun c18 => ?_)
    · refine zz_iinc [some (.ref (zz_rf 3 t)), some (zi (x1 + 1))] zd_7_10_61 rfl rfl ?_
      refine zz_goto zd_7_10_64 ?_
      refine zz_less (ls1 := [some (.ref (zz_rf 3 t)), some (zi (x1 + 1))]) ⟨rfl, ⟨rfl, trivial⟩⟩ ?_
      exact k12 (x1 + 1) S9 G_S9 F_S9 (by omega) (zn_FSn (zn_FSs i12_1 (by omega) (by omega) (fun v h => zn_C.sl h F_S rfl (fun a i h => h.2)) (o8 (by have q9 : S (zz_rf 3 t) 1 = S0 (zz_rf 3 t) 1 := F_S _ _ (zn_nsl (c := 14) rfl (by decide)) rfl (fun h => absurd h.2 (by decide)); omega)) qS9) (fun v h => zn_C.sl h F_S9 rfl (fun a i h => h.2)) (by omega) o16 ev17 (by omega)) (by omega)
    · refine zz_iconst zd_7_10_59 ?_
      exact zz_zret zd_7_10_60 rfl (by omega) (Nat.zero_le _) (Nat.zero_le _) ⟨_, _, rfl, G_S9, F_S9, by omega, (zn_FPn (zn_FSs i12_1 (by omega) (by omega) (fun v h => zn_C.sl h F_S rfl (fun a i h => h.2)) (o8 (by have q9 : S (zz_rf 3 t) 1 = S0 (zz_rf 3 t) 1 := F_S _ _ (zn_nsl (c := 14) rfl (by decide)) rfl (fun h => absurd h.2 (by decide)); omega)) qS9) (fun v h => zn_C.sl h F_S9 rfl (fun a i h => h.2)) (by omega) o16 ev17 (by omega))⟩
theorem zi_findSpots_7_10 {g : mm_G} {l : Launch} (t : Int) (S0 : zz_S) (n : Nat) (hn : zz_end ≤ n) (G_S0 : zz_G S0) (ht : 0 ≤ t ∧ t ≤ 1) : ∀ N : Nat, (∀ (x1 : Int) (S : zz_S), zz_G S → zz_fr [(1003, 14), (1004, 14), (1005, 14), (1006, 14), (1007, 14), (1008, 14), (1009, 14), (1010, 14), (1011, 14), (1012, 14), (1013, 14), (1014, 14), (1017, 14), (1018, 14), (1019, 14), (1020, 14), (1021, 14), (1022, 14), (1023, 14), (1024, 14), (1025, 14), (1026, 14), (1027, 14), (1028, 14)] [] (fun a i => (a = zz_rf 6 (12 * t + 0) ∧ i = 14)) S0 S → (1 ≤ x1 ∧ x1 ≤ 11) → (zn_FS S0 S t x1) → (S0 (zz_rf 3 t) 1 - x1).toNat < N → zz_E g l zy_findSpots_7_10 zr_findSpots_7_10 (zz_QI n (zp_findSpots_7_10 t S0)) S n 12 [some (.ref (zz_rf 3 t)), some (zi x1)] [] 0 0) := by
  intro N
  induction N with
  | zero => exact fun x1 S _ _ _ _ h => absurd h (Nat.not_lt_zero _)
  | succ N ih =>
    exact fun x1 S a b j0 j1 hR => zb_findSpots_7_10_12 t S0 n hn G_S0 ht x1 S a b j0 j1 _ rfl (fun x1 S a b j0 j1 h => ih x1 S a b j0 j1 (Nat.lt_of_lt_of_le h (Nat.le_of_lt_succ hR)))
theorem zc_findSpots_7_10 {g : mm_G} {l : Launch} (t : Int) (S0 : zz_S) (n : Nat) (hn : zz_end ≤ n) (G_S0 : zz_G S0) (ht : 0 ≤ t ∧ t ≤ 1) : mm_Met g l zy_findSpots_7_10 zr_findSpots_7_10 [.ref (zz_rf 3 t)] (zz_M S0 n) n (zz_QI n (zp_findSpots_7_10 t S0)) := by
  refine zz_enter (by decide) (Nat.le_of_ble_eq_true rfl) (zz_less (ls1 := [some (.ref (zz_rf 3 t))]) ⟨rfl, trivial⟩ ?_)
  have F_S0 : zz_fr [(1003, 14), (1004, 14), (1005, 14), (1006, 14), (1007, 14), (1008, 14), (1009, 14), (1010, 14), (1011, 14), (1012, 14), (1013, 14), (1014, 14), (1017, 14), (1018, 14), (1019, 14), (1020, 14), (1021, 14), (1022, 14), (1023, 14), (1024, 14), (1025, 14), (1026, 14), (1027, 14), (1028, 14)] [] (fun a i => (a = zz_rf 6 (12 * t + 0) ∧ i = 14)) S0 S0 := zz_fr.refl
  have k12 : ∀ (x1 : Int) (S : zz_S), zz_G S → zz_fr [(1003, 14), (1004, 14), (1005, 14), (1006, 14), (1007, 14), (1008, 14), (1009, 14), (1010, 14), (1011, 14), (1012, 14), (1013, 14), (1014, 14), (1017, 14), (1018, 14), (1019, 14), (1020, 14), (1021, 14), (1022, 14), (1023, 14), (1024, 14), (1025, 14), (1026, 14), (1027, 14), (1028, 14)] [] (fun a i => (a = zz_rf 6 (12 * t + 0) ∧ i = 14)) S0 S → (1 ≤ x1 ∧ x1 ≤ 11) → (zn_FS S0 S t x1) → zz_E g l zy_findSpots_7_10 zr_findSpots_7_10 (zz_QI n (zp_findSpots_7_10 t S0)) S n 12 [some (.ref (zz_rf 3 t)), some (zi x1)] [] 0 0 := fun x1 S a b j0 j1 => (zi_findSpots_7_10 (g := g) (l := l) t S0 n hn G_S0 ht _) x1 S a b j0 j1 (Nat.lt_succ_self _)
  have b_t := zz_rf3 (z := t) (by omega)
  refine zz_aload_n (x := zz_rf 3 t) rfl zd_7_10_0 ?_
  refine zz_getr (kd := 0) (z := ((zz_rf 3 t + 1 : Nat) : Int)) zd_7_10_1 zf_Network_11 (zT_k3 (by omega)) rfl (zN_k3 hn (by omega)) (zE_k3a G_S0 (by omega)) (Int.natCast_nonneg _) (zz_rf 3 t + 1) (Int.toNat_natCast _) ?_
  refine zz_iconst zd_7_10_4 ?_
  refine zz_aald (kd := 4) (z := 12 * t + 0) zd_7_10_5 (zT_k3a (by omega)) rfl (zN_k3a hn (by omega)) (by decide) (by omega) (zE_lay G_S0 (by omega) (by omega)) (by omega) (zz_rf 6 (12 * t + 0)) rfl ?_
  refine zz_iconst zd_7_10_6 ?_
  refine zz_puti zd_7_10_7 zf_Network_76 (zT_k6 (by omega)) rfl (zN_k6 hn (by omega)) (fun S1 qS1 => ?_)
  have G_S1 := zz_G.put G_S0 qS1 (-2147483648) 2147483647 (zR_k6_14 (by omega)) (by omega)
  have F_S1 := zz_fr.putv F_S0 qS1 (⟨rfl, rfl⟩)
  refine zz_iconst zd_7_10_10 ?_
  refine zz_istore_n [some (.ref (zz_rf 3 t)), some (zi 1)] zd_7_10_11 (by decide) rfl ?_
  refine zz_less (ls1 := [some (.ref (zz_rf 3 t)), some (zi 1)]) ⟨rfl, ⟨rfl, trivial⟩⟩ ?_
  exact k12 1 S1 G_S1 F_S1 (by omega) (zn_FS1 (zz_rs qS1))
theorem zk_TF_305 : mm_Vl "TensorForge" 305 1 0 zy_findSpots_7_10 := ⟨zyw_findSpots_7_10, (R_Network, F_Network, 2), rfl, mm_tb_1 1512 (by decide +kernel) rfl, mm_tb_1 1513 (by decide +kernel) rfl, mm_tb_1 1514 (by decide +kernel) rfl⟩
theorem zt_1_27_10 : zz_ThrW zy_place_1_27 10 126 309 130 := ⟨by decide +kernel, by decide +kernel, by decide +kernel, by decide +kernel, by decide +kernel⟩
theorem zxl_TF_126_309_130 : mm_Xl "TensorForge" 126 309 130 2 := ⟨mm_tb_1 1176 (by decide +kernel) rfl, mm_tb_1 1177 (by decide +kernel) rfl, mm_tb_1 19 (by decide +kernel) rfl, ⟨57, by decide +kernel⟩, zxa_TF_130⟩
abbrev zy_takeSpots_7_11 : mm_Y := (⟨"TensorForge$Network", "takeSpots", "()V"⟩, prog_7_method_11_code, 2, none)
theorem zyw_takeSpots_7_11 : mm_Yw zy_takeSpots_7_11 0 := ⟨mm_tb_1 1532 (by decide +kernel) rfl, mm_tb_1 2 (by decide +kernel) rfl, ⟨by decide, by decide⟩, by decide +kernel⟩
theorem zg_1_27_7 : zq_at zy_place_1_27.2.1 7 154 ∧ zq_at zy_place_1_27.2.1 8 0 ∧ zq_at zy_place_1_27.2.1 9 14 ∧ zq_at zy_place_1_27.2.1 21 42 ∧ zq_at zy_place_1_27.2.1 22 180 ∧ zq_at zy_place_1_27.2.1 23 0 ∧ zq_at zy_place_1_27.2.1 24 10 ∧ zq_at zy_place_1_27.2.1 25 182 ∧ zq_at zy_place_1_27.2.1 26 1 ∧ zq_at zy_place_1_27.2.1 27 55 := by decide +kernel
theorem zd_1_27_7 : zz_B zy_place_1_27 7 (Instr.ifCond .ne) 21 10 := ⟨14, zq_154 zg_1_27_7.1 zg_1_27_7.2.1 zg_1_27_7.2.2.1 (by decide), rfl, rfl⟩
theorem zd_1_27_21 : zz_D zy_place_1_27 21 (.aload_n 0) 1 22 := ⟨zq_42 zg_1_27_7.2.2.2.1, rfl⟩
theorem zd_1_27_22 : zz_D zy_place_1_27 22 (.getfield 10) 3 25 := ⟨zq_180 zg_1_27_7.2.2.2.2.1 zg_1_27_7.2.2.2.2.2.1 zg_1_27_7.2.2.2.2.2.2.1 rfl, rfl⟩
theorem zd_1_27_25 : zz_D zy_place_1_27 25 (.invokevirtual 311) 3 28 := ⟨zq_182 zg_1_27_7.2.2.2.2.2.2.2.1 zg_1_27_7.2.2.2.2.2.2.2.2.1 zg_1_27_7.2.2.2.2.2.2.2.2.2 rfl, rfl⟩
theorem zg_7_11_0 : zq_at zy_takeSpots_7_11.2.1 0 3 ∧ zq_at zy_takeSpots_7_11.2.1 1 60 ∧ zq_at zy_takeSpots_7_11.2.1 2 27 ∧ zq_at zy_takeSpots_7_11.2.1 3 42 ∧ zq_at zy_takeSpots_7_11.2.1 4 180 ∧ zq_at zy_takeSpots_7_11.2.1 5 0 ∧ zq_at zy_takeSpots_7_11.2.1 6 16 ∧ zq_at zy_takeSpots_7_11.2.1 7 162 ∧ zq_at zy_takeSpots_7_11.2.1 8 0 ∧ zq_at zy_takeSpots_7_11.2.1 9 27 ∧ zq_at zy_takeSpots_7_11.2.1 10 42 ∧ zq_at zy_takeSpots_7_11.2.1 11 180 ∧ zq_at zy_takeSpots_7_11.2.1 12 0 ∧ zq_at zy_takeSpots_7_11.2.1 13 11 ∧ zq_at zy_takeSpots_7_11.2.1 14 27 ∧ zq_at zy_takeSpots_7_11.2.1 15 50 ∧ zq_at zy_takeSpots_7_11.2.1 16 42 ∧ zq_at zy_takeSpots_7_11.2.1 17 180 ∧ zq_at zy_takeSpots_7_11.2.1 18 0 ∧ zq_at zy_takeSpots_7_11.2.1 19 11 ∧ zq_at zy_takeSpots_7_11.2.1 20 27 ∧ zq_at zy_takeSpots_7_11.2.1 21 50 := by decide +kernel
theorem zd_7_11_0 : zz_D zy_takeSpots_7_11 0 (.iconst 0) 1 1 := ⟨zq_3 zg_7_11_0.1, rfl⟩
theorem zd_7_11_1 : zz_D zy_takeSpots_7_11 1 (.istore_n 1) 1 2 := ⟨zq_60 zg_7_11_0.2.1, rfl⟩
theorem zd_7_11_2 : zz_D zy_takeSpots_7_11 2 (.iload_n 1) 1 3 := ⟨zq_27 zg_7_11_0.2.2.1, rfl⟩
theorem zd_7_11_3 : zz_D zy_takeSpots_7_11 3 (.aload_n 0) 1 4 := ⟨zq_42 zg_7_11_0.2.2.2.1, rfl⟩
theorem zd_7_11_4 : zz_D zy_takeSpots_7_11 4 (.getfield 16) 3 7 := ⟨zq_180 zg_7_11_0.2.2.2.2.1 zg_7_11_0.2.2.2.2.2.1 zg_7_11_0.2.2.2.2.2.2.1 rfl, rfl⟩
theorem zd_7_11_7 : zz_B zy_takeSpots_7_11 7 (Instr.if_icmp .ge) 34 10 := ⟨27, zq_162 zg_7_11_0.2.2.2.2.2.2.2.1 zg_7_11_0.2.2.2.2.2.2.2.2.1 zg_7_11_0.2.2.2.2.2.2.2.2.2.1 (by decide), rfl, rfl⟩
theorem zd_7_11_10 : zz_D zy_takeSpots_7_11 10 (.aload_n 0) 1 11 := ⟨zq_42 zg_7_11_0.2.2.2.2.2.2.2.2.2.2.1, rfl⟩
theorem zd_7_11_11 : zz_D zy_takeSpots_7_11 11 (.getfield 11) 3 14 := ⟨zq_180 zg_7_11_0.2.2.2.2.2.2.2.2.2.2.2.1 zg_7_11_0.2.2.2.2.2.2.2.2.2.2.2.2.1 zg_7_11_0.2.2.2.2.2.2.2.2.2.2.2.2.2.1 rfl, rfl⟩
theorem zd_7_11_14 : zz_D zy_takeSpots_7_11 14 (.iload_n 1) 1 15 := ⟨zq_27 zg_7_11_0.2.2.2.2.2.2.2.2.2.2.2.2.2.2.1, rfl⟩
theorem zd_7_11_15 : zz_D zy_takeSpots_7_11 15 (.aaload) 1 16 := ⟨zq_50 zg_7_11_0.2.2.2.2.2.2.2.2.2.2.2.2.2.2.2.1, rfl⟩
theorem zd_7_11_16 : zz_D zy_takeSpots_7_11 16 (.aload_n 0) 1 17 := ⟨zq_42 zg_7_11_0.2.2.2.2.2.2.2.2.2.2.2.2.2.2.2.2.1, rfl⟩
theorem zd_7_11_17 : zz_D zy_takeSpots_7_11 17 (.getfield 11) 3 20 := ⟨zq_180 zg_7_11_0.2.2.2.2.2.2.2.2.2.2.2.2.2.2.2.2.2.1 zg_7_11_0.2.2.2.2.2.2.2.2.2.2.2.2.2.2.2.2.2.2.1 zg_7_11_0.2.2.2.2.2.2.2.2.2.2.2.2.2.2.2.2.2.2.2.1 rfl, rfl⟩
theorem zd_7_11_20 : zz_D zy_takeSpots_7_11 20 (.iload_n 1) 1 21 := ⟨zq_27 zg_7_11_0.2.2.2.2.2.2.2.2.2.2.2.2.2.2.2.2.2.2.2.2.1, rfl⟩
theorem zd_7_11_21 : zz_D zy_takeSpots_7_11 21 (.aaload) 1 22 := ⟨zq_50 zg_7_11_0.2.2.2.2.2.2.2.2.2.2.2.2.2.2.2.2.2.2.2.2.2, rfl⟩
theorem zg_7_11_22 : zq_at zy_takeSpots_7_11.2.1 22 180 ∧ zq_at zy_takeSpots_7_11.2.1 23 0 ∧ zq_at zy_takeSpots_7_11.2.1 24 76 ∧ zq_at zy_takeSpots_7_11.2.1 25 181 ∧ zq_at zy_takeSpots_7_11.2.1 26 0 ∧ zq_at zy_takeSpots_7_11.2.1 27 63 ∧ zq_at zy_takeSpots_7_11.2.1 28 132 ∧ zq_at zy_takeSpots_7_11.2.1 29 1 ∧ zq_at zy_takeSpots_7_11.2.1 30 1 ∧ zq_at zy_takeSpots_7_11.2.1 31 167 ∧ zq_at zy_takeSpots_7_11.2.1 32 255 ∧ zq_at zy_takeSpots_7_11.2.1 33 227 ∧ zq_at zy_takeSpots_7_11.2.1 34 177 := by decide +kernel
theorem zd_7_11_22 : zz_D zy_takeSpots_7_11 22 (.getfield 76) 3 25 := ⟨zq_180 zg_7_11_22.1 zg_7_11_22.2.1 zg_7_11_22.2.2.1 rfl, rfl⟩
theorem zd_7_11_25 : zz_D zy_takeSpots_7_11 25 (.putfield 63) 3 28 := ⟨zq_181 zg_7_11_22.2.2.2.1 zg_7_11_22.2.2.2.2.1 zg_7_11_22.2.2.2.2.2.1 rfl, rfl⟩
theorem zd_7_11_28 : zz_D zy_takeSpots_7_11 28 (.iinc 1 1) 3 31 := ⟨zq_132 zg_7_11_22.2.2.2.2.2.2.1 zg_7_11_22.2.2.2.2.2.2.2.1 zg_7_11_22.2.2.2.2.2.2.2.2.1 (by decide), rfl⟩
theorem zd_7_11_31 : zz_B zy_takeSpots_7_11 31 Instr.goto 2 34 := ⟨(-29), zq_167 zg_7_11_22.2.2.2.2.2.2.2.2.2.1 zg_7_11_22.2.2.2.2.2.2.2.2.2.2.1 zg_7_11_22.2.2.2.2.2.2.2.2.2.2.2.1 (by decide), rfl, rfl⟩
theorem zd_7_11_34 : zz_D zy_takeSpots_7_11 34 (.return_) 1 35 := ⟨zq_177 zg_7_11_22.2.2.2.2.2.2.2.2.2.2.2.2, rfl⟩

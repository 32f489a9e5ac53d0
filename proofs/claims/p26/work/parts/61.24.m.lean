-- TensorForgeModel networkSign (II)I
abbrev zr_networkSign_14_109 : Room := { frames := 4, cells := 0, slots := 0, locals := 56 }
def zp_networkSign_14_109 (p0 : Int) (p1 : Int) (S0 : zz_S) : Int → zz_S → Prop := fun r S => zz_G S ∧ zz_fr [(1079, 0), (1079, 34)] [1101] (fun _ _ => False) S0 S ∧ ((-2147483648) ≤ r ∧ r ≤ 2147483647) ∧ (∀ v : zn_T, zn_M S0 v → zn_V v → zn_W v → zs_Q v → (S 1079 0 = 1 ∧ ¬ (0 ≤ p0 ∧ p0 < v 15 0 ∧ 0 ≤ p1)) ∨ (S 1079 0 = 0 ∧ (0 ≤ p0 ∧ p0 < v 15 0 ∧ 0 ≤ p1) ∧ r = zs_at (zs_ln v p0.toNat) p1))
theorem zc_networkSign_14_109 {g : mm_G} {l : Launch} (p0 : Int) (p1 : Int) (S0 : zz_S) (n : Nat) (hn : zz_end ≤ n) (G_S0 : zz_G S0) (hp0 : (-2147483648) ≤ p0 ∧ p0 ≤ 2147483647) (hp1 : (-2147483648) ≤ p1 ∧ p1 ≤ 2147483647) : mm_Met g l zy_networkSign_14_109 zr_networkSign_14_109 [.ref 1079, zi p0, zi p1] (zz_M S0 n) n (zz_QI n (zp_networkSign_14_109 p0 p1 S0)) := by
  refine zz_enter (by decide) (Nat.le_of_ble_eq_true rfl) (zz_less (ls1 := [some (.ref 1079), some (zi p0), some (zi p1)]) ⟨rfl, ⟨rfl, ⟨rfl, trivial⟩⟩⟩ ?_)
  have F_S0 : zz_fr [(1079, 0), (1079, 34)] [1101] (fun _ _ => False) S0 S0 := zz_fr.refl
  refine zz_aload_n (x := 1079) rfl zd_14_109_0 ?_
  refine zz_iload_n (x := p0) rfl zd_14_109_1 ?_
  refine zz_i2l (by omega) zd_14_109_2 ?_
  refine zz_lconst (z := 0) (by decide) zd_14_109_3 ?_
  refine zz_aload_n (x := 1079) rfl zd_14_109_4 ?_
  have g1 := zz_G.r G_S0 1079 36 0 11 rfl rfl
  refine zz_geti (z := S0 1079 36) zd_14_109_5 zf_Md_85 zT_1079 rfl (zz_ltn hn rfl) rfl ?_
  refine zz_iconst zd_14_109_8 ?_
  refine zz_isub zd_14_109_9 ?_
  refine zz_i2l (by omega) zd_14_109_10 ?_
  refine zz_callSI [zl p0, zl 0, zl ((S0 1079 36) - 1)] zd_14_109_11 zk_Md_192 rfl rfl ⟨Nat.le_of_ble_eq_true rfl, Nat.le_of_ble_eq_true rfl⟩ ⟨rfl, rfl⟩ (Nat.zero_le _) (Nat.zero_le _) (zc_in_14_4 p0 0 ((S0 1079 36) - 1) S0 n hn G_S0 (by omega) (by omega) (by omega)) (fun v3 S2 hP => ?_)
  obtain ⟨rfl, o4, o5⟩ := hP
  rcases (by omega : v3 = 0 ∨ v3 = 1) with rfl | rfl
  · have n6 : p0 < 0 ∨ (S0 1079 36) - 1 < p0 := by omega
    clear o5
    refine zz_if_eq (by omega) zd_14_109_14 (fun c7 => ?_) (fun c7 => ?_)
    · refine zz_iconst zd_14_109_21 ?_
      refine zz_goto zd_14_109_22 ?_
      refine zz_iconst zd_14_109_26 ?_
      refine zz_iconst zd_14_109_27 ?_
      refine zz_callVI [zi 1, zi 0, zi 0] zd_14_109_28 zk_Md_196 zT_1079 (zz_ltn hn rfl) rfl rfl ⟨Nat.le_of_ble_eq_true rfl, Nat.le_of_ble_eq_true rfl⟩ ⟨rfl, rfl⟩ (Nat.zero_le _) (Nat.zero_le _) (zc_refuse_14_3 1 0 0 S0 n hn G_S0 (by omega) (by omega) (by omega)) (fun v9 S8 hP => ?_)
      obtain ⟨G_S8, fS8, o10, o11⟩ := hP
      have F_S8 := zz_fr.trans F_S0 fS8 rfl zz_nv
      rcases (by omega : v9 = 0 ∨ v9 = 1) with rfl | rfl
      · exfalso; omega
      · have e12 : S8 1079 0 = 1 := by omega
        clear o11
        refine zz_if_eq (by omega) zd_14_109_31 (fun c13 => ?_) (fun c13 => ?_)
        · exfalso; omega
        · refine zz_iconst zd_14_109_34 ?_
          exact zz_iret zd_14_109_35 rfl (Nat.zero_le _) (Nat.zero_le _) ⟨_, _, rfl, G_S8, F_S8, by omega, (fun v hM hV hW hQ => by have h9 := hM.1; exact Or.inl ⟨by omega, by omega⟩)⟩
    · exfalso; omega
  · have n14 : 0 ≤ p0 ∧ p0 ≤ (S0 1079 36) - 1 := by omega
    clear o5
    refine zz_if_eq (by omega) zd_14_109_14 (fun c15 => ?_) (fun c15 => ?_)
    · exfalso; omega
    · refine zz_iload_n (x := p1) rfl zd_14_109_17 ?_
      refine zz_if_ge (by omega) zd_14_109_18 (fun c16 => ?_) (fun c16 => ?_)
      · refine zz_iconst zd_14_109_25 ?_
        refine zz_iconst zd_14_109_26 ?_
        refine zz_iconst zd_14_109_27 ?_
        refine zz_callVI [zi 0, zi 0, zi 0] zd_14_109_28 zk_Md_196 zT_1079 (zz_ltn hn rfl) rfl rfl ⟨Nat.le_of_ble_eq_true rfl, Nat.le_of_ble_eq_true rfl⟩ ⟨rfl, rfl⟩ (Nat.zero_le _) (Nat.zero_le _) (zc_refuse_14_3 0 0 0 S0 n hn G_S0 (by omega) (by omega) (by omega)) (fun v18 S17 hP => ?_)
        obtain ⟨G_S17, fS17, o19, o20⟩ := hP
        have F_S17 := zz_fr.trans F_S0 fS17 rfl zz_nv
        rcases (by omega : v18 = 0 ∨ v18 = 1) with rfl | rfl
        · have e21 : S17 1079 0 = 0 := by omega
          clear o20
          refine zz_if_eq (by omega) zd_14_109_31 (fun c22 => ?_) (fun c22 => ?_)
          · refine zz_aload_n (x := 1079) rfl zd_14_109_36 ?_
            refine zz_iconst zd_14_109_37 ?_
            refine zz_puti zd_14_109_38 zf_Md_385 zT_1079 rfl (zz_ltn hn rfl) (fun S23 qS23 => ?_)
            have G_S23 := zz_G.put G_S17 qS23 0 200 rfl (by omega)
            have F_S23 := zz_fr.puts F_S17 qS23 rfl
            refine zz_iload_n (x := p0) rfl zd_14_109_41 ?_
            refine zz_if_ne (by omega) zd_14_109_42 (fun c24 => ?_) (fun c24 => ?_)
            · refine zz_aload_n (x := 1079) rfl zd_14_109_99 ?_
              refine zz_iload_n (x := p0) rfl zd_14_109_100 ?_
              refine zz_iconst zd_14_109_101 ?_
              refine zz_isub zd_14_109_102 ?_
              have e25 : S23 1079 34 = 0 := (zz_rs qS23)
              refine zz_callVV [zi (p0 - 1)] zd_14_109_103 zk_Md_610 zT_1079 (zz_ltn hn rfl) rfl rfl ⟨Nat.le_of_ble_eq_true rfl, Nat.le_of_ble_eq_true rfl⟩ ⟨rfl, rfl⟩ (Nat.zero_le _) (Nat.zero_le _) (zc_sayLayer_14_108 (p0 - 1) S23 n hn G_S23 (by omega) (by omega)) (fun S26 hP => ?_)
              obtain ⟨G_S26, fS26, o28, o29, o30⟩ := hP
              have F_S26 := zz_fr.trans F_S23 fS26 rfl zz_nv
              refine zz_aload_n (x := 1079) rfl zd_14_109_106 ?_
              refine zz_ldc2 (z := 10) zq_Md_407 (by decide) zd_14_109_107 ?_
              have g31 := zz_G.r G_S26 1079 34 0 200 rfl rfl
              refine zz_callVV [zl 10] zd_14_109_110 zk_Md_388 zT_1079 (zz_ltn hn rfl) rfl rfl ⟨Nat.le_of_ble_eq_true rfl, Nat.le_of_ble_eq_true rfl⟩ ⟨rfl, rfl⟩ (Nat.zero_le _) (Nat.zero_le _) (zc_say_14_57 10 S26 n hn G_S26 (by omega) (by omega)) (fun S32 hP => ?_)
              obtain ⟨G_S32, fS32, o34, o35⟩ := hP
              have F_S32 := zz_fr.trans F_S26 fS32 rfl zz_nv
              refine zz_iload_n (x := p1) rfl zd_14_109_113 ?_
              refine zz_aload_n (x := 1079) rfl zd_14_109_114 ?_
              have g36 := zz_G.r G_S32 1079 34 0 200 rfl rfl
              refine zz_geti (z := S32 1079 34) zd_14_109_115 zf_Md_385 zT_1079 rfl (zz_ltn hn rfl) rfl ?_
              refine zz_icmp_ge (by omega) (by omega) zd_14_109_118 (fun c37 => ?_) (fun c37 => ?_)
              · refine zz_iconst zd_14_109_130 ?_
                have e38 : S32 1079 0 = S17 1079 0 := (zz_rc fS32 rfl rfl (fun h => h) (zz_rc fS26 rfl rfl (fun h => h) (zz_ro qS23 (fun h => absurd h.2 (by decide)) rfl)))
                exact zz_iret zd_14_109_131 rfl (Nat.zero_le _) (Nat.zero_le _) ⟨_, _, rfl, G_S32, F_S32, by omega, (fun v hM hV hW hQ => by have h9 := hM.1; have k0 : zs_P (S23 1079 34) (S23 1101) [] := zs_P0 (zz_rs qS23); have M9 : zn_M S23 v := zn_M.fr hM F_S23 rfl rfl (fun a i x => x.elim) (F_S23 1079 36 rfl rfl (fun h => h)); have k1 := zs_MP M9 hV hW hQ (p := p0) (by omega) (by omega) o30 k0; have k2 := o35 _ k1 (by decide); have e9 : zs_P (S32 1079 34) (S32 1101) (zs_ln v p0.toNat) := k2; exact Or.inr ⟨by omega, by omega, (zs_atn e9 (by omega)).symm⟩)⟩
              · refine zz_aload_n (x := 1079) rfl zd_14_109_121 ?_
                refine zz_getr (kd := 0) (z := 1101) zd_14_109_122 zf_Md_82 zT_1079 rfl (zz_ltn hn rfl) (zz_G.eq G_S32 1079 35 1101 rfl rfl) (by decide) 1101 rfl ?_
                refine zz_iload_n (x := p1) rfl zd_14_109_125 ?_
                have g39 := zz_G.r G_S32 1101 p1.toNat (-2147483648) 2147483647 rfl rfl
                refine zz_iald (z := S32 1101 p1.toNat) zd_14_109_126 zT_1101 rfl (zz_ltn hn rfl) (by decide) (by omega) rfl ?_
                refine zz_goto zd_14_109_127 ?_
                have e40 : S32 1079 0 = S17 1079 0 := (zz_rc fS32 rfl rfl (fun h => h) (zz_rc fS26 rfl rfl (fun h => h) (zz_ro qS23 (fun h => absurd h.2 (by decide)) rfl)))
                exact zz_iret zd_14_109_131 rfl (Nat.zero_le _) (Nat.zero_le _) ⟨_, _, rfl, G_S32, F_S32, by omega, (fun v hM hV hW hQ => by have h9 := hM.1; have k0 : zs_P (S23 1079 34) (S23 1101) [] := zs_P0 (zz_rs qS23); have M9 : zn_M S23 v := zn_M.fr hM F_S23 rfl rfl (fun a i x => x.elim) (F_S23 1079 36 rfl rfl (fun h => h)); have k1 := zs_MP M9 hV hW hQ (p := p0) (by omega) (by omega) o30 k0; have k2 := o35 _ k1 (by decide); have e9 : zs_P (S32 1079 34) (S32 1101) (zs_ln v p0.toNat) := k2; exact Or.inr ⟨by omega, by omega, (zs_aty e9 (by omega) (by omega)).symm⟩)⟩
            · refine zz_aload_n (x := 1079) rfl zd_14_109_45 ?_
              refine zz_ldc2 (z := 21676489) zq_Md_532 (by decide) zd_14_109_46 ?_
              have e41 : S23 1079 34 = 0 := (zz_rs qS23)
              refine zz_callVV [zl 21676489] zd_14_109_49 zk_Md_604 zT_1079 (zz_ltn hn rfl) rfl rfl ⟨Nat.le_of_ble_eq_true rfl, Nat.le_of_ble_eq_true rfl⟩ ⟨rfl, rfl⟩ (Nat.zero_le _) (Nat.zero_le _) (zc_sayCode_14_106 21676489 S23 n hn G_S23 (by omega) (by omega) (by omega)) (fun S42 hP => ?_)
              obtain ⟨G_S42, fS42, o44, o45, o46⟩ := hP
              have F_S42 := zz_fr.trans F_S23 fS42 rfl zz_nv
              refine zz_aload_n (x := 1079) rfl zd_14_109_52 ?_
              refine zz_aload_n (x := 1079) rfl zd_14_109_53 ?_
              refine zz_getr (kd := 0) (z := 1102) zd_14_109_54 zf_Md_88 zT_1079 rfl (zz_ltn hn rfl) (zz_G.eq G_S42 1079 37 1102 rfl rfl) (by decide) 1102 rfl ?_
              refine zz_iconst zd_14_109_57 ?_
              have g47 := zz_G.r G_S0 1102 0 0 63 rfl rfl
              refine zz_iald (z := S0 1102 0) zd_14_109_58 zT_1102 rfl (zz_ltn hn rfl) (by decide) (by decide) (zz_rc fS42 (zz_nc1 rfl) rfl (fun h => h) (zz_ro qS23 (fun h => absurd h.1 (by decide)) (zz_rc fS17 (zz_nc1 rfl) rfl (fun h => h) rfl))) ?_
              have g48 := zz_G.r G_S42 1079 34 0 200 rfl rfl
              refine zz_callVV [zi (S0 1102 0)] zd_14_109_59 zk_Md_607 zT_1079 (zz_ltn hn rfl) rfl rfl ⟨Nat.le_of_ble_eq_true rfl, Nat.le_of_ble_eq_true rfl⟩ ⟨rfl, rfl⟩ (Nat.zero_le _) (Nat.zero_le _) (zc_sayCount_14_107 (S0 1102 0) S42 n hn G_S42 (by omega) (by omega)) (fun S49 hP => ?_)
              obtain ⟨G_S49, fS49, o51, o52, o53⟩ := hP
              have F_S49 := zz_fr.trans F_S42 fS49 rfl zz_nv
              refine zz_aload_n (x := 1079) rfl zd_14_109_62 ?_
              refine zz_ldc2 (z := 24) zq_Md_167 (by decide) zd_14_109_63 ?_
              have g54 := zz_G.r G_S49 1079 34 0 200 rfl rfl
              refine zz_callVV [zl 24] zd_14_109_66 zk_Md_604 zT_1079 (zz_ltn hn rfl) rfl rfl ⟨Nat.le_of_ble_eq_true rfl, Nat.le_of_ble_eq_true rfl⟩ ⟨rfl, rfl⟩ (Nat.zero_le _) (Nat.zero_le _) (zc_sayCode_14_106 24 S49 n hn G_S49 (by omega) (by omega) (by omega)) (fun S55 hP => ?_)
              obtain ⟨G_S55, fS55, o57, o58, o59⟩ := hP
              have F_S55 := zz_fr.trans F_S49 fS55 rfl zz_nv
              refine zz_aload_n (x := 1079) rfl zd_14_109_69 ?_
              refine zz_aload_n (x := 1079) rfl zd_14_109_70 ?_
              refine zz_getr (kd := 0) (z := 1103) zd_14_109_71 zf_Md_91 zT_1079 rfl (zz_ltn hn rfl) (zz_G.eq G_S55 1079 38 1103 rfl rfl) (by decide) 1103 rfl ?_
              refine zz_iconst zd_14_109_74 ?_
              have g60 := zz_G.r G_S0 1103 0 0 63 rfl rfl
              refine zz_iald (z := S0 1103 0) zd_14_109_75 zT_1103 rfl (zz_ltn hn rfl) (by decide) (by decide) (zz_rc fS55 (zz_nc1 rfl) rfl (fun h => h) (zz_rc fS49 (zz_nc1 rfl) rfl (fun h => h) (zz_rc fS42 (zz_nc1 rfl) rfl (fun h => h) (zz_ro qS23 (fun h => absurd h.1 (by decide)) (zz_rc fS17 (zz_nc1 rfl) rfl (fun h => h) rfl))))) ?_
              have g61 := zz_G.r G_S55 1079 34 0 200 rfl rfl
              refine zz_callVV [zi (S0 1103 0)] zd_14_109_76 zk_Md_607 zT_1079 (zz_ltn hn rfl) rfl rfl ⟨Nat.le_of_ble_eq_true rfl, Nat.le_of_ble_eq_true rfl⟩ ⟨rfl, rfl⟩ (Nat.zero_le _) (Nat.zero_le _) (zc_sayCount_14_107 (S0 1103 0) S55 n hn G_S55 (by omega) (by omega)) (fun S62 hP => ?_)
              obtain ⟨G_S62, fS62, o64, o65, o66⟩ := hP
              have F_S62 := zz_fr.trans F_S55 fS62 rfl zz_nv
              refine zz_aload_n (x := 1079) rfl zd_14_109_79 ?_
              refine zz_ldc2 (z := 24) zq_Md_167 (by decide) zd_14_109_80 ?_
              have g67 := zz_G.r G_S62 1079 34 0 200 rfl rfl
              refine zz_callVV [zl 24] zd_14_109_83 zk_Md_604 zT_1079 (zz_ltn hn rfl) rfl rfl ⟨Nat.le_of_ble_eq_true rfl, Nat.le_of_ble_eq_true rfl⟩ ⟨rfl, rfl⟩ (Nat.zero_le _) (Nat.zero_le _) (zc_sayCode_14_106 24 S62 n hn G_S62 (by omega) (by omega) (by omega)) (fun S68 hP => ?_)
              obtain ⟨G_S68, fS68, o70, o71, o72⟩ := hP
              have F_S68 := zz_fr.trans F_S62 fS68 rfl zz_nv
              refine zz_aload_n (x := 1079) rfl zd_14_109_86 ?_
              refine zz_aload_n (x := 1079) rfl zd_14_109_87 ?_
              refine zz_getr (kd := 0) (z := 1104) zd_14_109_88 zf_Md_94 zT_1079 rfl (zz_ltn hn rfl) (zz_G.eq G_S68 1079 39 1104 rfl rfl) (by decide) 1104 rfl ?_
              refine zz_iconst zd_14_109_91 ?_
              have g73 := zz_G.r G_S0 1104 0 0 63 rfl rfl
              refine zz_iald (z := S0 1104 0) zd_14_109_92 zT_1104 rfl (zz_ltn hn rfl) (by decide) (by decide) (zz_rc fS68 (zz_nc1 rfl) rfl (fun h => h) (zz_rc fS62 (zz_nc1 rfl) rfl (fun h => h) (zz_rc fS55 (zz_nc1 rfl) rfl (fun h => h) (zz_rc fS49 (zz_nc1 rfl) rfl (fun h => h) (zz_rc fS42 (zz_nc1 rfl) rfl (fun h => h) (zz_ro qS23 (fun h => absurd h.1 (by decide)) (zz_rc fS17 (zz_nc1 rfl) rfl (fun h => h) rfl))))))) ?_
              have g74 := zz_G.r G_S68 1079 34 0 200 rfl rfl
              refine zz_callVV [zi (S0 1104 0)] zd_14_109_93 zk_Md_607 zT_1079 (zz_ltn hn rfl) rfl rfl ⟨Nat.le_of_ble_eq_true rfl, Nat.le_of_ble_eq_true rfl⟩ ⟨rfl, rfl⟩ (Nat.zero_le _) (Nat.zero_le _) (zc_sayCount_14_107 (S0 1104 0) S68 n hn G_S68 (by omega) (by omega)) (fun S75 hP => ?_)
              obtain ⟨G_S75, fS75, o77, o78, o79⟩ := hP
              have F_S75 := zz_fr.trans F_S68 fS75 rfl zz_nv
              refine zz_goto zd_14_109_96 ?_
              refine zz_aload_n (x := 1079) rfl zd_14_109_106 ?_
              refine zz_ldc2 (z := 10) zq_Md_407 (by decide) zd_14_109_107 ?_
              have g80 := zz_G.r G_S75 1079 34 0 200 rfl rfl
              refine zz_callVV [zl 10] zd_14_109_110 zk_Md_388 zT_1079 (zz_ltn hn rfl) rfl rfl ⟨Nat.le_of_ble_eq_true rfl, Nat.le_of_ble_eq_true rfl⟩ ⟨rfl, rfl⟩ (Nat.zero_le _) (Nat.zero_le _) (zc_say_14_57 10 S75 n hn G_S75 (by omega) (by omega)) (fun S81 hP => ?_)
              obtain ⟨G_S81, fS81, o83, o84⟩ := hP
              have F_S81 := zz_fr.trans F_S75 fS81 rfl zz_nv
              refine zz_iload_n (x := p1) rfl zd_14_109_113 ?_
              refine zz_aload_n (x := 1079) rfl zd_14_109_114 ?_
              have g85 := zz_G.r G_S81 1079 34 0 200 rfl rfl
              refine zz_geti (z := S81 1079 34) zd_14_109_115 zf_Md_385 zT_1079 rfl (zz_ltn hn rfl) rfl ?_
              refine zz_icmp_ge (by omega) (by omega) zd_14_109_118 (fun c86 => ?_) (fun c86 => ?_)
              · refine zz_iconst zd_14_109_130 ?_
                have e87 : S81 1079 0 = S17 1079 0 := (zz_rc fS81 rfl rfl (fun h => h) (zz_rc fS75 rfl rfl (fun h => h) (zz_rc fS68 rfl rfl (fun h => h) (zz_rc fS62 rfl rfl (fun h => h) (zz_rc fS55 rfl rfl (fun h => h) (zz_rc fS49 rfl rfl (fun h => h) (zz_rc fS42 rfl rfl (fun h => h) (zz_ro qS23 (fun h => absurd h.2 (by decide)) rfl))))))))
                exact zz_iret zd_14_109_131 rfl (Nat.zero_le _) (Nat.zero_le _) ⟨_, _, rfl, G_S81, F_S81, by omega, (fun v hM hV hW hQ => by have h9 := hM.1; have k0 : zs_P (S23 1079 34) (S23 1101) [] := zs_P0 (zz_rs qS23); have m9 := hM.2.2.1 0 (by omega); unfold zn_MT at m9; have v9 := hV.2.1 0 (by omega) (by omega); have k1 := o46 _ zs_winput k0 zs_kinput; have k2 := o53 _ k1 (by omega); have k3 := o59 _ zs_wx k2 zs_kx; have k4 := o66 _ k3 (by omega); have k5 := o72 _ zs_wx k4 zs_kx; have k6 := o79 _ k5 (by omega); have k7 := o84 _ k6 (by decide); have z9 : p0 = 0 := (by omega); have e9 : zs_P (S81 1079 34) (S81 1101) (zs_ln v p0.toNat) := (by rw [z9, show (0 : Int).toNat = 0 from rfl, zs_l0 hW hQ, ← m9.1, ← m9.2.1, ← m9.2.2.1]; exact k7); exact Or.inr ⟨by omega, by omega, (zs_atn e9 (by omega)).symm⟩)⟩
              · refine zz_aload_n (x := 1079) rfl zd_14_109_121 ?_
                refine zz_getr (kd := 0) (z := 1101) zd_14_109_122 zf_Md_82 zT_1079 rfl (zz_ltn hn rfl) (zz_G.eq G_S81 1079 35 1101 rfl rfl) (by decide) 1101 rfl ?_
                refine zz_iload_n (x := p1) rfl zd_14_109_125 ?_
                have g88 := zz_G.r G_S81 1101 p1.toNat (-2147483648) 2147483647 rfl rfl
                refine zz_iald (z := S81 1101 p1.toNat) zd_14_109_126 zT_1101 rfl (zz_ltn hn rfl) (by decide) (by omega) rfl ?_
                refine zz_goto zd_14_109_127 ?_
                have e89 : S81 1079 0 = S17 1079 0 := (zz_rc fS81 rfl rfl (fun h => h) (zz_rc fS75 rfl rfl (fun h => h) (zz_rc fS68 rfl rfl (fun h => h) (zz_rc fS62 rfl rfl (fun h => h) (zz_rc fS55 rfl rfl (fun h => h) (zz_rc fS49 rfl rfl (fun h => h) (zz_rc fS42 rfl rfl (fun h => h) (zz_ro qS23 (fun h => absurd h.2 (by decide)) rfl))))))))
                exact zz_iret zd_14_109_131 rfl (Nat.zero_le _) (Nat.zero_le _) ⟨_, _, rfl, G_S81, F_S81, by omega, (fun v hM hV hW hQ => by have h9 := hM.1; have k0 : zs_P (S23 1079 34) (S23 1101) [] := zs_P0 (zz_rs qS23); have m9 := hM.2.2.1 0 (by omega); unfold zn_MT at m9; have v9 := hV.2.1 0 (by omega) (by omega); have k1 := o46 _ zs_winput k0 zs_kinput; have k2 := o53 _ k1 (by omega); have k3 := o59 _ zs_wx k2 zs_kx; have k4 := o66 _ k3 (by omega); have k5 := o72 _ zs_wx k4 zs_kx; have k6 := o79 _ k5 (by omega); have k7 := o84 _ k6 (by decide); have z9 : p0 = 0 := (by omega); have e9 : zs_P (S81 1079 34) (S81 1101) (zs_ln v p0.toNat) := (by rw [z9, show (0 : Int).toNat = 0 from rfl, zs_l0 hW hQ, ← m9.1, ← m9.2.1, ← m9.2.2.1]; exact k7); exact Or.inr ⟨by omega, by omega, (zs_aty e9 (by omega) (by omega)).symm⟩)⟩
          · exfalso; omega
        · exfalso; omega
      · refine zz_iconst zd_14_109_21 ?_
        refine zz_goto zd_14_109_22 ?_
        refine zz_iconst zd_14_109_26 ?_
        refine zz_iconst zd_14_109_27 ?_
        refine zz_callVI [zi 1, zi 0, zi 0] zd_14_109_28 zk_Md_196 zT_1079 (zz_ltn hn rfl) rfl rfl ⟨Nat.le_of_ble_eq_true rfl, Nat.le_of_ble_eq_true rfl⟩ ⟨rfl, rfl⟩ (Nat.zero_le _) (Nat.zero_le _) (zc_refuse_14_3 1 0 0 S0 n hn G_S0 (by omega) (by omega) (by omega)) (fun v91 S90 hP => ?_)
        obtain ⟨G_S90, fS90, o92, o93⟩ := hP
        have F_S90 := zz_fr.trans F_S0 fS90 rfl zz_nv
        rcases (by omega : v91 = 0 ∨ v91 = 1) with rfl | rfl
        · exfalso; omega
        · have e94 : S90 1079 0 = 1 := by omega
          clear o93
          refine zz_if_eq (by omega) zd_14_109_31 (fun c95 => ?_) (fun c95 => ?_)
          · exfalso; omega
          · refine zz_iconst zd_14_109_34 ?_
            exact zz_iret zd_14_109_35 rfl (Nat.zero_le _) (Nat.zero_le _) ⟨_, _, rfl, G_S90, F_S90, by omega, (fun v hM hV hW hQ => by have h9 := hM.1; exact Or.inl ⟨by omega, by omega⟩)⟩
abbrev zy_takes_14_110 : mm_Y := (⟨"TensorForgeModel", "takes", "(II)Z"⟩, prog_14_method_110_code, 3, (some .boolean))
theorem zyw_takes_14_110 : mm_Yw zy_takes_14_110 2 := ⟨mm_tb_1 2292 (by decide +kernel) rfl, mm_tb_1 12 (by decide +kernel) rfl, ⟨by decide, by decide⟩, by decide +kernel⟩
theorem zg_14_110_0 : zq_at zy_takes_14_110.2.1 0 42 ∧ zq_at zy_takes_14_110.2.1 1 180 ∧ zq_at zy_takes_14_110.2.1 2 0 ∧ zq_at zy_takes_14_110.2.1 3 103 ∧ zq_at zy_takes_14_110.2.1 4 27 ∧ zq_at zy_takes_14_110.2.1 5 46 ∧ zq_at zy_takes_14_110.2.1 6 28 ∧ zq_at zy_takes_14_110.2.1 7 159 ∧ zq_at zy_takes_14_110.2.1 8 0 ∧ zq_at zy_takes_14_110.2.1 9 23 ∧ zq_at zy_takes_14_110.2.1 30 4 ∧ zq_at zy_takes_14_110.2.1 31 167 ∧ zq_at zy_takes_14_110.2.1 32 0 ∧ zq_at zy_takes_14_110.2.1 33 4 ∧ zq_at zy_takes_14_110.2.1 35 172 ∧ zq_at zy_takes_14_110.2.1 10 42 ∧ zq_at zy_takes_14_110.2.1 11 180 ∧ zq_at zy_takes_14_110.2.1 12 0 ∧ zq_at zy_takes_14_110.2.1 13 100 ∧ zq_at zy_takes_14_110.2.1 14 27 ∧ zq_at zy_takes_14_110.2.1 15 46 ∧ zq_at zy_takes_14_110.2.1 16 5 := by decide +kernel
theorem zd_14_110_0 : zz_D zy_takes_14_110 0 (.aload_n 0) 1 1 := ⟨zq_42 zg_14_110_0.1, rfl⟩
theorem zd_14_110_1 : zz_D zy_takes_14_110 1 (.getfield 103) 3 4 := ⟨zq_180 zg_14_110_0.2.1 zg_14_110_0.2.2.1 zg_14_110_0.2.2.2.1 rfl, rfl⟩
theorem zd_14_110_4 : zz_D zy_takes_14_110 4 (.iload_n 1) 1 5 := ⟨zq_27 zg_14_110_0.2.2.2.2.1, rfl⟩
theorem zd_14_110_5 : zz_D zy_takes_14_110 5 (.iaload) 1 6 := ⟨zq_46 zg_14_110_0.2.2.2.2.2.1, rfl⟩
theorem zd_14_110_6 : zz_D zy_takes_14_110 6 (.iload_n 2) 1 7 := ⟨zq_28 zg_14_110_0.2.2.2.2.2.2.1, rfl⟩
theorem zd_14_110_7 : zz_B zy_takes_14_110 7 (Instr.if_icmp .eq) 30 10 := ⟨23, zq_159 zg_14_110_0.2.2.2.2.2.2.2.1 zg_14_110_0.2.2.2.2.2.2.2.2.1 zg_14_110_0.2.2.2.2.2.2.2.2.2.1 (by decide), rfl, rfl⟩
theorem zd_14_110_30 : zz_D zy_takes_14_110 30 (.iconst 1) 1 31 := ⟨zq_4 zg_14_110_0.2.2.2.2.2.2.2.2.2.2.1, rfl⟩
theorem zd_14_110_31 : zz_B zy_takes_14_110 31 Instr.goto 35 34 := ⟨4, zq_167 zg_14_110_0.2.2.2.2.2.2.2.2.2.2.2.1 zg_14_110_0.2.2.2.2.2.2.2.2.2.2.2.2.1 zg_14_110_0.2.2.2.2.2.2.2.2.2.2.2.2.2.1 (by decide), rfl, rfl⟩
theorem zd_14_110_35 : zz_D zy_takes_14_110 35 (.ireturn) 1 36 := ⟨zq_172 zg_14_110_0.2.2.2.2.2.2.2.2.2.2.2.2.2.2.1, rfl⟩
theorem zd_14_110_10 : zz_D zy_takes_14_110 10 (.aload_n 0) 1 11 := ⟨zq_42 zg_14_110_0.2.2.2.2.2.2.2.2.2.2.2.2.2.2.2.1, rfl⟩
theorem zd_14_110_11 : zz_D zy_takes_14_110 11 (.getfield 100) 3 14 := ⟨zq_180 zg_14_110_0.2.2.2.2.2.2.2.2.2.2.2.2.2.2.2.2.1 zg_14_110_0.2.2.2.2.2.2.2.2.2.2.2.2.2.2.2.2.2.1 zg_14_110_0.2.2.2.2.2.2.2.2.2.2.2.2.2.2.2.2.2.2.1 rfl, rfl⟩
theorem zd_14_110_14 : zz_D zy_takes_14_110 14 (.iload_n 1) 1 15 := ⟨zq_27 zg_14_110_0.2.2.2.2.2.2.2.2.2.2.2.2.2.2.2.2.2.2.2.1, rfl⟩
theorem zd_14_110_15 : zz_D zy_takes_14_110 15 (.iaload) 1 16 := ⟨zq_46 zg_14_110_0.2.2.2.2.2.2.2.2.2.2.2.2.2.2.2.2.2.2.2.2.1, rfl⟩
theorem zd_14_110_16 : zz_D zy_takes_14_110 16 (.iconst 2) 1 17 := ⟨zq_5 zg_14_110_0.2.2.2.2.2.2.2.2.2.2.2.2.2.2.2.2.2.2.2.2.2, rfl⟩
theorem zg_14_110_17 : zq_at zy_takes_14_110.2.1 17 160 ∧ zq_at zy_takes_14_110.2.1 18 0 ∧ zq_at zy_takes_14_110.2.1 19 17 ∧ zq_at zy_takes_14_110.2.1 34 3 ∧ zq_at zy_takes_14_110.2.1 20 42 ∧ zq_at zy_takes_14_110.2.1 21 180 ∧ zq_at zy_takes_14_110.2.1 22 0 ∧ zq_at zy_takes_14_110.2.1 23 106 ∧ zq_at zy_takes_14_110.2.1 24 27 ∧ zq_at zy_takes_14_110.2.1 25 46 ∧ zq_at zy_takes_14_110.2.1 26 28 ∧ zq_at zy_takes_14_110.2.1 27 160 ∧ zq_at zy_takes_14_110.2.1 28 0 ∧ zq_at zy_takes_14_110.2.1 29 7 := by decide +kernel
theorem zd_14_110_17 : zz_B zy_takes_14_110 17 (Instr.if_icmp .ne) 34 20 := ⟨17, zq_160 zg_14_110_17.1 zg_14_110_17.2.1 zg_14_110_17.2.2.1 (by decide), rfl, rfl⟩
theorem zd_14_110_34 : zz_D zy_takes_14_110 34 (.iconst 0) 1 35 := ⟨zq_3 zg_14_110_17.2.2.2.1, rfl⟩
theorem zd_14_110_20 : zz_D zy_takes_14_110 20 (.aload_n 0) 1 21 := ⟨zq_42 zg_14_110_17.2.2.2.2.1, rfl⟩
theorem zd_14_110_21 : zz_D zy_takes_14_110 21 (.getfield 106) 3 24 := ⟨zq_180 zg_14_110_17.2.2.2.2.2.1 zg_14_110_17.2.2.2.2.2.2.1 zg_14_110_17.2.2.2.2.2.2.2.1 rfl, rfl⟩
theorem zd_14_110_24 : zz_D zy_takes_14_110 24 (.iload_n 1) 1 25 := ⟨zq_27 zg_14_110_17.2.2.2.2.2.2.2.2.1, rfl⟩
theorem zd_14_110_25 : zz_D zy_takes_14_110 25 (.iaload) 1 26 := ⟨zq_46 zg_14_110_17.2.2.2.2.2.2.2.2.2.1, rfl⟩
theorem zd_14_110_26 : zz_D zy_takes_14_110 26 (.iload_n 2) 1 27 := ⟨zq_28 zg_14_110_17.2.2.2.2.2.2.2.2.2.2.1, rfl⟩
theorem zd_14_110_27 : zz_B zy_takes_14_110 27 (Instr.if_icmp .ne) 34 30 := ⟨7, zq_160 zg_14_110_17.2.2.2.2.2.2.2.2.2.2.2.1 zg_14_110_17.2.2.2.2.2.2.2.2.2.2.2.2.1 zg_14_110_17.2.2.2.2.2.2.2.2.2.2.2.2.2 (by decide), rfl, rfl⟩
-- TensorForgeModel takes (II)Z
abbrev zr_takes_14_110 : Room := { frames := 0, cells := 0, slots := 0, locals := 0 }
def zp_takes_14_110 (p0 : Int) (p1 : Int) (S0 : zz_S) : Int → zz_S → Prop := fun r S => S0 = S ∧ (0 ≤ r ∧ r ≤ 1) ∧ ((r = 1 ∧ (S0 1107 p0.toNat = p1 ∨ (S0 1106 p0.toNat = 2 ∧ S0 1108 p0.toNat = p1))) ∨ (r = 0 ∧ ¬ (S0 1107 p0.toNat = p1 ∨ (S0 1106 p0.toNat = 2 ∧ S0 1108 p0.toNat = p1))))
theorem zc_takes_14_110 {g : mm_G} {l : Launch} (p0 : Int) (p1 : Int) (S0 : zz_S) (n : Nat) (hn : zz_end ≤ n) (G_S0 : zz_G S0) (hp0 : 0 ≤ p0 ∧ p0 ≤ 9) (hp1 : (-2147483648) ≤ p1 ∧ p1 ≤ 2147483647) : mm_Met g l zy_takes_14_110 zr_takes_14_110 [.ref 1079, zi p0, zi p1] (zz_M S0 n) n (zz_QI n (zp_takes_14_110 p0 p1 S0)) := by
  refine zz_enter (by decide) (Nat.le_of_ble_eq_true rfl) (zz_less (ls1 := [some (.ref 1079), some (zi p0), some (zi p1)]) ⟨rfl, ⟨rfl, ⟨rfl, trivial⟩⟩⟩ ?_)
  refine zz_aload_n (x := 1079) rfl zd_14_110_0 ?_
  refine zz_getr (kd := 0) (z := 1107) zd_14_110_1 zf_Md_103 zT_1079 rfl (zz_ltn hn rfl) (zz_G.eq G_S0 1079 42 1107 rfl rfl) (by decide) 1107 rfl ?_
  refine zz_iload_n (x := p0) rfl zd_14_110_4 ?_
  have g1 := zz_G.r G_S0 1107 p0.toNat 0 10 rfl rfl
  refine zz_iald (z := S0 1107 p0.toNat) zd_14_110_5 zT_1107 rfl (zz_ltn hn rfl) (by decide) (by omega) rfl ?_
  refine zz_iload_n (x := p1) rfl zd_14_110_6 ?_
  refine zz_icmp_eq (by omega) (by omega) zd_14_110_7 (fun c2 => ?_) (fun c2 => ?_)
  · refine zz_iconst zd_14_110_30 ?_
    refine zz_goto zd_14_110_31 ?_
    exact zz_zret zd_14_110_35 rfl (by omega) (Nat.zero_le _) (Nat.zero_le _) ⟨_, _, rfl, rfl, by omega, by omega⟩
  · refine zz_aload_n (x := 1079) rfl zd_14_110_10 ?_
    refine zz_getr (kd := 0) (z := 1106) zd_14_110_11 zf_Md_100 zT_1079 rfl (zz_ltn hn rfl) (zz_G.eq G_S0 1079 41 1106 rfl rfl) (by decide) 1106 rfl ?_
    refine zz_iload_n (x := p0) rfl zd_14_110_14 ?_
    have g3 := zz_G.r G_S0 1106 p0.toNat 0 2 rfl rfl
    refine zz_iald (z := S0 1106 p0.toNat) zd_14_110_15 zT_1106 rfl (zz_ltn hn rfl) (by decide) (by omega) rfl ?_
    refine zz_iconst zd_14_110_16 ?_
    refine zz_icmp_ne (by omega) (by omega) zd_14_110_17 (fun c4 => ?_) (fun c4 => ?_)
    · refine zz_iconst zd_14_110_34 ?_
      exact zz_zret zd_14_110_35 rfl (by omega) (Nat.zero_le _) (Nat.zero_le _) ⟨_, _, rfl, rfl, by omega, by omega⟩
    · refine zz_aload_n (x := 1079) rfl zd_14_110_20 ?_
      refine zz_getr (kd := 0) (z := 1108) zd_14_110_21 zf_Md_106 zT_1079 rfl (zz_ltn hn rfl) (zz_G.eq G_S0 1079 43 1108 rfl rfl) (by decide) 1108 rfl ?_
      refine zz_iload_n (x := p0) rfl zd_14_110_24 ?_
      have g5 := zz_G.r G_S0 1108 p0.toNat 0 10 rfl rfl
      refine zz_iald (z := S0 1108 p0.toNat) zd_14_110_25 zT_1108 rfl (zz_ltn hn rfl) (by decide) (by omega) rfl ?_
      refine zz_iload_n (x := p1) rfl zd_14_110_26 ?_
      refine zz_icmp_ne (by omega) (by omega) zd_14_110_27 (fun c6 => ?_) (fun c6 => ?_)
      · refine zz_iconst zd_14_110_34 ?_
        exact zz_zret zd_14_110_35 rfl (by omega) (Nat.zero_le _) (Nat.zero_le _) ⟨_, _, rfl, rfl, by omega, by omega⟩
      · refine zz_iconst zd_14_110_30 ?_
        refine zz_goto zd_14_110_31 ?_
        exact zz_zret zd_14_110_35 rfl (by omega) (Nat.zero_le _) (Nat.zero_le _) ⟨_, _, rfl, rfl, by omega, by omega⟩
abbrev zy_isNeeded_14_111 : mm_Y := (⟨"TensorForgeModel", "isNeeded", "(II)Z"⟩, prog_14_method_111_code, 6, (some .boolean))
theorem zyw_isNeeded_14_111 : mm_Yw zy_isNeeded_14_111 2 := ⟨mm_tb_1 2288 (by decide +kernel) rfl, mm_tb_1 12 (by decide +kernel) rfl, ⟨by decide, by decide⟩, by decide +kernel⟩
theorem zk_Md_613 : mm_Vl "TensorForgeModel" 613 11 2 zy_takes_14_110 := ⟨zyw_takes_14_110, (R_Md, F_Md, 69), rfl, mm_tb_1 2289 (by decide +kernel) rfl, mm_tb_1 2291 (by decide +kernel) rfl, mm_tb_s 158 (by decide +kernel) rfl⟩
theorem zg_14_111_0 : zq_at zy_isNeeded_14_111.2.1 0 3 ∧ zq_at zy_isNeeded_14_111.2.1 1 62 ∧ zq_at zy_isNeeded_14_111.2.1 2 3 ∧ zq_at zy_isNeeded_14_111.2.1 3 54 ∧ zq_at zy_isNeeded_14_111.2.1 4 4 ∧ zq_at zy_isNeeded_14_111.2.1 5 3 ∧ zq_at zy_isNeeded_14_111.2.1 6 54 ∧ zq_at zy_isNeeded_14_111.2.1 7 5 ∧ zq_at zy_isNeeded_14_111.2.1 8 21 ∧ zq_at zy_isNeeded_14_111.2.1 9 5 ∧ zq_at zy_isNeeded_14_111.2.1 10 42 ∧ zq_at zy_isNeeded_14_111.2.1 11 180 ∧ zq_at zy_isNeeded_14_111.2.1 12 0 ∧ zq_at zy_isNeeded_14_111.2.1 13 85 ∧ zq_at zy_isNeeded_14_111.2.1 14 4 ∧ zq_at zy_isNeeded_14_111.2.1 15 100 ∧ zq_at zy_isNeeded_14_111.2.1 16 162 ∧ zq_at zy_isNeeded_14_111.2.1 17 0 ∧ zq_at zy_isNeeded_14_111.2.1 18 57 ∧ zq_at zy_isNeeded_14_111.2.1 73 21 ∧ zq_at zy_isNeeded_14_111.2.1 74 4 ∧ zq_at zy_isNeeded_14_111.2.1 75 154 ∧ zq_at zy_isNeeded_14_111.2.1 76 0 ∧ zq_at zy_isNeeded_14_111.2.1 77 7 := by decide +kernel
theorem zd_14_111_0 : zz_D zy_isNeeded_14_111 0 (.iconst 0) 1 1 := ⟨zq_3 zg_14_111_0.1, rfl⟩
theorem zd_14_111_1 : zz_D zy_isNeeded_14_111 1 (.istore_n 3) 1 2 := ⟨zq_62 zg_14_111_0.2.1, rfl⟩
theorem zd_14_111_2 : zz_D zy_isNeeded_14_111 2 (.iconst 0) 1 3 := ⟨zq_3 zg_14_111_0.2.2.1, rfl⟩
theorem zd_14_111_3 : zz_D zy_isNeeded_14_111 3 (.istore 4) 2 5 := ⟨zq_54 zg_14_111_0.2.2.2.1 zg_14_111_0.2.2.2.2.1, rfl⟩
theorem zd_14_111_5 : zz_D zy_isNeeded_14_111 5 (.iconst 0) 1 6 := ⟨zq_3 zg_14_111_0.2.2.2.2.2.1, rfl⟩
theorem zd_14_111_6 : zz_D zy_isNeeded_14_111 6 (.istore 5) 2 8 := ⟨zq_54 zg_14_111_0.2.2.2.2.2.2.1 zg_14_111_0.2.2.2.2.2.2.2.1, rfl⟩
theorem zd_14_111_8 : zz_D zy_isNeeded_14_111 8 (.iload 5) 2 10 := ⟨zq_21 zg_14_111_0.2.2.2.2.2.2.2.2.1 zg_14_111_0.2.2.2.2.2.2.2.2.2.1, rfl⟩
theorem zd_14_111_10 : zz_D zy_isNeeded_14_111 10 (.aload_n 0) 1 11 := ⟨zq_42 zg_14_111_0.2.2.2.2.2.2.2.2.2.2.1, rfl⟩
theorem zd_14_111_11 : zz_D zy_isNeeded_14_111 11 (.getfield 85) 3 14 := ⟨zq_180 zg_14_111_0.2.2.2.2.2.2.2.2.2.2.2.1 zg_14_111_0.2.2.2.2.2.2.2.2.2.2.2.2.1 zg_14_111_0.2.2.2.2.2.2.2.2.2.2.2.2.2.1 rfl, rfl⟩
theorem zd_14_111_14 : zz_D zy_isNeeded_14_111 14 (.iconst 1) 1 15 := ⟨zq_4 zg_14_111_0.2.2.2.2.2.2.2.2.2.2.2.2.2.2.1, rfl⟩
theorem zd_14_111_15 : zz_D zy_isNeeded_14_111 15 (.isub) 1 16 := ⟨zq_100 zg_14_111_0.2.2.2.2.2.2.2.2.2.2.2.2.2.2.2.1, rfl⟩
theorem zd_14_111_16 : zz_B zy_isNeeded_14_111 16 (Instr.if_icmp .ge) 73 19 := ⟨57, zq_162 zg_14_111_0.2.2.2.2.2.2.2.2.2.2.2.2.2.2.2.2.1 zg_14_111_0.2.2.2.2.2.2.2.2.2.2.2.2.2.2.2.2.2.1 zg_14_111_0.2.2.2.2.2.2.2.2.2.2.2.2.2.2.2.2.2.2.1 (by decide), rfl, rfl⟩
theorem zd_14_111_73 : zz_D zy_isNeeded_14_111 73 (.iload 4) 2 75 := ⟨zq_21 zg_14_111_0.2.2.2.2.2.2.2.2.2.2.2.2.2.2.2.2.2.2.2.1 zg_14_111_0.2.2.2.2.2.2.2.2.2.2.2.2.2.2.2.2.2.2.2.2.1, rfl⟩
theorem zd_14_111_75 : zz_B zy_isNeeded_14_111 75 (Instr.ifCond .ne) 82 78 := ⟨7, zq_154 zg_14_111_0.2.2.2.2.2.2.2.2.2.2.2.2.2.2.2.2.2.2.2.2.2.1 zg_14_111_0.2.2.2.2.2.2.2.2.2.2.2.2.2.2.2.2.2.2.2.2.2.2.1 zg_14_111_0.2.2.2.2.2.2.2.2.2.2.2.2.2.2.2.2.2.2.2.2.2.2.2 (by decide), rfl, rfl⟩
theorem zg_14_111_82 : zq_at zy_isNeeded_14_111.2.1 82 4 ∧ zq_at zy_isNeeded_14_111.2.1 83 167 ∧ zq_at zy_isNeeded_14_111.2.1 84 0 ∧ zq_at zy_isNeeded_14_111.2.1 85 4 ∧ zq_at zy_isNeeded_14_111.2.1 87 172 ∧ zq_at zy_isNeeded_14_111.2.1 78 29 ∧ zq_at zy_isNeeded_14_111.2.1 79 154 ∧ zq_at zy_isNeeded_14_111.2.1 80 0 ∧ zq_at zy_isNeeded_14_111.2.1 81 7 ∧ zq_at zy_isNeeded_14_111.2.1 86 3 ∧ zq_at zy_isNeeded_14_111.2.1 19 29 ∧ zq_at zy_isNeeded_14_111.2.1 20 154 ∧ zq_at zy_isNeeded_14_111.2.1 21 0 ∧ zq_at zy_isNeeded_14_111.2.1 22 13 ∧ zq_at zy_isNeeded_14_111.2.1 33 4 ∧ zq_at zy_isNeeded_14_111.2.1 34 167 ∧ zq_at zy_isNeeded_14_111.2.1 35 0 ∧ zq_at zy_isNeeded_14_111.2.1 36 4 ∧ zq_at zy_isNeeded_14_111.2.1 38 62 ∧ zq_at zy_isNeeded_14_111.2.1 39 21 ∧ zq_at zy_isNeeded_14_111.2.1 40 4 ∧ zq_at zy_isNeeded_14_111.2.1 41 154 ∧ zq_at zy_isNeeded_14_111.2.1 42 0 ∧ zq_at zy_isNeeded_14_111.2.1 43 19 := by decide +kernel
theorem zd_14_111_82 : zz_D zy_isNeeded_14_111 82 (.iconst 1) 1 83 := ⟨zq_4 zg_14_111_82.1, rfl⟩
theorem zd_14_111_83 : zz_B zy_isNeeded_14_111 83 Instr.goto 87 86 := ⟨4, zq_167 zg_14_111_82.2.1 zg_14_111_82.2.2.1 zg_14_111_82.2.2.2.1 (by decide), rfl, rfl⟩
theorem zd_14_111_87 : zz_D zy_isNeeded_14_111 87 (.ireturn) 1 88 := ⟨zq_172 zg_14_111_82.2.2.2.2.1, rfl⟩
theorem zd_14_111_78 : zz_D zy_isNeeded_14_111 78 (.iload_n 3) 1 79 := ⟨zq_29 zg_14_111_82.2.2.2.2.2.1, rfl⟩
theorem zd_14_111_79 : zz_B zy_isNeeded_14_111 79 (Instr.ifCond .ne) 86 82 := ⟨7, zq_154 zg_14_111_82.2.2.2.2.2.2.1 zg_14_111_82.2.2.2.2.2.2.2.1 zg_14_111_82.2.2.2.2.2.2.2.2.1 (by decide), rfl, rfl⟩
theorem zd_14_111_86 : zz_D zy_isNeeded_14_111 86 (.iconst 0) 1 87 := ⟨zq_3 zg_14_111_82.2.2.2.2.2.2.2.2.2.1, rfl⟩
theorem zd_14_111_19 : zz_D zy_isNeeded_14_111 19 (.iload_n 3) 1 20 := ⟨zq_29 zg_14_111_82.2.2.2.2.2.2.2.2.2.2.1, rfl⟩
theorem zd_14_111_20 : zz_B zy_isNeeded_14_111 20 (Instr.ifCond .ne) 33 23 := ⟨13, zq_154 zg_14_111_82.2.2.2.2.2.2.2.2.2.2.2.1 zg_14_111_82.2.2.2.2.2.2.2.2.2.2.2.2.1 zg_14_111_82.2.2.2.2.2.2.2.2.2.2.2.2.2.1 (by decide), rfl, rfl⟩
theorem zd_14_111_33 : zz_D zy_isNeeded_14_111 33 (.iconst 1) 1 34 := ⟨zq_4 zg_14_111_82.2.2.2.2.2.2.2.2.2.2.2.2.2.2.1, rfl⟩
theorem zd_14_111_34 : zz_B zy_isNeeded_14_111 34 Instr.goto 38 37 := ⟨4, zq_167 zg_14_111_82.2.2.2.2.2.2.2.2.2.2.2.2.2.2.2.1 zg_14_111_82.2.2.2.2.2.2.2.2.2.2.2.2.2.2.2.2.1 zg_14_111_82.2.2.2.2.2.2.2.2.2.2.2.2.2.2.2.2.2.1 (by decide), rfl, rfl⟩
theorem zd_14_111_38 : zz_D zy_isNeeded_14_111 38 (.istore_n 3) 1 39 := ⟨zq_62 zg_14_111_82.2.2.2.2.2.2.2.2.2.2.2.2.2.2.2.2.2.2.1, rfl⟩
theorem zd_14_111_39 : zz_D zy_isNeeded_14_111 39 (.iload 4) 2 41 := ⟨zq_21 zg_14_111_82.2.2.2.2.2.2.2.2.2.2.2.2.2.2.2.2.2.2.2.1 zg_14_111_82.2.2.2.2.2.2.2.2.2.2.2.2.2.2.2.2.2.2.2.2.1, rfl⟩
theorem zd_14_111_41 : zz_B zy_isNeeded_14_111 41 (Instr.ifCond .ne) 60 44 := ⟨19, zq_154 zg_14_111_82.2.2.2.2.2.2.2.2.2.2.2.2.2.2.2.2.2.2.2.2.2.1 zg_14_111_82.2.2.2.2.2.2.2.2.2.2.2.2.2.2.2.2.2.2.2.2.2.2.1 zg_14_111_82.2.2.2.2.2.2.2.2.2.2.2.2.2.2.2.2.2.2.2.2.2.2.2 (by decide), rfl, rfl⟩
theorem zg_14_111_60 : zq_at zy_isNeeded_14_111.2.1 60 4 ∧ zq_at zy_isNeeded_14_111.2.1 61 167 ∧ zq_at zy_isNeeded_14_111.2.1 62 0 ∧ zq_at zy_isNeeded_14_111.2.1 63 4 ∧ zq_at zy_isNeeded_14_111.2.1 65 54 ∧ zq_at zy_isNeeded_14_111.2.1 66 4 ∧ zq_at zy_isNeeded_14_111.2.1 67 132 ∧ zq_at zy_isNeeded_14_111.2.1 68 5 ∧ zq_at zy_isNeeded_14_111.2.1 69 1 ∧ zq_at zy_isNeeded_14_111.2.1 70 167 ∧ zq_at zy_isNeeded_14_111.2.1 71 255 ∧ zq_at zy_isNeeded_14_111.2.1 72 194 ∧ zq_at zy_isNeeded_14_111.2.1 44 21 ∧ zq_at zy_isNeeded_14_111.2.1 45 5 ∧ zq_at zy_isNeeded_14_111.2.1 46 28 ∧ zq_at zy_isNeeded_14_111.2.1 47 161 ∧ zq_at zy_isNeeded_14_111.2.1 48 0 ∧ zq_at zy_isNeeded_14_111.2.1 49 17 ∧ zq_at zy_isNeeded_14_111.2.1 64 3 ∧ zq_at zy_isNeeded_14_111.2.1 50 42 ∧ zq_at zy_isNeeded_14_111.2.1 51 21 ∧ zq_at zy_isNeeded_14_111.2.1 52 5 ∧ zq_at zy_isNeeded_14_111.2.1 53 27 := by decide +kernel
theorem zd_14_111_60 : zz_D zy_isNeeded_14_111 60 (.iconst 1) 1 61 := ⟨zq_4 zg_14_111_60.1, rfl⟩
theorem zd_14_111_61 : zz_B zy_isNeeded_14_111 61 Instr.goto 65 64 := ⟨4, zq_167 zg_14_111_60.2.1 zg_14_111_60.2.2.1 zg_14_111_60.2.2.2.1 (by decide), rfl, rfl⟩
theorem zd_14_111_65 : zz_D zy_isNeeded_14_111 65 (.istore 4) 2 67 := ⟨zq_54 zg_14_111_60.2.2.2.2.1 zg_14_111_60.2.2.2.2.2.1, rfl⟩
theorem zd_14_111_67 : zz_D zy_isNeeded_14_111 67 (.iinc 5 1) 3 70 := ⟨zq_132 zg_14_111_60.2.2.2.2.2.2.1 zg_14_111_60.2.2.2.2.2.2.2.1 zg_14_111_60.2.2.2.2.2.2.2.2.1 (by decide), rfl⟩
theorem zd_14_111_70 : zz_B zy_isNeeded_14_111 70 Instr.goto 8 73 := ⟨(-62), zq_167 zg_14_111_60.2.2.2.2.2.2.2.2.2.1 zg_14_111_60.2.2.2.2.2.2.2.2.2.2.1 zg_14_111_60.2.2.2.2.2.2.2.2.2.2.2.1 (by decide), rfl, rfl⟩
theorem zd_14_111_44 : zz_D zy_isNeeded_14_111 44 (.iload 5) 2 46 := ⟨zq_21 zg_14_111_60.2.2.2.2.2.2.2.2.2.2.2.2.1 zg_14_111_60.2.2.2.2.2.2.2.2.2.2.2.2.2.1, rfl⟩
theorem zd_14_111_46 : zz_D zy_isNeeded_14_111 46 (.iload_n 2) 1 47 := ⟨zq_28 zg_14_111_60.2.2.2.2.2.2.2.2.2.2.2.2.2.2.1, rfl⟩
theorem zd_14_111_47 : zz_B zy_isNeeded_14_111 47 (Instr.if_icmp .lt) 64 50 := ⟨17, zq_161 zg_14_111_60.2.2.2.2.2.2.2.2.2.2.2.2.2.2.2.1 zg_14_111_60.2.2.2.2.2.2.2.2.2.2.2.2.2.2.2.2.1 zg_14_111_60.2.2.2.2.2.2.2.2.2.2.2.2.2.2.2.2.2.1 (by decide), rfl, rfl⟩
theorem zd_14_111_64 : zz_D zy_isNeeded_14_111 64 (.iconst 0) 1 65 := ⟨zq_3 zg_14_111_60.2.2.2.2.2.2.2.2.2.2.2.2.2.2.2.2.2.2.1, rfl⟩
theorem zd_14_111_50 : zz_D zy_isNeeded_14_111 50 (.aload_n 0) 1 51 := ⟨zq_42 zg_14_111_60.2.2.2.2.2.2.2.2.2.2.2.2.2.2.2.2.2.2.2.1, rfl⟩
theorem zd_14_111_51 : zz_D zy_isNeeded_14_111 51 (.iload 5) 2 53 := ⟨zq_21 zg_14_111_60.2.2.2.2.2.2.2.2.2.2.2.2.2.2.2.2.2.2.2.2.1 zg_14_111_60.2.2.2.2.2.2.2.2.2.2.2.2.2.2.2.2.2.2.2.2.2.1, rfl⟩
theorem zd_14_111_53 : zz_D zy_isNeeded_14_111 53 (.iload_n 1) 1 54 := ⟨zq_27 zg_14_111_60.2.2.2.2.2.2.2.2.2.2.2.2.2.2.2.2.2.2.2.2.2.2, rfl⟩
theorem zg_14_111_54 : zq_at zy_isNeeded_14_111.2.1 54 182 ∧ zq_at zy_isNeeded_14_111.2.1 55 2 ∧ zq_at zy_isNeeded_14_111.2.1 56 101 ∧ zq_at zy_isNeeded_14_111.2.1 57 153 ∧ zq_at zy_isNeeded_14_111.2.1 58 0 ∧ zq_at zy_isNeeded_14_111.2.1 59 7 ∧ zq_at zy_isNeeded_14_111.2.1 23 42 ∧ zq_at zy_isNeeded_14_111.2.1 24 21 ∧ zq_at zy_isNeeded_14_111.2.1 25 5 ∧ zq_at zy_isNeeded_14_111.2.1 26 27 ∧ zq_at zy_isNeeded_14_111.2.1 27 182 ∧ zq_at zy_isNeeded_14_111.2.1 28 2 ∧ zq_at zy_isNeeded_14_111.2.1 29 101 ∧ zq_at zy_isNeeded_14_111.2.1 30 153 ∧ zq_at zy_isNeeded_14_111.2.1 31 0 ∧ zq_at zy_isNeeded_14_111.2.1 32 7 ∧ zq_at zy_isNeeded_14_111.2.1 37 3 := by decide +kernel
theorem zd_14_111_54 : zz_D zy_isNeeded_14_111 54 (.invokevirtual 613) 3 57 := ⟨zq_182 zg_14_111_54.1 zg_14_111_54.2.1 zg_14_111_54.2.2.1 rfl, rfl⟩
theorem zd_14_111_57 : zz_B zy_isNeeded_14_111 57 (Instr.ifCond .eq) 64 60 := ⟨7, zq_153 zg_14_111_54.2.2.2.1 zg_14_111_54.2.2.2.2.1 zg_14_111_54.2.2.2.2.2.1 (by decide), rfl, rfl⟩
theorem zd_14_111_23 : zz_D zy_isNeeded_14_111 23 (.aload_n 0) 1 24 := ⟨zq_42 zg_14_111_54.2.2.2.2.2.2.1, rfl⟩
theorem zd_14_111_24 : zz_D zy_isNeeded_14_111 24 (.iload 5) 2 26 := ⟨zq_21 zg_14_111_54.2.2.2.2.2.2.2.1 zg_14_111_54.2.2.2.2.2.2.2.2.1, rfl⟩
theorem zd_14_111_26 : zz_D zy_isNeeded_14_111 26 (.iload_n 1) 1 27 := ⟨zq_27 zg_14_111_54.2.2.2.2.2.2.2.2.2.1, rfl⟩
theorem zd_14_111_27 : zz_D zy_isNeeded_14_111 27 (.invokevirtual 613) 3 30 := ⟨zq_182 zg_14_111_54.2.2.2.2.2.2.2.2.2.2.1 zg_14_111_54.2.2.2.2.2.2.2.2.2.2.2.1 zg_14_111_54.2.2.2.2.2.2.2.2.2.2.2.2.1 rfl, rfl⟩
theorem zd_14_111_30 : zz_B zy_isNeeded_14_111 30 (Instr.ifCond .eq) 37 33 := ⟨7, zq_153 zg_14_111_54.2.2.2.2.2.2.2.2.2.2.2.2.2.1 zg_14_111_54.2.2.2.2.2.2.2.2.2.2.2.2.2.2.1 zg_14_111_54.2.2.2.2.2.2.2.2.2.2.2.2.2.2.2.1 (by decide), rfl, rfl⟩
theorem zd_14_111_37 : zz_D zy_isNeeded_14_111 37 (.iconst 0) 1 38 := ⟨zq_3 zg_14_111_54.2.2.2.2.2.2.2.2.2.2.2.2.2.2.2.2, rfl⟩
-- TensorForgeModel isNeeded (II)Z
abbrev zr_isNeeded_14_111 : Room := { frames := 1, cells := 0, slots := 0, locals := 14 }
def zp_isNeeded_14_111 (p0 : Int) (p1 : Int) (S0 : zz_S) : Int → zz_S → Prop := fun r S => S0 = S ∧ (0 ≤ r ∧ r ≤ 1) ∧ (zn_RD S0 p0 (p1 + 1) r)
theorem zb_isNeeded_14_111_8 {g : mm_G} {l : Launch} (p0 : Int) (p1 : Int) (S0 : zz_S) (n : Nat) (hn : zz_end ≤ n) (G_S0 : zz_G S0) (hp0 : (-2147483648) ≤ p0 ∧ p0 ≤ 2147483647) (hp1 : (-2147483648) ≤ p1 ∧ p1 ≤ 2147483647) (x3 : Int) (x4 : Int) (x5 : Int) (S : zz_S) (G_S : zz_G S) (F_S : zz_fr [] [] (fun _ _ => False) S0 S) (i8_0 : 0 ≤ x3 ∧ x3 ≤ 1) (i8_1 : 0 ≤ x4 ∧ x4 ≤ 1) (i8_2 : 0 ≤ x5 ∧ x5 ≤ 10) (i8_3 : x5 + 1 ≤ S0 1079 36 ∨ x5 = 0) (i8_4 : zn_RN S0 p0 (p1 + 1) x3 x4 (x5 + 1)) (R : Nat) (hR : (2147483647 - x5).toNat = R) (k8 : ∀ (x3 : Int) (x4 : Int) (x5 : Int) (S : zz_S), zz_G S → zz_fr [] [] (fun _ _ => False) S0 S → (0 ≤ x3 ∧ x3 ≤ 1) → (0 ≤ x4 ∧ x4 ≤ 1) → (0 ≤ x5 ∧ x5 ≤ 10) → (x5 + 1 ≤ S0 1079 36 ∨ x5 = 0) → (zn_RN S0 p0 (p1 + 1) x3 x4 (x5 + 1)) → (2147483647 - x5).toNat < R → zz_E g l zy_isNeeded_14_111 zr_isNeeded_14_111 (zz_QI n (zp_isNeeded_14_111 p0 p1 S0)) S n 8 [some (.ref 1079), some (zi p0), some (zi p1), some (zi x3), some (zi x4), some (zi x5)] [] 0 0) : zz_E g l zy_isNeeded_14_111 zr_isNeeded_14_111 (zz_QI n (zp_isNeeded_14_111 p0 p1 S0)) S n 8 [some (.ref 1079), some (zi p0), some (zi p1), some (zi x3), some (zi x4), some (zi x5)] [] 0 0 := by
  refine zz_iload (x := x5) rfl zd_14_111_8 ?_
  refine zz_aload_n (x := 1079) rfl zd_14_111_10 ?_
  have g2 := zz_G.r G_S0 1079 36 0 11 rfl rfl
  refine zz_geti (z := S0 1079 36) zd_14_111_11 zf_Md_85 zT_1079 rfl (zz_ltn hn rfl) (zz_rc F_S rfl rfl (fun h => h) rfl) ?_
  refine zz_iconst zd_14_111_14 ?_
  refine zz_isub zd_14_111_15 ?_
  refine zz_icmp_ge (by omega) (by omega) zd_14_111_16 (fun c3 => ?_) (fun c3 => ?_)
  · refine zz_iload (x := x4) rfl zd_14_111_73 ?_
    refine zz_if_ne (by omega) zd_14_111_75 (fun c4 => ?_) (fun c4 => ?_)
    · refine zz_iconst zd_14_111_82 ?_
      refine zz_goto zd_14_111_83 ?_
      exact zz_zret zd_14_111_87 rfl (by omega) (Nat.zero_le _) (Nat.zero_le _) ⟨_, _, rfl, zz_fr.eq F_S, by omega, (zn_RDe i8_4 (by omega) (by omega))⟩
    · refine zz_iload_n (x := x3) rfl zd_14_111_78 ?_
      refine zz_if_ne (by omega) zd_14_111_79 (fun c5 => ?_) (fun c5 => ?_)
      · refine zz_iconst zd_14_111_86 ?_
        exact zz_zret zd_14_111_87 rfl (by omega) (Nat.zero_le _) (Nat.zero_le _) ⟨_, _, rfl, zz_fr.eq F_S, by omega, (zn_RDe i8_4 (by omega) (by omega))⟩
      · refine zz_iconst zd_14_111_82 ?_
        refine zz_goto zd_14_111_83 ?_
        exact zz_zret zd_14_111_87 rfl (by omega) (Nat.zero_le _) (Nat.zero_le _) ⟨_, _, rfl, zz_fr.eq F_S, by omega, (zn_RDe i8_4 (by omega) (by omega))⟩
  · refine zz_iload_n (x := x3) rfl zd_14_111_19 ?_
    refine zz_if_ne (by omega) zd_14_111_20 (fun c6 => ?_) (fun c6 => ?_)
    · refine zz_iconst zd_14_111_33 ?_
      refine zz_goto zd_14_111_34 ?_
      refine zz_istore_n [some (.ref 1079), some (zi p0), some (zi p1), some (zi 1), some (zi x4), some (zi x5)] zd_14_111_38 (by decide) rfl ?_
      refine zz_iload (x := x4) rfl zd_14_111_39 ?_
      refine zz_if_ne (by omega) zd_14_111_41 (fun c7 => ?_) (fun c7 => ?_)
      · refine zz_iconst zd_14_111_60 ?_
        refine zz_goto zd_14_111_61 ?_
        refine zz_istore [some (.ref 1079), some (zi p0), some (zi p1), some (zi 1), some (zi 1), some (zi x5)] zd_14_111_65 (by decide) rfl ?_
        refine zz_iinc [some (.ref 1079), some (zi p0), some (zi p1), some (zi 1), some (zi 1), some (zi (x5 + 1))] zd_14_111_67 rfl rfl ?_
        refine zz_goto zd_14_111_70 ?_
        refine zz_less (ls1 := [some (.ref 1079), some (zi p0), some (zi p1), some (zi 1), some (zi 1), some (zi (x5 + 1))]) ⟨rfl, ⟨rfl, ⟨rfl, ⟨rfl, ⟨rfl, ⟨rfl, trivial⟩⟩⟩⟩⟩⟩ ?_
        exact k8 1 1 (x5 + 1) S G_S F_S (by omega) (by omega) (by omega) (by omega) (zn_RNs (l := x5) i8_4 rfl (by omega) (by omega) rfl (by omega) (by omega)) (by omega)
      · refine zz_iload (x := x5) rfl zd_14_111_44 ?_
        refine zz_iload_n (x := p1) rfl zd_14_111_46 ?_
        refine zz_icmp_lt (by omega) (by omega) zd_14_111_47 (fun c8 => ?_) (fun c8 => ?_)
        · refine zz_iconst zd_14_111_64 ?_
          refine zz_istore [some (.ref 1079), some (zi p0), some (zi p1), some (zi 1), some (zi 0), some (zi x5)] zd_14_111_65 (by decide) rfl ?_
          refine zz_iinc [some (.ref 1079), some (zi p0), some (zi p1), some (zi 1), some (zi 0), some (zi (x5 + 1))] zd_14_111_67 rfl rfl ?_
          refine zz_goto zd_14_111_70 ?_
          refine zz_less (ls1 := [some (.ref 1079), some (zi p0), some (zi p1), some (zi 1), some (zi 0), some (zi (x5 + 1))]) ⟨rfl, ⟨rfl, ⟨rfl, ⟨rfl, ⟨rfl, ⟨rfl, trivial⟩⟩⟩⟩⟩⟩ ?_
          exact k8 1 0 (x5 + 1) S G_S F_S (by omega) (by omega) (by omega) (by omega) (zn_RNs (l := x5) i8_4 rfl (by omega) (by omega) rfl (by omega) (by omega)) (by omega)
        · refine zz_aload_n (x := 1079) rfl zd_14_111_50 ?_
          refine zz_iload (x := x5) rfl zd_14_111_51 ?_
          refine zz_iload_n (x := p0) rfl zd_14_111_53 ?_
          have g9 := zz_G.r G_S0 1106 x5.toNat 0 2 rfl rfl
          have e10 : S 1106 x5.toNat = S0 1106 x5.toNat := (zz_rc F_S (zz_nc1 rfl) rfl (fun h => h) rfl)
          have g11 := zz_G.r G_S0 1107 x5.toNat 0 10 rfl rfl
          have e12 : S 1107 x5.toNat = S0 1107 x5.toNat := (zz_rc F_S (zz_nc1 rfl) rfl (fun h => h) rfl)
          have g13 := zz_G.r G_S0 1108 x5.toNat 0 10 rfl rfl
          have e14 : S 1108 x5.toNat = S0 1108 x5.toNat := (zz_rc F_S (zz_nc1 rfl) rfl (fun h => h) rfl)
          refine zz_callVI [zi x5, zi p0] zd_14_111_54 zk_Md_613 zT_1079 (zz_ltn hn rfl) rfl rfl ⟨Nat.le_of_ble_eq_true rfl, Nat.le_of_ble_eq_true rfl⟩ ⟨rfl, rfl⟩ (Nat.zero_le _) (Nat.zero_le _) (zc_takes_14_110 x5 p0 S n hn G_S (by omega) (by omega)) (fun v16 S15 hP => ?_)
          obtain ⟨rfl, o17, o18⟩ := hP
          rcases (by omega : v16 = 0 ∨ v16 = 1) with rfl | rfl
          · rw [← zz_fr.eq F_S] at o18
            refine zz_if_eq (by omega) zd_14_111_57 (fun c19 => ?_) (fun c19 => ?_)
            · refine zz_iconst zd_14_111_64 ?_
              refine zz_istore [some (.ref 1079), some (zi p0), some (zi p1), some (zi 1), some (zi 0), some (zi x5)] zd_14_111_65 (by decide) rfl ?_
              refine zz_iinc [some (.ref 1079), some (zi p0), some (zi p1), some (zi 1), some (zi 0), some (zi (x5 + 1))] zd_14_111_67 rfl rfl ?_
              refine zz_goto zd_14_111_70 ?_
              refine zz_less (ls1 := [some (.ref 1079), some (zi p0), some (zi p1), some (zi 1), some (zi 0), some (zi (x5 + 1))]) ⟨rfl, ⟨rfl, ⟨rfl, ⟨rfl, ⟨rfl, ⟨rfl, trivial⟩⟩⟩⟩⟩⟩ ?_
              exact k8 1 0 (x5 + 1) S G_S F_S (by omega) (by omega) (by omega) (by omega) (zn_RNs (l := x5) i8_4 rfl (by omega) (by omega) rfl (by omega) (by omega)) (by omega)
            · exfalso; omega
          · rw [← zz_fr.eq F_S] at o18
            refine zz_if_eq (by omega) zd_14_111_57 (fun c20 => ?_) (fun c20 => ?_)
            · exfalso; omega
            · refine zz_iconst zd_14_111_60 ?_
              refine zz_goto zd_14_111_61 ?_
              refine zz_istore [some (.ref 1079), some (zi p0), some (zi p1), some (zi 1), some (zi 1), some (zi x5)] zd_14_111_65 (by decide) rfl ?_
              refine zz_iinc [some (.ref 1079), some (zi p0), some (zi p1), some (zi 1), some (zi 1), some (zi (x5 + 1))] zd_14_111_67 rfl rfl ?_
              refine zz_goto zd_14_111_70 ?_
              refine zz_less (ls1 := [some (.ref 1079), some (zi p0), some (zi p1), some (zi 1), some (zi 1), some (zi (x5 + 1))]) ⟨rfl, ⟨rfl, ⟨rfl, ⟨rfl, ⟨rfl, ⟨rfl, trivial⟩⟩⟩⟩⟩⟩ ?_
              exact k8 1 1 (x5 + 1) S G_S F_S (by omega) (by omega) (by omega) (by omega) (zn_RNs (l := x5) i8_4 rfl (by omega) (by omega) rfl (by omega) (by omega)) (by omega)
    · refine zz_aload_n (x := 1079) rfl zd_14_111_23 ?_
      refine zz_iload (x := x5) rfl zd_14_111_24 ?_
      refine zz_iload_n (x := p0) rfl zd_14_111_26 ?_
      have g21 := zz_G.r G_S0 1106 x5.toNat 0 2 rfl rfl
      have e22 : S 1106 x5.toNat = S0 1106 x5.toNat := (zz_rc F_S (zz_nc1 rfl) rfl (fun h => h) rfl)
      have g23 := zz_G.r G_S0 1107 x5.toNat 0 10 rfl rfl
      have e24 : S 1107 x5.toNat = S0 1107 x5.toNat := (zz_rc F_S (zz_nc1 rfl) rfl (fun h => h) rfl)
      have g25 := zz_G.r G_S0 1108 x5.toNat 0 10 rfl rfl
      have e26 : S 1108 x5.toNat = S0 1108 x5.toNat := (zz_rc F_S (zz_nc1 rfl) rfl (fun h => h) rfl)
      refine zz_callVI [zi x5, zi p0] zd_14_111_27 zk_Md_613 zT_1079 (zz_ltn hn rfl) rfl rfl ⟨Nat.le_of_ble_eq_true rfl, Nat.le_of_ble_eq_true rfl⟩ ⟨rfl, rfl⟩ (Nat.zero_le _) (Nat.zero_le _) (zc_takes_14_110 x5 p0 S n hn G_S (by omega) (by omega)) (fun v28 S27 hP => ?_)
      obtain ⟨rfl, o29, o30⟩ := hP
      rcases (by omega : v28 = 0 ∨ v28 = 1) with rfl | rfl
      · rw [← zz_fr.eq F_S] at o30
        refine zz_if_eq (by omega) zd_14_111_30 (fun c31 => ?_) (fun c31 => ?_)
        · refine zz_iconst zd_14_111_37 ?_
          refine zz_istore_n [some (.ref 1079), some (zi p0), some (zi p1), some (zi 0), some (zi x4), some (zi x5)] zd_14_111_38 (by decide) rfl ?_
          refine zz_iload (x := x4) rfl zd_14_111_39 ?_
          refine zz_if_ne (by omega) zd_14_111_41 (fun c32 => ?_) (fun c32 => ?_)
          · refine zz_iconst zd_14_111_60 ?_
            refine zz_goto zd_14_111_61 ?_
            refine zz_istore [some (.ref 1079), some (zi p0), some (zi p1), some (zi 0), some (zi 1), some (zi x5)] zd_14_111_65 (by decide) rfl ?_
            refine zz_iinc [some (.ref 1079), some (zi p0), some (zi p1), some (zi 0), some (zi 1), some (zi (x5 + 1))] zd_14_111_67 rfl rfl ?_
            refine zz_goto zd_14_111_70 ?_
            refine zz_less (ls1 := [some (.ref 1079), some (zi p0), some (zi p1), some (zi 0), some (zi 1), some (zi (x5 + 1))]) ⟨rfl, ⟨rfl, ⟨rfl, ⟨rfl, ⟨rfl, ⟨rfl, trivial⟩⟩⟩⟩⟩⟩ ?_
            exact k8 0 1 (x5 + 1) S G_S F_S (by omega) (by omega) (by omega) (by omega) (zn_RNs (l := x5) i8_4 rfl (by omega) (by omega) rfl (by omega) (by omega)) (by omega)
          · refine zz_iload (x := x5) rfl zd_14_111_44 ?_
            refine zz_iload_n (x := p1) rfl zd_14_111_46 ?_
            refine zz_icmp_lt (by omega) (by omega) zd_14_111_47 (fun c33 => ?_) (fun c33 => ?_)
            · refine zz_iconst zd_14_111_64 ?_
              refine zz_istore [some (.ref 1079), some (zi p0), some (zi p1), some (zi 0), some (zi 0), some (zi x5)] zd_14_111_65 (by decide) rfl ?_
              refine zz_iinc [some (.ref 1079), some (zi p0), some (zi p1), some (zi 0), some (zi 0), some (zi (x5 + 1))] zd_14_111_67 rfl rfl ?_
              refine zz_goto zd_14_111_70 ?_
              refine zz_less (ls1 := [some (.ref 1079), some (zi p0), some (zi p1), some (zi 0), some (zi 0), some (zi (x5 + 1))]) ⟨rfl, ⟨rfl, ⟨rfl, ⟨rfl, ⟨rfl, ⟨rfl, trivial⟩⟩⟩⟩⟩⟩ ?_
              exact k8 0 0 (x5 + 1) S G_S F_S (by omega) (by omega) (by omega) (by omega) (zn_RNs (l := x5) i8_4 rfl (by omega) (by omega) rfl (by omega) (by omega)) (by omega)
            · refine zz_aload_n (x := 1079) rfl zd_14_111_50 ?_
              refine zz_iload (x := x5) rfl zd_14_111_51 ?_
              refine zz_iload_n (x := p0) rfl zd_14_111_53 ?_
              refine zz_callVI [zi x5, zi p0] zd_14_111_54 zk_Md_613 zT_1079 (zz_ltn hn rfl) rfl rfl ⟨Nat.le_of_ble_eq_true rfl, Nat.le_of_ble_eq_true rfl⟩ ⟨rfl, rfl⟩ (Nat.zero_le _) (Nat.zero_le _) (zc_takes_14_110 x5 p0 S n hn G_S (by omega) (by omega)) (fun v35 S34 hP => ?_)
              obtain ⟨rfl, o36, o37⟩ := hP
              rcases (by omega : v35 = 0 ∨ v35 = 1) with rfl | rfl
              · rw [← zz_fr.eq F_S] at o37
                refine zz_if_eq (by omega) zd_14_111_57 (fun c38 => ?_) (fun c38 => ?_)
                · refine zz_iconst zd_14_111_64 ?_
                  refine zz_istore [some (.ref 1079), some (zi p0), some (zi p1), some (zi 0), some (zi 0), some (zi x5)] zd_14_111_65 (by decide) rfl ?_
                  refine zz_iinc [some (.ref 1079), some (zi p0), some (zi p1), some (zi 0), some (zi 0), some (zi (x5 + 1))] zd_14_111_67 rfl rfl ?_
                  refine zz_goto zd_14_111_70 ?_
                  refine zz_less (ls1 := [some (.ref 1079), some (zi p0), some (zi p1), some (zi 0), some (zi 0), some (zi (x5 + 1))]) ⟨rfl, ⟨rfl, ⟨rfl, ⟨rfl, ⟨rfl, ⟨rfl, trivial⟩⟩⟩⟩⟩⟩ ?_
                  exact k8 0 0 (x5 + 1) S G_S F_S (by omega) (by omega) (by omega) (by omega) (zn_RNs (l := x5) i8_4 rfl (by omega) (by omega) rfl (by omega) (by omega)) (by omega)
                · exfalso; omega
              · rw [← zz_fr.eq F_S] at o37
                refine zz_if_eq (by omega) zd_14_111_57 (fun c39 => ?_) (fun c39 => ?_)
                · exfalso; omega
                · refine zz_iconst zd_14_111_60 ?_
                  refine zz_goto zd_14_111_61 ?_
                  refine zz_istore [some (.ref 1079), some (zi p0), some (zi p1), some (zi 0), some (zi 1), some (zi x5)] zd_14_111_65 (by decide) rfl ?_
                  refine zz_iinc [some (.ref 1079), some (zi p0), some (zi p1), some (zi 0), some (zi 1), some (zi (x5 + 1))] zd_14_111_67 rfl rfl ?_
                  refine zz_goto zd_14_111_70 ?_
                  refine zz_less (ls1 := [some (.ref 1079), some (zi p0), some (zi p1), some (zi 0), some (zi 1), some (zi (x5 + 1))]) ⟨rfl, ⟨rfl, ⟨rfl, ⟨rfl, ⟨rfl, ⟨rfl, trivial⟩⟩⟩⟩⟩⟩ ?_
                  exact k8 0 1 (x5 + 1) S G_S F_S (by omega) (by omega) (by omega) (by omega) (zn_RNs (l := x5) i8_4 rfl (by omega) (by omega) rfl (by omega) (by omega)) (by omega)
        · exfalso; omega
      · rw [← zz_fr.eq F_S] at o30
        refine zz_if_eq (by omega) zd_14_111_30 (fun c40 => ?_) (fun c40 => ?_)
        · exfalso; omega
        · refine zz_iconst zd_14_111_33 ?_
          refine zz_goto zd_14_111_34 ?_
          refine zz_istore_n [some (.ref 1079), some (zi p0), some (zi p1), some (zi 1), some (zi x4), some (zi x5)] zd_14_111_38 (by decide) rfl ?_
          refine zz_iload (x := x4) rfl zd_14_111_39 ?_
          refine zz_if_ne (by omega) zd_14_111_41 (fun c41 => ?_) (fun c41 => ?_)
          · refine zz_iconst zd_14_111_60 ?_
            refine zz_goto zd_14_111_61 ?_
            refine zz_istore [some (.ref 1079), some (zi p0), some (zi p1), some (zi 1), some (zi 1), some (zi x5)] zd_14_111_65 (by decide) rfl ?_
            refine zz_iinc [some (.ref 1079), some (zi p0), some (zi p1), some (zi 1), some (zi 1), some (zi (x5 + 1))] zd_14_111_67 rfl rfl ?_
            refine zz_goto zd_14_111_70 ?_
            refine zz_less (ls1 := [some (.ref 1079), some (zi p0), some (zi p1), some (zi 1), some (zi 1), some (zi (x5 + 1))]) ⟨rfl, ⟨rfl, ⟨rfl, ⟨rfl, ⟨rfl, ⟨rfl, trivial⟩⟩⟩⟩⟩⟩ ?_
            exact k8 1 1 (x5 + 1) S G_S F_S (by omega) (by omega) (by omega) (by omega) (zn_RNs (l := x5) i8_4 rfl (by omega) (by omega) rfl (by omega) (by omega)) (by omega)
          · refine zz_iload (x := x5) rfl zd_14_111_44 ?_
            refine zz_iload_n (x := p1) rfl zd_14_111_46 ?_
            refine zz_icmp_lt (by omega) (by omega) zd_14_111_47 (fun c42 => ?_) (fun c42 => ?_)
            · refine zz_iconst zd_14_111_64 ?_
              refine zz_istore [some (.ref 1079), some (zi p0), some (zi p1), some (zi 1), some (zi 0), some (zi x5)] zd_14_111_65 (by decide) rfl ?_
              refine zz_iinc [some (.ref 1079), some (zi p0), some (zi p1), some (zi 1), some (zi 0), some (zi (x5 + 1))] zd_14_111_67 rfl rfl ?_
              refine zz_goto zd_14_111_70 ?_
              refine zz_less (ls1 := [some (.ref 1079), some (zi p0), some (zi p1), some (zi 1), some (zi 0), some (zi (x5 + 1))]) ⟨rfl, ⟨rfl, ⟨rfl, ⟨rfl, ⟨rfl, ⟨rfl, trivial⟩⟩⟩⟩⟩⟩ ?_
              exact k8 1 0 (x5 + 1) S G_S F_S (by omega) (by omega) (by omega) (by omega) (zn_RNs (l := x5) i8_4 rfl (by omega) (by omega) rfl (by omega) (by omega)) (by omega)
            · refine zz_aload_n (x := 1079) rfl zd_14_111_50 ?_
              refine zz_iload (x := x5) rfl zd_14_111_51 ?_
              refine zz_iload_n (x := p0) rfl zd_14_111_53 ?_
              refine zz_callVI [zi x5, zi p0] zd_14_111_54 zk_Md_613 zT_1079 (zz_ltn hn rfl) rfl rfl ⟨Nat.le_of_ble_eq_true rfl, Nat.le_of_ble_eq_true rfl⟩ ⟨rfl, rfl⟩ (Nat.zero_le _) (Nat.zero_le _) (zc_takes_14_110 x5 p0 S n hn G_S (by omega) (by omega)) (fun v44 S43 hP => ?_)
              obtain ⟨rfl, o45, o46⟩ := hP
              rcases (by omega : v44 = 0 ∨ v44 = 1) with rfl | rfl
              · rw [← zz_fr.eq F_S] at o46
                refine zz_if_eq (by omega) zd_14_111_57 (fun c47 => ?_) (fun c47 => ?_)
                · refine zz_iconst zd_14_111_64 ?_
                  refine zz_istore [some (.ref 1079), some (zi p0), some (zi p1), some (zi 1), some (zi 0), some (zi x5)] zd_14_111_65 (by decide) rfl ?_
                  refine zz_iinc [some (.ref 1079), some (zi p0), some (zi p1), some (zi 1), some (zi 0), some (zi (x5 + 1))] zd_14_111_67 rfl rfl ?_
                  refine zz_goto zd_14_111_70 ?_
                  refine zz_less (ls1 := [some (.ref 1079), some (zi p0), some (zi p1), some (zi 1), some (zi 0), some (zi (x5 + 1))]) ⟨rfl, ⟨rfl, ⟨rfl, ⟨rfl, ⟨rfl, ⟨rfl, trivial⟩⟩⟩⟩⟩⟩ ?_
                  exact k8 1 0 (x5 + 1) S G_S F_S (by omega) (by omega) (by omega) (by omega) (zn_RNs (l := x5) i8_4 rfl (by omega) (by omega) rfl (by omega) (by omega)) (by omega)
                · exfalso; omega
              · rw [← zz_fr.eq F_S] at o46
                refine zz_if_eq (by omega) zd_14_111_57 (fun c48 => ?_) (fun c48 => ?_)
                · exfalso; omega
                · refine zz_iconst zd_14_111_60 ?_
                  refine zz_goto zd_14_111_61 ?_
                  refine zz_istore [some (.ref 1079), some (zi p0), some (zi p1), some (zi 1), some (zi 1), some (zi x5)] zd_14_111_65 (by decide) rfl ?_
                  refine zz_iinc [some (.ref 1079), some (zi p0), some (zi p1), some (zi 1), some (zi 1), some (zi (x5 + 1))] zd_14_111_67 rfl rfl ?_
                  refine zz_goto zd_14_111_70 ?_
                  refine zz_less (ls1 := [some (.ref 1079), some (zi p0), some (zi p1), some (zi 1), some (zi 1), some (zi (x5 + 1))]) ⟨rfl, ⟨rfl, ⟨rfl, ⟨rfl, ⟨rfl, ⟨rfl, trivial⟩⟩⟩⟩⟩⟩ ?_
                  exact k8 1 1 (x5 + 1) S G_S F_S (by omega) (by omega) (by omega) (by omega) (zn_RNs (l := x5) i8_4 rfl (by omega) (by omega) rfl (by omega) (by omega)) (by omega)
theorem zi_isNeeded_14_111 {g : mm_G} {l : Launch} (p0 : Int) (p1 : Int) (S0 : zz_S) (n : Nat) (hn : zz_end ≤ n) (G_S0 : zz_G S0) (hp0 : (-2147483648) ≤ p0 ∧ p0 ≤ 2147483647) (hp1 : (-2147483648) ≤ p1 ∧ p1 ≤ 2147483647) : ∀ N : Nat, (∀ (x3 : Int) (x4 : Int) (x5 : Int) (S : zz_S), zz_G S → zz_fr [] [] (fun _ _ => False) S0 S → (0 ≤ x3 ∧ x3 ≤ 1) → (0 ≤ x4 ∧ x4 ≤ 1) → (0 ≤ x5 ∧ x5 ≤ 10) → (x5 + 1 ≤ S0 1079 36 ∨ x5 = 0) → (zn_RN S0 p0 (p1 + 1) x3 x4 (x5 + 1)) → (2147483647 - x5).toNat < N → zz_E g l zy_isNeeded_14_111 zr_isNeeded_14_111 (zz_QI n (zp_isNeeded_14_111 p0 p1 S0)) S n 8 [some (.ref 1079), some (zi p0), some (zi p1), some (zi x3), some (zi x4), some (zi x5)] [] 0 0) := by
  intro N
  induction N with
  | zero => exact fun x3 x4 x5 S _ _ _ _ _ _ _ h => absurd h (Nat.not_lt_zero _)
  | succ N ih =>
    exact fun x3 x4 x5 S a b j0 j1 j2 j3 j4 hR => zb_isNeeded_14_111_8 p0 p1 S0 n hn G_S0 hp0 hp1 x3 x4 x5 S a b j0 j1 j2 j3 j4 _ rfl (fun x3 x4 x5 S a b j0 j1 j2 j3 j4 h => ih x3 x4 x5 S a b j0 j1 j2 j3 j4 (Nat.lt_of_lt_of_le h (Nat.le_of_lt_succ hR)))
theorem zc_isNeeded_14_111 {g : mm_G} {l : Launch} (p0 : Int) (p1 : Int) (S0 : zz_S) (n : Nat) (hn : zz_end ≤ n) (G_S0 : zz_G S0) (hp0 : (-2147483648) ≤ p0 ∧ p0 ≤ 2147483647) (hp1 : (-2147483648) ≤ p1 ∧ p1 ≤ 2147483647) : mm_Met g l zy_isNeeded_14_111 zr_isNeeded_14_111 [.ref 1079, zi p0, zi p1] (zz_M S0 n) n (zz_QI n (zp_isNeeded_14_111 p0 p1 S0)) := by
  refine zz_enter (by decide) (Nat.le_of_ble_eq_true rfl) (zz_less (ls1 := [some (.ref 1079), some (zi p0), some (zi p1)]) ⟨rfl, ⟨rfl, ⟨rfl, trivial⟩⟩⟩ ?_)
  have F_S0 : zz_fr [] [] (fun _ _ => False) S0 S0 := zz_fr.refl
  have k8 : ∀ (x3 : Int) (x4 : Int) (x5 : Int) (S : zz_S), zz_G S → zz_fr [] [] (fun _ _ => False) S0 S → (0 ≤ x3 ∧ x3 ≤ 1) → (0 ≤ x4 ∧ x4 ≤ 1) → (0 ≤ x5 ∧ x5 ≤ 10) → (x5 + 1 ≤ S0 1079 36 ∨ x5 = 0) → (zn_RN S0 p0 (p1 + 1) x3 x4 (x5 + 1)) → zz_E g l zy_isNeeded_14_111 zr_isNeeded_14_111 (zz_QI n (zp_isNeeded_14_111 p0 p1 S0)) S n 8 [some (.ref 1079), some (zi p0), some (zi p1), some (zi x3), some (zi x4), some (zi x5)] [] 0 0 := fun x3 x4 x5 S a b j0 j1 j2 j3 j4 => (zi_isNeeded_14_111 (g := g) (l := l) p0 p1 S0 n hn G_S0 hp0 hp1 _) x3 x4 x5 S a b j0 j1 j2 j3 j4 (Nat.lt_succ_self _)
  refine zz_iconst zd_14_111_0 ?_
  refine zz_istore_n [some (.ref 1079), some (zi p0), some (zi p1), some (zi 0)] zd_14_111_1 (by decide) rfl ?_
  refine zz_iconst zd_14_111_2 ?_
  refine zz_istore [some (.ref 1079), some (zi p0), some (zi p1), some (zi 0), some (zi 0)] zd_14_111_3 (by decide) rfl ?_
  refine zz_iconst zd_14_111_5 ?_
  refine zz_istore [some (.ref 1079), some (zi p0), some (zi p1), some (zi 0), some (zi 0), some (zi 0)] zd_14_111_6 (by decide) rfl ?_
  have g1 := zz_G.r G_S0 1079 36 0 11 rfl rfl
  refine zz_less (ls1 := [some (.ref 1079), some (zi p0), some (zi p1), some (zi 0), some (zi 0), some (zi 0)]) ⟨rfl, ⟨rfl, ⟨rfl, ⟨rfl, ⟨rfl, ⟨rfl, trivial⟩⟩⟩⟩⟩⟩ ?_
  exact k8 0 0 0 S0 G_S0 F_S0 (by omega) (by omega) (by omega) (by omega) zn_RN0
abbrev zy_meets_14_112 : mm_Y := (⟨"TensorForgeModel", "meets", "(II)Z"⟩, prog_14_method_112_code, 5, (some .boolean))
theorem zyw_meets_14_112 : mm_Yw zy_meets_14_112 2 := ⟨mm_tb_1 2284 (by decide +kernel) rfl, mm_tb_1 12 (by decide +kernel) rfl, ⟨by decide, by decide⟩, by decide +kernel⟩
theorem zk_Md_616 : mm_Vl "TensorForgeModel" 616 11 2 zy_isNeeded_14_111 := ⟨zyw_isNeeded_14_111, (R_Md, F_Md, 69), rfl, mm_tb_1 2285 (by decide +kernel) rfl, mm_tb_1 2287 (by decide +kernel) rfl, mm_tb_s 157 (by decide +kernel) rfl⟩
theorem zg_14_112_0 : zq_at zy_meets_14_112.2.1 0 3 ∧ zq_at zy_meets_14_112.2.1 1 62 ∧ zq_at zy_meets_14_112.2.1 2 3 ∧ zq_at zy_meets_14_112.2.1 3 54 ∧ zq_at zy_meets_14_112.2.1 4 4 ∧ zq_at zy_meets_14_112.2.1 5 21 ∧ zq_at zy_meets_14_112.2.1 6 4 ∧ zq_at zy_meets_14_112.2.1 7 27 ∧ zq_at zy_meets_14_112.2.1 8 163 ∧ zq_at zy_meets_14_112.2.1 9 0 ∧ zq_at zy_meets_14_112.2.1 10 66 ∧ zq_at zy_meets_14_112.2.1 74 29 ∧ zq_at zy_meets_14_112.2.1 75 172 ∧ zq_at zy_meets_14_112.2.1 11 29 ∧ zq_at zy_meets_14_112.2.1 12 154 ∧ zq_at zy_meets_14_112.2.1 13 0 ∧ zq_at zy_meets_14_112.2.1 14 50 ∧ zq_at zy_meets_14_112.2.1 62 4 ∧ zq_at zy_meets_14_112.2.1 63 167 ∧ zq_at zy_meets_14_112.2.1 64 0 ∧ zq_at zy_meets_14_112.2.1 65 4 ∧ zq_at zy_meets_14_112.2.1 67 62 := by decide +kernel
theorem zd_14_112_0 : zz_D zy_meets_14_112 0 (.iconst 0) 1 1 := ⟨zq_3 zg_14_112_0.1, rfl⟩
theorem zd_14_112_1 : zz_D zy_meets_14_112 1 (.istore_n 3) 1 2 := ⟨zq_62 zg_14_112_0.2.1, rfl⟩
theorem zd_14_112_2 : zz_D zy_meets_14_112 2 (.iconst 0) 1 3 := ⟨zq_3 zg_14_112_0.2.2.1, rfl⟩
theorem zd_14_112_3 : zz_D zy_meets_14_112 3 (.istore 4) 2 5 := ⟨zq_54 zg_14_112_0.2.2.2.1 zg_14_112_0.2.2.2.2.1, rfl⟩
theorem zd_14_112_5 : zz_D zy_meets_14_112 5 (.iload 4) 2 7 := ⟨zq_21 zg_14_112_0.2.2.2.2.2.1 zg_14_112_0.2.2.2.2.2.2.1, rfl⟩
theorem zd_14_112_7 : zz_D zy_meets_14_112 7 (.iload_n 1) 1 8 := ⟨zq_27 zg_14_112_0.2.2.2.2.2.2.2.1, rfl⟩
theorem zd_14_112_8 : zz_B zy_meets_14_112 8 (Instr.if_icmp .gt) 74 11 := ⟨66, zq_163 zg_14_112_0.2.2.2.2.2.2.2.2.1 zg_14_112_0.2.2.2.2.2.2.2.2.2.1 zg_14_112_0.2.2.2.2.2.2.2.2.2.2.1 (by decide), rfl, rfl⟩
theorem zd_14_112_74 : zz_D zy_meets_14_112 74 (.iload_n 3) 1 75 := ⟨zq_29 zg_14_112_0.2.2.2.2.2.2.2.2.2.2.2.1, rfl⟩
theorem zd_14_112_75 : zz_D zy_meets_14_112 75 (.ireturn) 1 76 := ⟨zq_172 zg_14_112_0.2.2.2.2.2.2.2.2.2.2.2.2.1, rfl⟩
theorem zd_14_112_11 : zz_D zy_meets_14_112 11 (.iload_n 3) 1 12 := ⟨zq_29 zg_14_112_0.2.2.2.2.2.2.2.2.2.2.2.2.2.1, rfl⟩
theorem zd_14_112_12 : zz_B zy_meets_14_112 12 (Instr.ifCond .ne) 62 15 := ⟨50, zq_154 zg_14_112_0.2.2.2.2.2.2.2.2.2.2.2.2.2.2.1 zg_14_112_0.2.2.2.2.2.2.2.2.2.2.2.2.2.2.2.1 zg_14_112_0.2.2.2.2.2.2.2.2.2.2.2.2.2.2.2.2.1 (by decide), rfl, rfl⟩
theorem zd_14_112_62 : zz_D zy_meets_14_112 62 (.iconst 1) 1 63 := ⟨zq_4 zg_14_112_0.2.2.2.2.2.2.2.2.2.2.2.2.2.2.2.2.2.1, rfl⟩
theorem zd_14_112_63 : zz_B zy_meets_14_112 63 Instr.goto 67 66 := ⟨4, zq_167 zg_14_112_0.2.2.2.2.2.2.2.2.2.2.2.2.2.2.2.2.2.2.1 zg_14_112_0.2.2.2.2.2.2.2.2.2.2.2.2.2.2.2.2.2.2.2.1 zg_14_112_0.2.2.2.2.2.2.2.2.2.2.2.2.2.2.2.2.2.2.2.2.1 (by decide), rfl, rfl⟩
theorem zd_14_112_67 : zz_D zy_meets_14_112 67 (.istore_n 3) 1 68 := ⟨zq_62 zg_14_112_0.2.2.2.2.2.2.2.2.2.2.2.2.2.2.2.2.2.2.2.2.2, rfl⟩
theorem zg_14_112_68 : zq_at zy_meets_14_112.2.1 68 132 ∧ zq_at zy_meets_14_112.2.1 69 4 ∧ zq_at zy_meets_14_112.2.1 70 1 ∧ zq_at zy_meets_14_112.2.1 71 167 ∧ zq_at zy_meets_14_112.2.1 72 255 ∧ zq_at zy_meets_14_112.2.1 73 190 ∧ zq_at zy_meets_14_112.2.1 15 42 ∧ zq_at zy_meets_14_112.2.1 16 21 ∧ zq_at zy_meets_14_112.2.1 17 4 ∧ zq_at zy_meets_14_112.2.1 18 27 ∧ zq_at zy_meets_14_112.2.1 19 182 ∧ zq_at zy_meets_14_112.2.1 20 2 ∧ zq_at zy_meets_14_112.2.1 21 104 ∧ zq_at zy_meets_14_112.2.1 22 153 ∧ zq_at zy_meets_14_112.2.1 23 0 ∧ zq_at zy_meets_14_112.2.1 24 44 ∧ zq_at zy_meets_14_112.2.1 66 3 ∧ zq_at zy_meets_14_112.2.1 25 28 ∧ zq_at zy_meets_14_112.2.1 26 42 ∧ zq_at zy_meets_14_112.2.1 27 180 ∧ zq_at zy_meets_14_112.2.1 28 0 ∧ zq_at zy_meets_14_112.2.1 29 97 ∧ zq_at zy_meets_14_112.2.1 30 21 ∧ zq_at zy_meets_14_112.2.1 31 4 := by decide +kernel
theorem zd_14_112_68 : zz_D zy_meets_14_112 68 (.iinc 4 1) 3 71 := ⟨zq_132 zg_14_112_68.1 zg_14_112_68.2.1 zg_14_112_68.2.2.1 (by decide), rfl⟩
theorem zd_14_112_71 : zz_B zy_meets_14_112 71 Instr.goto 5 74 := ⟨(-66), zq_167 zg_14_112_68.2.2.2.1 zg_14_112_68.2.2.2.2.1 zg_14_112_68.2.2.2.2.2.1 (by decide), rfl, rfl⟩
theorem zd_14_112_15 : zz_D zy_meets_14_112 15 (.aload_n 0) 1 16 := ⟨zq_42 zg_14_112_68.2.2.2.2.2.2.1, rfl⟩
theorem zd_14_112_16 : zz_D zy_meets_14_112 16 (.iload 4) 2 18 := ⟨zq_21 zg_14_112_68.2.2.2.2.2.2.2.1 zg_14_112_68.2.2.2.2.2.2.2.2.1, rfl⟩
theorem zd_14_112_18 : zz_D zy_meets_14_112 18 (.iload_n 1) 1 19 := ⟨zq_27 zg_14_112_68.2.2.2.2.2.2.2.2.2.1, rfl⟩
theorem zd_14_112_19 : zz_D zy_meets_14_112 19 (.invokevirtual 616) 3 22 := ⟨zq_182 zg_14_112_68.2.2.2.2.2.2.2.2.2.2.1 zg_14_112_68.2.2.2.2.2.2.2.2.2.2.2.1 zg_14_112_68.2.2.2.2.2.2.2.2.2.2.2.2.1 rfl, rfl⟩
theorem zd_14_112_22 : zz_B zy_meets_14_112 22 (Instr.ifCond .eq) 66 25 := ⟨44, zq_153 zg_14_112_68.2.2.2.2.2.2.2.2.2.2.2.2.2.1 zg_14_112_68.2.2.2.2.2.2.2.2.2.2.2.2.2.2.1 zg_14_112_68.2.2.2.2.2.2.2.2.2.2.2.2.2.2.2.1 (by decide), rfl, rfl⟩
theorem zd_14_112_66 : zz_D zy_meets_14_112 66 (.iconst 0) 1 67 := ⟨zq_3 zg_14_112_68.2.2.2.2.2.2.2.2.2.2.2.2.2.2.2.2.1, rfl⟩
theorem zd_14_112_25 : zz_D zy_meets_14_112 25 (.iload_n 2) 1 26 := ⟨zq_28 zg_14_112_68.2.2.2.2.2.2.2.2.2.2.2.2.2.2.2.2.2.1, rfl⟩
theorem zd_14_112_26 : zz_D zy_meets_14_112 26 (.aload_n 0) 1 27 := ⟨zq_42 zg_14_112_68.2.2.2.2.2.2.2.2.2.2.2.2.2.2.2.2.2.2.1, rfl⟩
theorem zd_14_112_27 : zz_D zy_meets_14_112 27 (.getfield 97) 3 30 := ⟨zq_180 zg_14_112_68.2.2.2.2.2.2.2.2.2.2.2.2.2.2.2.2.2.2.2.1 zg_14_112_68.2.2.2.2.2.2.2.2.2.2.2.2.2.2.2.2.2.2.2.2.1 zg_14_112_68.2.2.2.2.2.2.2.2.2.2.2.2.2.2.2.2.2.2.2.2.2.1 rfl, rfl⟩
theorem zd_14_112_30 : zz_D zy_meets_14_112 30 (.iload 4) 2 32 := ⟨zq_21 zg_14_112_68.2.2.2.2.2.2.2.2.2.2.2.2.2.2.2.2.2.2.2.2.2.2.1 zg_14_112_68.2.2.2.2.2.2.2.2.2.2.2.2.2.2.2.2.2.2.2.2.2.2.2, rfl⟩
theorem zg_14_112_32 : zq_at zy_meets_14_112.2.1 32 46 ∧ zq_at zy_meets_14_112.2.1 33 42 ∧ zq_at zy_meets_14_112.2.1 34 21 ∧ zq_at zy_meets_14_112.2.1 35 4 ∧ zq_at zy_meets_14_112.2.1 36 182 ∧ zq_at zy_meets_14_112.2.1 37 0 ∧ zq_at zy_meets_14_112.2.1 38 200 ∧ zq_at zy_meets_14_112.2.1 39 96 ∧ zq_at zy_meets_14_112.2.1 40 162 ∧ zq_at zy_meets_14_112.2.1 41 0 ∧ zq_at zy_meets_14_112.2.1 42 26 ∧ zq_at zy_meets_14_112.2.1 43 42 ∧ zq_at zy_meets_14_112.2.1 44 180 ∧ zq_at zy_meets_14_112.2.1 45 0 ∧ zq_at zy_meets_14_112.2.1 46 97 ∧ zq_at zy_meets_14_112.2.1 47 21 ∧ zq_at zy_meets_14_112.2.1 48 4 ∧ zq_at zy_meets_14_112.2.1 49 46 ∧ zq_at zy_meets_14_112.2.1 50 28 ∧ zq_at zy_meets_14_112.2.1 51 42 ∧ zq_at zy_meets_14_112.2.1 52 27 ∧ zq_at zy_meets_14_112.2.1 53 4 ∧ zq_at zy_meets_14_112.2.1 54 96 := by decide +kernel
theorem zd_14_112_32 : zz_D zy_meets_14_112 32 (.iaload) 1 33 := ⟨zq_46 zg_14_112_32.1, rfl⟩
theorem zd_14_112_33 : zz_D zy_meets_14_112 33 (.aload_n 0) 1 34 := ⟨zq_42 zg_14_112_32.2.1, rfl⟩
theorem zd_14_112_34 : zz_D zy_meets_14_112 34 (.iload 4) 2 36 := ⟨zq_21 zg_14_112_32.2.2.1 zg_14_112_32.2.2.2.1, rfl⟩
theorem zd_14_112_36 : zz_D zy_meets_14_112 36 (.invokevirtual 200) 3 39 := ⟨zq_182 zg_14_112_32.2.2.2.2.1 zg_14_112_32.2.2.2.2.2.1 zg_14_112_32.2.2.2.2.2.2.1 rfl, rfl⟩
theorem zd_14_112_39 : zz_D zy_meets_14_112 39 (.iadd) 1 40 := ⟨zq_96 zg_14_112_32.2.2.2.2.2.2.2.1, rfl⟩
theorem zd_14_112_40 : zz_B zy_meets_14_112 40 (Instr.if_icmp .ge) 66 43 := ⟨26, zq_162 zg_14_112_32.2.2.2.2.2.2.2.2.1 zg_14_112_32.2.2.2.2.2.2.2.2.2.1 zg_14_112_32.2.2.2.2.2.2.2.2.2.2.1 (by decide), rfl, rfl⟩
theorem zd_14_112_43 : zz_D zy_meets_14_112 43 (.aload_n 0) 1 44 := ⟨zq_42 zg_14_112_32.2.2.2.2.2.2.2.2.2.2.2.1, rfl⟩
theorem zd_14_112_44 : zz_D zy_meets_14_112 44 (.getfield 97) 3 47 := ⟨zq_180 zg_14_112_32.2.2.2.2.2.2.2.2.2.2.2.2.1 zg_14_112_32.2.2.2.2.2.2.2.2.2.2.2.2.2.1 zg_14_112_32.2.2.2.2.2.2.2.2.2.2.2.2.2.2.1 rfl, rfl⟩
theorem zd_14_112_47 : zz_D zy_meets_14_112 47 (.iload 4) 2 49 := ⟨zq_21 zg_14_112_32.2.2.2.2.2.2.2.2.2.2.2.2.2.2.2.1 zg_14_112_32.2.2.2.2.2.2.2.2.2.2.2.2.2.2.2.2.1, rfl⟩
theorem zd_14_112_49 : zz_D zy_meets_14_112 49 (.iaload) 1 50 := ⟨zq_46 zg_14_112_32.2.2.2.2.2.2.2.2.2.2.2.2.2.2.2.2.2.1, rfl⟩
theorem zd_14_112_50 : zz_D zy_meets_14_112 50 (.iload_n 2) 1 51 := ⟨zq_28 zg_14_112_32.2.2.2.2.2.2.2.2.2.2.2.2.2.2.2.2.2.2.1, rfl⟩
theorem zd_14_112_51 : zz_D zy_meets_14_112 51 (.aload_n 0) 1 52 := ⟨zq_42 zg_14_112_32.2.2.2.2.2.2.2.2.2.2.2.2.2.2.2.2.2.2.2.1, rfl⟩
theorem zd_14_112_52 : zz_D zy_meets_14_112 52 (.iload_n 1) 1 53 := ⟨zq_27 zg_14_112_32.2.2.2.2.2.2.2.2.2.2.2.2.2.2.2.2.2.2.2.2.1, rfl⟩
theorem zd_14_112_53 : zz_D zy_meets_14_112 53 (.iconst 1) 1 54 := ⟨zq_4 zg_14_112_32.2.2.2.2.2.2.2.2.2.2.2.2.2.2.2.2.2.2.2.2.2.1, rfl⟩
theorem zd_14_112_54 : zz_D zy_meets_14_112 54 (.iadd) 1 55 := ⟨zq_96 zg_14_112_32.2.2.2.2.2.2.2.2.2.2.2.2.2.2.2.2.2.2.2.2.2.2, rfl⟩
theorem zg_14_112_55 : zq_at zy_meets_14_112.2.1 55 182 ∧ zq_at zy_meets_14_112.2.1 56 0 ∧ zq_at zy_meets_14_112.2.1 57 200 ∧ zq_at zy_meets_14_112.2.1 58 96 ∧ zq_at zy_meets_14_112.2.1 59 162 ∧ zq_at zy_meets_14_112.2.1 60 0 ∧ zq_at zy_meets_14_112.2.1 61 7 := by decide +kernel
theorem zd_14_112_55 : zz_D zy_meets_14_112 55 (.invokevirtual 200) 3 58 := ⟨zq_182 zg_14_112_55.1 zg_14_112_55.2.1 zg_14_112_55.2.2.1 rfl, rfl⟩
theorem zd_14_112_58 : zz_D zy_meets_14_112 58 (.iadd) 1 59 := ⟨zq_96 zg_14_112_55.2.2.2.1, rfl⟩
theorem zd_14_112_59 : zz_B zy_meets_14_112 59 (Instr.if_icmp .ge) 66 62 := ⟨7, zq_162 zg_14_112_55.2.2.2.2.1 zg_14_112_55.2.2.2.2.2.1 zg_14_112_55.2.2.2.2.2.2 (by decide), rfl, rfl⟩

-- TensorForgeModel input (III)V
abbrev zr_input_14_63 : Room := { frames := 1, cells := 0, slots := 0, locals := 17 }
def zp_input_14_63 (p0 : Int) (p1 : Int) (p2 : Int) (S0 : zz_S) : zz_S → Prop := fun S => zz_G S ∧ zz_fr [(1079, 0), (1079, 36), (1102, 0), (1103, 0), (1104, 0), (1105, 0), (1105, 1)] [] (fun _ _ => False) S0 S ∧ (S 1079 0 = 0 → S 1079 36 = 1) ∧ (1 ≤ S0 1079 36 → 1 ≤ S 1079 36) ∧ ((1 ≤ p0 ∧ p0 ≤ 63 ∧ 1 ≤ p1 ∧ p1 ≤ 63 ∧ 1 ≤ p2 ∧ p2 ≤ 63 ∧ (p0 * p1) * p2 ≤ 2048 ∧ S 1079 0 = 0) ∨ ((p0 < 1 ∨ 63 < p0 ∨ p1 < 1 ∨ 63 < p1 ∨ p2 < 1 ∨ 63 < p2 ∨ 2048 < (p0 * p1) * p2) ∧ S 1079 0 = 1)) ∧ (S 1079 0 = 0 → ∀ nm : Int, zn_M S (zn_ip p0 p1 p2 nm)) ∧ (S 1079 0 ≠ 0 → ∀ v : zn_T, zn_M S0 v → zn_M S v) ∧ (zz_Hr S)
theorem zc_input_14_63 {g : mm_G} {l : Launch} (p0 : Int) (p1 : Int) (p2 : Int) (S0 : zz_S) (n : Nat) (hn : zz_end ≤ n) (G_S0 : zz_G S0) (hp0 : (-2147483648) ≤ p0 ∧ p0 ≤ 2147483647) (hp1 : (-2147483648) ≤ p1 ∧ p1 ≤ 2147483647) (hp2 : (-2147483648) ≤ p2 ∧ p2 ≤ 2147483647) (R_S0 : zz_Hr S0) : mm_Met g l zy_input_14_63 zr_input_14_63 [.ref 1079, zi p0, zi p1, zi p2] (zz_M S0 n) n (zz_QV n (zp_input_14_63 p0 p1 p2 S0)) := by
  refine zz_enter (by decide) (Nat.le_of_ble_eq_true rfl) (zz_less (ls1 := [some (.ref 1079), some (zi p0), some (zi p1), some (zi p2)]) ⟨rfl, ⟨rfl, ⟨rfl, ⟨rfl, trivial⟩⟩⟩⟩ ?_)
  have F_S0 : zz_fr [(1079, 0), (1079, 36), (1102, 0), (1103, 0), (1104, 0), (1105, 0), (1105, 1)] [] (fun _ _ => False) S0 S0 := zz_fr.refl
  refine zz_iload_n (x := p0) rfl zd_14_63_0 ?_
  refine zz_i2l (by omega) zd_14_63_1 ?_
  refine zz_lconst (z := 1) (by decide) zd_14_63_2 ?_
  refine zz_ldc2 (z := 63) zq_Md_399 (by decide) zd_14_63_3 ?_
  refine zz_callSI [zl p0, zl 1, zl 63] zd_14_63_6 zk_Md_192 rfl rfl ⟨Nat.le_of_ble_eq_true rfl, Nat.le_of_ble_eq_true rfl⟩ ⟨rfl, rfl⟩ (Nat.zero_le _) (Nat.zero_le _) (zc_in_14_4 p0 1 63 S0 n hn G_S0 (by omega) (by omega) (by omega)) (fun v2 S1 hP => ?_)
  obtain ⟨rfl, o3, o4⟩ := hP
  rcases (by omega : v2 = 0 ∨ v2 = 1) with rfl | rfl
  · have n5 : p0 < 1 ∨ 63 < p0 := by omega
    clear o4
    refine zz_if_eq (by omega) zd_14_63_9 (fun c6 => ?_) (fun c6 => ?_)
    · refine zz_iconst zd_14_63_55 ?_
      refine zz_istore [some (.ref 1079), some (zi p0), some (zi p1), some (zi p2), some (zi 0)] zd_14_63_56 (by decide) rfl ?_
      refine zz_aload_n (x := 1079) rfl zd_14_63_58 ?_
      refine zz_iload (x := 0) rfl zd_14_63_59 ?_
      refine zz_if_ne (by omega) zd_14_63_61 (fun c7 => ?_) (fun c7 => ?_)
      · exfalso; omega
      · refine zz_iconst zd_14_63_64 ?_
        refine zz_goto zd_14_63_65 ?_
        refine zz_iconst zd_14_63_69 ?_
        refine zz_iconst zd_14_63_70 ?_
        refine zz_callVI [zi 1, zi 0, zi 0] zd_14_63_71 zk_Md_196 zT_1079 (zz_ltn hn rfl) rfl rfl ⟨Nat.le_of_ble_eq_true rfl, Nat.le_of_ble_eq_true rfl⟩ ⟨rfl, rfl⟩ (Nat.zero_le _) (Nat.zero_le _) (zc_refuse_14_3 1 0 0 S0 n hn G_S0 (by omega) (by omega) (by omega)) (fun v9 S8 hP => ?_)
        obtain ⟨G_S8, fS8, o10, o11⟩ := hP
        have F_S8 := zz_fr.trans F_S0 fS8 rfl zz_nv
        have R_S8 : zz_Hr S8 := zz_Hr.fr fS8 rfl rfl (fun b j h => h.elim) R_S0
        rcases (by omega : v9 = 0 ∨ v9 = 1) with rfl | rfl
        · exfalso; omega
        · have e12 : S8 1079 0 = 1 := by omega
          clear o11
          refine zz_if_ne (by omega) zd_14_63_74 (fun c13 => ?_) (fun c13 => ?_)
          · have g14 := zz_G.r G_S0 1079 36 0 11 rfl rfl
            have e15 : S8 1079 36 = S0 1079 36 := (zz_rc fS8 rfl rfl (fun h => h) rfl)
            have g16 := zz_G.r G_S0 1102 0 0 63 rfl rfl
            have e17 : S8 1102 0 = S0 1102 0 := (zz_rc fS8 (zz_nc1 rfl) rfl (fun h => h) rfl)
            have g18 := zz_G.r G_S0 1103 0 0 63 rfl rfl
            have e19 : S8 1103 0 = S0 1103 0 := (zz_rc fS8 (zz_nc1 rfl) rfl (fun h => h) rfl)
            have g20 := zz_G.r G_S0 1104 0 0 63 rfl rfl
            have e21 : S8 1104 0 = S0 1104 0 := (zz_rc fS8 (zz_nc1 rfl) rfl (fun h => h) rfl)
            have g22 := zz_G.r G_S0 1105 0 0 0 rfl rfl
            have e23 : S8 1105 0 = S0 1105 0 := (zz_rc fS8 (zz_nc1 rfl) rfl (fun h => h) rfl)
            have g24 := zz_G.r G_S0 1105 1 0 10000000 rfl rfl
            have e25 : S8 1105 1 = S0 1105 1 := (zz_rc fS8 (zz_nc1 rfl) rfl (fun h => h) rfl)
            exact zz_vret zd_14_63_84 rfl (Nat.zero_le _) (Nat.zero_le _) ⟨_, rfl, G_S8, F_S8, by omega, by omega, by omega, (fun h => absurd h (by omega)), (fun _ v hM => zn_M.fr hM fS8 rfl rfl (fun b j h => h.elim) (by omega)), R_S8⟩
          · exfalso; omega
    · exfalso; omega
  · have n26 : 1 ≤ p0 ∧ p0 ≤ 63 := by omega
    clear o4
    refine zz_if_eq (by omega) zd_14_63_9 (fun c27 => ?_) (fun c27 => ?_)
    · exfalso; omega
    · refine zz_iload_n (x := p1) rfl zd_14_63_12 ?_
      refine zz_i2l (by omega) zd_14_63_13 ?_
      refine zz_lconst (z := 1) (by decide) zd_14_63_14 ?_
      refine zz_ldc2 (z := 63) zq_Md_399 (by decide) zd_14_63_15 ?_
      refine zz_callSI [zl p1, zl 1, zl 63] zd_14_63_18 zk_Md_192 rfl rfl ⟨Nat.le_of_ble_eq_true rfl, Nat.le_of_ble_eq_true rfl⟩ ⟨rfl, rfl⟩ (Nat.zero_le _) (Nat.zero_le _) (zc_in_14_4 p1 1 63 S0 n hn G_S0 (by omega) (by omega) (by omega)) (fun v29 S28 hP => ?_)
      obtain ⟨rfl, o30, o31⟩ := hP
      rcases (by omega : v29 = 0 ∨ v29 = 1) with rfl | rfl
      · have n32 : p1 < 1 ∨ 63 < p1 := by omega
        clear o31
        refine zz_if_eq (by omega) zd_14_63_21 (fun c33 => ?_) (fun c33 => ?_)
        · refine zz_iconst zd_14_63_55 ?_
          refine zz_istore [some (.ref 1079), some (zi p0), some (zi p1), some (zi p2), some (zi 0)] zd_14_63_56 (by decide) rfl ?_
          refine zz_aload_n (x := 1079) rfl zd_14_63_58 ?_
          refine zz_iload (x := 0) rfl zd_14_63_59 ?_
          refine zz_if_ne (by omega) zd_14_63_61 (fun c34 => ?_) (fun c34 => ?_)
          · exfalso; omega
          · refine zz_iconst zd_14_63_64 ?_
            refine zz_goto zd_14_63_65 ?_
            refine zz_iconst zd_14_63_69 ?_
            refine zz_iconst zd_14_63_70 ?_
            refine zz_callVI [zi 1, zi 0, zi 0] zd_14_63_71 zk_Md_196 zT_1079 (zz_ltn hn rfl) rfl rfl ⟨Nat.le_of_ble_eq_true rfl, Nat.le_of_ble_eq_true rfl⟩ ⟨rfl, rfl⟩ (Nat.zero_le _) (Nat.zero_le _) (zc_refuse_14_3 1 0 0 S0 n hn G_S0 (by omega) (by omega) (by omega)) (fun v36 S35 hP => ?_)
            obtain ⟨G_S35, fS35, o37, o38⟩ := hP
            have F_S35 := zz_fr.trans F_S0 fS35 rfl zz_nv
            have R_S35 : zz_Hr S35 := zz_Hr.fr fS35 rfl rfl (fun b j h => h.elim) R_S0
            rcases (by omega : v36 = 0 ∨ v36 = 1) with rfl | rfl
            · exfalso; omega
            · have e39 : S35 1079 0 = 1 := by omega
              clear o38
              refine zz_if_ne (by omega) zd_14_63_74 (fun c40 => ?_) (fun c40 => ?_)
              · have g41 := zz_G.r G_S0 1079 36 0 11 rfl rfl
                have e42 : S35 1079 36 = S0 1079 36 := (zz_rc fS35 rfl rfl (fun h => h) rfl)
                have g43 := zz_G.r G_S0 1102 0 0 63 rfl rfl
                have e44 : S35 1102 0 = S0 1102 0 := (zz_rc fS35 (zz_nc1 rfl) rfl (fun h => h) rfl)
                have g45 := zz_G.r G_S0 1103 0 0 63 rfl rfl
                have e46 : S35 1103 0 = S0 1103 0 := (zz_rc fS35 (zz_nc1 rfl) rfl (fun h => h) rfl)
                have g47 := zz_G.r G_S0 1104 0 0 63 rfl rfl
                have e48 : S35 1104 0 = S0 1104 0 := (zz_rc fS35 (zz_nc1 rfl) rfl (fun h => h) rfl)
                have g49 := zz_G.r G_S0 1105 0 0 0 rfl rfl
                have e50 : S35 1105 0 = S0 1105 0 := (zz_rc fS35 (zz_nc1 rfl) rfl (fun h => h) rfl)
                have g51 := zz_G.r G_S0 1105 1 0 10000000 rfl rfl
                have e52 : S35 1105 1 = S0 1105 1 := (zz_rc fS35 (zz_nc1 rfl) rfl (fun h => h) rfl)
                exact zz_vret zd_14_63_84 rfl (Nat.zero_le _) (Nat.zero_le _) ⟨_, rfl, G_S35, F_S35, by omega, by omega, by omega, (fun h => absurd h (by omega)), (fun _ v hM => zn_M.fr hM fS35 rfl rfl (fun b j h => h.elim) (by omega)), R_S35⟩
              · exfalso; omega
        · exfalso; omega
      · have n53 : 1 ≤ p1 ∧ p1 ≤ 63 := by omega
        clear o31
        refine zz_if_eq (by omega) zd_14_63_21 (fun c54 => ?_) (fun c54 => ?_)
        · exfalso; omega
        · refine zz_iload_n (x := p2) rfl zd_14_63_24 ?_
          refine zz_i2l (by omega) zd_14_63_25 ?_
          refine zz_lconst (z := 1) (by decide) zd_14_63_26 ?_
          refine zz_ldc2 (z := 63) zq_Md_399 (by decide) zd_14_63_27 ?_
          refine zz_callSI [zl p2, zl 1, zl 63] zd_14_63_30 zk_Md_192 rfl rfl ⟨Nat.le_of_ble_eq_true rfl, Nat.le_of_ble_eq_true rfl⟩ ⟨rfl, rfl⟩ (Nat.zero_le _) (Nat.zero_le _) (zc_in_14_4 p2 1 63 S0 n hn G_S0 (by omega) (by omega) (by omega)) (fun v56 S55 hP => ?_)
          obtain ⟨rfl, o57, o58⟩ := hP
          rcases (by omega : v56 = 0 ∨ v56 = 1) with rfl | rfl
          · have n59 : p2 < 1 ∨ 63 < p2 := by omega
            clear o58
            refine zz_if_eq (by omega) zd_14_63_33 (fun c60 => ?_) (fun c60 => ?_)
            · refine zz_iconst zd_14_63_55 ?_
              refine zz_istore [some (.ref 1079), some (zi p0), some (zi p1), some (zi p2), some (zi 0)] zd_14_63_56 (by decide) rfl ?_
              refine zz_aload_n (x := 1079) rfl zd_14_63_58 ?_
              refine zz_iload (x := 0) rfl zd_14_63_59 ?_
              refine zz_if_ne (by omega) zd_14_63_61 (fun c61 => ?_) (fun c61 => ?_)
              · exfalso; omega
              · refine zz_iconst zd_14_63_64 ?_
                refine zz_goto zd_14_63_65 ?_
                refine zz_iconst zd_14_63_69 ?_
                refine zz_iconst zd_14_63_70 ?_
                refine zz_callVI [zi 1, zi 0, zi 0] zd_14_63_71 zk_Md_196 zT_1079 (zz_ltn hn rfl) rfl rfl ⟨Nat.le_of_ble_eq_true rfl, Nat.le_of_ble_eq_true rfl⟩ ⟨rfl, rfl⟩ (Nat.zero_le _) (Nat.zero_le _) (zc_refuse_14_3 1 0 0 S0 n hn G_S0 (by omega) (by omega) (by omega)) (fun v63 S62 hP => ?_)
                obtain ⟨G_S62, fS62, o64, o65⟩ := hP
                have F_S62 := zz_fr.trans F_S0 fS62 rfl zz_nv
                have R_S62 : zz_Hr S62 := zz_Hr.fr fS62 rfl rfl (fun b j h => h.elim) R_S0
                rcases (by omega : v63 = 0 ∨ v63 = 1) with rfl | rfl
                · exfalso; omega
                · have e66 : S62 1079 0 = 1 := by omega
                  clear o65
                  refine zz_if_ne (by omega) zd_14_63_74 (fun c67 => ?_) (fun c67 => ?_)
                  · have g68 := zz_G.r G_S0 1079 36 0 11 rfl rfl
                    have e69 : S62 1079 36 = S0 1079 36 := (zz_rc fS62 rfl rfl (fun h => h) rfl)
                    have g70 := zz_G.r G_S0 1102 0 0 63 rfl rfl
                    have e71 : S62 1102 0 = S0 1102 0 := (zz_rc fS62 (zz_nc1 rfl) rfl (fun h => h) rfl)
                    have g72 := zz_G.r G_S0 1103 0 0 63 rfl rfl
                    have e73 : S62 1103 0 = S0 1103 0 := (zz_rc fS62 (zz_nc1 rfl) rfl (fun h => h) rfl)
                    have g74 := zz_G.r G_S0 1104 0 0 63 rfl rfl
                    have e75 : S62 1104 0 = S0 1104 0 := (zz_rc fS62 (zz_nc1 rfl) rfl (fun h => h) rfl)
                    have g76 := zz_G.r G_S0 1105 0 0 0 rfl rfl
                    have e77 : S62 1105 0 = S0 1105 0 := (zz_rc fS62 (zz_nc1 rfl) rfl (fun h => h) rfl)
                    have g78 := zz_G.r G_S0 1105 1 0 10000000 rfl rfl
                    have e79 : S62 1105 1 = S0 1105 1 := (zz_rc fS62 (zz_nc1 rfl) rfl (fun h => h) rfl)
                    exact zz_vret zd_14_63_84 rfl (Nat.zero_le _) (Nat.zero_le _) ⟨_, rfl, G_S62, F_S62, by omega, by omega, by omega, (fun h => absurd h (by omega)), (fun _ v hM => zn_M.fr hM fS62 rfl rfl (fun b j h => h.elim) (by omega)), R_S62⟩
                  · exfalso; omega
            · exfalso; omega
          · have n80 : 1 ≤ p2 ∧ p2 ≤ 63 := by omega
            clear o58
            refine zz_if_eq (by omega) zd_14_63_33 (fun c81 => ?_) (fun c81 => ?_)
            · exfalso; omega
            · refine zz_iload_n (x := p0) rfl zd_14_63_36 ?_
              refine zz_i2l (by omega) zd_14_63_37 ?_
              refine zz_iload_n (x := p1) rfl zd_14_63_38 ?_
              refine zz_i2l (by omega) zd_14_63_39 ?_
              refine zz_lmul zd_14_63_40 ?_
              have m82 := zz_mulb (a := p0) (b := p1) 63 63 3969 (by omega) (by omega) (by decide)
              refine zz_iload_n (x := p2) rfl zd_14_63_41 ?_
              refine zz_i2l (by omega) zd_14_63_42 ?_
              refine zz_lmul zd_14_63_43 ?_
              have m83 := zz_mulb (a := p0 * p1) (b := p2) 3969 63 250047 (by omega) (by omega) (by decide)
              refine zz_ldc2 (z := 2048) zq_Md_409 (by decide) zd_14_63_44 ?_
              refine zz_lcmp (by omega) (by omega) zd_14_63_47 (fun v84 hv84 => ?_)
              refine zz_if_gt (by omega) zd_14_63_48 (fun c85 => ?_) (fun c85 => ?_)
              · refine zz_iconst zd_14_63_55 ?_
                refine zz_istore [some (.ref 1079), some (zi p0), some (zi p1), some (zi p2), some (zi 0)] zd_14_63_56 (by decide) rfl ?_
                refine zz_aload_n (x := 1079) rfl zd_14_63_58 ?_
                refine zz_iload (x := 0) rfl zd_14_63_59 ?_
                refine zz_if_ne (by omega) zd_14_63_61 (fun c86 => ?_) (fun c86 => ?_)
                · exfalso; omega
                · refine zz_iconst zd_14_63_64 ?_
                  refine zz_goto zd_14_63_65 ?_
                  refine zz_iconst zd_14_63_69 ?_
                  refine zz_iconst zd_14_63_70 ?_
                  refine zz_callVI [zi 1, zi 0, zi 0] zd_14_63_71 zk_Md_196 zT_1079 (zz_ltn hn rfl) rfl rfl ⟨Nat.le_of_ble_eq_true rfl, Nat.le_of_ble_eq_true rfl⟩ ⟨rfl, rfl⟩ (Nat.zero_le _) (Nat.zero_le _) (zc_refuse_14_3 1 0 0 S0 n hn G_S0 (by omega) (by omega) (by omega)) (fun v88 S87 hP => ?_)
                  obtain ⟨G_S87, fS87, o89, o90⟩ := hP
                  have F_S87 := zz_fr.trans F_S0 fS87 rfl zz_nv
                  have R_S87 : zz_Hr S87 := zz_Hr.fr fS87 rfl rfl (fun b j h => h.elim) R_S0
                  rcases (by omega : v88 = 0 ∨ v88 = 1) with rfl | rfl
                  · exfalso; omega
                  · have e91 : S87 1079 0 = 1 := by omega
                    clear o90
                    refine zz_if_ne (by omega) zd_14_63_74 (fun c92 => ?_) (fun c92 => ?_)
                    · have g93 := zz_G.r G_S0 1079 36 0 11 rfl rfl
                      have e94 : S87 1079 36 = S0 1079 36 := (zz_rc fS87 rfl rfl (fun h => h) rfl)
                      have g95 := zz_G.r G_S0 1102 0 0 63 rfl rfl
                      have e96 : S87 1102 0 = S0 1102 0 := (zz_rc fS87 (zz_nc1 rfl) rfl (fun h => h) rfl)
                      have g97 := zz_G.r G_S0 1103 0 0 63 rfl rfl
                      have e98 : S87 1103 0 = S0 1103 0 := (zz_rc fS87 (zz_nc1 rfl) rfl (fun h => h) rfl)
                      have g99 := zz_G.r G_S0 1104 0 0 63 rfl rfl
                      have e100 : S87 1104 0 = S0 1104 0 := (zz_rc fS87 (zz_nc1 rfl) rfl (fun h => h) rfl)
                      have g101 := zz_G.r G_S0 1105 0 0 0 rfl rfl
                      have e102 : S87 1105 0 = S0 1105 0 := (zz_rc fS87 (zz_nc1 rfl) rfl (fun h => h) rfl)
                      have g103 := zz_G.r G_S0 1105 1 0 10000000 rfl rfl
                      have e104 : S87 1105 1 = S0 1105 1 := (zz_rc fS87 (zz_nc1 rfl) rfl (fun h => h) rfl)
                      exact zz_vret zd_14_63_84 rfl (Nat.zero_le _) (Nat.zero_le _) ⟨_, rfl, G_S87, F_S87, by omega, by omega, by omega, (fun h => absurd h (by omega)), (fun _ v hM => zn_M.fr hM fS87 rfl rfl (fun b j h => h.elim) (by omega)), R_S87⟩
                    · exfalso; omega
              · refine zz_iconst zd_14_63_51 ?_
                refine zz_goto zd_14_63_52 ?_
                refine zz_istore [some (.ref 1079), some (zi p0), some (zi p1), some (zi p2), some (zi 1)] zd_14_63_56 (by decide) rfl ?_
                refine zz_aload_n (x := 1079) rfl zd_14_63_58 ?_
                refine zz_iload (x := 1) rfl zd_14_63_59 ?_
                refine zz_if_ne (by omega) zd_14_63_61 (fun c105 => ?_) (fun c105 => ?_)
                · refine zz_iconst zd_14_63_68 ?_
                  refine zz_iconst zd_14_63_69 ?_
                  refine zz_iconst zd_14_63_70 ?_
                  refine zz_callVI [zi 0, zi 0, zi 0] zd_14_63_71 zk_Md_196 zT_1079 (zz_ltn hn rfl) rfl rfl ⟨Nat.le_of_ble_eq_true rfl, Nat.le_of_ble_eq_true rfl⟩ ⟨rfl, rfl⟩ (Nat.zero_le _) (Nat.zero_le _) (zc_refuse_14_3 0 0 0 S0 n hn G_S0 (by omega) (by omega) (by omega)) (fun v107 S106 hP => ?_)
                  obtain ⟨G_S106, fS106, o108, o109⟩ := hP
                  have F_S106 := zz_fr.trans F_S0 fS106 rfl zz_nv
                  have R_S106 : zz_Hr S106 := zz_Hr.fr fS106 rfl rfl (fun b j h => h.elim) R_S0
                  rcases (by omega : v107 = 0 ∨ v107 = 1) with rfl | rfl
                  · have e110 : S106 1079 0 = 0 := by omega
                    clear o109
                    refine zz_if_ne (by omega) zd_14_63_74 (fun c111 => ?_) (fun c111 => ?_)
                    · exfalso; omega
                    · refine zz_aload_n (x := 1079) rfl zd_14_63_77 ?_
                      refine zz_iload_n (x := p0) rfl zd_14_63_78 ?_
                      refine zz_iload_n (x := p1) rfl zd_14_63_79 ?_
                      refine zz_iload_n (x := p2) rfl zd_14_63_80 ?_
                      refine zz_callVV [zi p0, zi p1, zi p2] zd_14_63_81 zk_Md_183 zT_1079 (zz_ltn hn rfl) rfl rfl ⟨Nat.le_of_ble_eq_true rfl, Nat.le_of_ble_eq_true rfl⟩ ⟨rfl, rfl⟩ (Nat.zero_le _) (Nat.zero_le _) (zc_form_14_5 p0 p1 p2 S106 n hn G_S106 (by omega) (by omega) (by omega) R_S106 (by omega)) (fun S112 hP => ?_)
                      obtain ⟨G_S112, fS112, o114, o115, o116, o117⟩ := hP
                      have F_S112 := zz_fr.trans F_S106 fS112 rfl zz_nv
                      have R_S112 : zz_Hr S112 := o117
                      have e118 : S112 1079 0 = S106 1079 0 := (zz_rc fS112 rfl rfl (fun h => h) rfl)
                      have g119 := zz_G.r G_S112 1079 36 0 11 rfl rfl
                      have g120 := zz_G.r G_S112 1102 0 0 63 rfl rfl
                      have g121 := zz_G.r G_S112 1103 0 0 63 rfl rfl
                      have g122 := zz_G.r G_S112 1104 0 0 63 rfl rfl
                      have g123 := zz_G.r G_S112 1105 0 0 0 rfl rfl
                      have g124 := zz_G.r G_S112 1105 1 0 10000000 rfl rfl
                      exact zz_vret zd_14_63_84 rfl (Nat.zero_le _) (Nat.zero_le _) ⟨_, rfl, G_S112, F_S112, by omega, by omega, by omega, (fun _ nm => zn_M.ip (by omega) (by omega) (by omega) (by omega) (by omega) (by omega)), (fun h => absurd (by omega) h), R_S112⟩
                  · exfalso; omega
                · exfalso; omega
abbrev zy_resultsOf_14_64 : mm_Y := (⟨"TensorForgeModel", "resultsOf", "(IIII)I"⟩, prog_14_method_64_code, 5, (some .int))
theorem zyw_resultsOf_14_64 : mm_Yw zy_resultsOf_14_64 4 := ⟨mm_tb_1 2091 (by decide +kernel) rfl, mm_tb_1 12 (by decide +kernel) rfl, ⟨by decide, by decide⟩, by decide +kernel⟩
theorem zg_14_64_0 : (decode zy_resultsOf_14_64.2.1 0 = .ok ((.iload_n 0), 1)) ∧ (decode zy_resultsOf_14_64.2.1 1 = .ok ((.iconst 2), 1)) ∧ (decode zy_resultsOf_14_64.2.1 2 = .ok ((.iload_n 3), 1)) ∧ (decode zy_resultsOf_14_64.2.1 3 = .ok ((.imul), 1)) ∧ (decode zy_resultsOf_14_64.2.1 4 = .ok ((.iadd), 1)) ∧ (decode zy_resultsOf_14_64.2.1 5 = .ok ((.iload_n 1), 1)) ∧ (decode zy_resultsOf_14_64.2.1 6 = .ok ((.isub), 1)) ∧ (decode zy_resultsOf_14_64.2.1 7 = .ok ((.istore 4), 2)) ∧ (decode zy_resultsOf_14_64.2.1 9 = .ok ((.iload 4), 2)) ∧ (decode zy_resultsOf_14_64.2.1 11 = .ok ((Instr.ifCond .ge) 7, 3)) := by decide +kernel
theorem zd_14_64_0 : zz_D zy_resultsOf_14_64 0 (.iload_n 0) 1 1 := ⟨zg_14_64_0.1, rfl⟩
theorem zd_14_64_1 : zz_D zy_resultsOf_14_64 1 (.iconst 2) 1 2 := ⟨zg_14_64_0.2.1, rfl⟩
theorem zd_14_64_2 : zz_D zy_resultsOf_14_64 2 (.iload_n 3) 1 3 := ⟨zg_14_64_0.2.2.1, rfl⟩
theorem zd_14_64_3 : zz_D zy_resultsOf_14_64 3 (.imul) 1 4 := ⟨zg_14_64_0.2.2.2.1, rfl⟩
theorem zd_14_64_4 : zz_D zy_resultsOf_14_64 4 (.iadd) 1 5 := ⟨zg_14_64_0.2.2.2.2.1, rfl⟩
theorem zd_14_64_5 : zz_D zy_resultsOf_14_64 5 (.iload_n 1) 1 6 := ⟨zg_14_64_0.2.2.2.2.2.1, rfl⟩
theorem zd_14_64_6 : zz_D zy_resultsOf_14_64 6 (.isub) 1 7 := ⟨zg_14_64_0.2.2.2.2.2.2.1, rfl⟩
theorem zd_14_64_7 : zz_D zy_resultsOf_14_64 7 (.istore 4) 2 9 := ⟨zg_14_64_0.2.2.2.2.2.2.2.1, rfl⟩
theorem zd_14_64_9 : zz_D zy_resultsOf_14_64 9 (.iload 4) 2 11 := ⟨zg_14_64_0.2.2.2.2.2.2.2.2.1, rfl⟩
theorem zd_14_64_11 : zz_B zy_resultsOf_14_64 11 (Instr.ifCond .ge) 18 14 := ⟨7, zg_14_64_0.2.2.2.2.2.2.2.2.2, rfl, rfl⟩
theorem zg_14_64_18 : (decode zy_resultsOf_14_64.2.1 18 = .ok ((.iload 4), 2)) ∧ (decode zy_resultsOf_14_64.2.1 20 = .ok ((.iload_n 2), 1)) ∧ (decode zy_resultsOf_14_64.2.1 21 = .ok ((.idiv), 1)) ∧ (decode zy_resultsOf_14_64.2.1 22 = .ok ((.iconst 1), 1)) ∧ (decode zy_resultsOf_14_64.2.1 23 = .ok ((.iadd), 1)) ∧ (decode zy_resultsOf_14_64.2.1 24 = .ok ((.ireturn), 1)) ∧ (decode zy_resultsOf_14_64.2.1 14 = .ok ((.iconst 0), 1)) ∧ (decode zy_resultsOf_14_64.2.1 15 = .ok (Instr.goto 9, 3)) := by decide +kernel
theorem zd_14_64_18 : zz_D zy_resultsOf_14_64 18 (.iload 4) 2 20 := ⟨zg_14_64_18.1, rfl⟩
theorem zd_14_64_20 : zz_D zy_resultsOf_14_64 20 (.iload_n 2) 1 21 := ⟨zg_14_64_18.2.1, rfl⟩
theorem zd_14_64_21 : zz_D zy_resultsOf_14_64 21 (.idiv) 1 22 := ⟨zg_14_64_18.2.2.1, rfl⟩
theorem zd_14_64_22 : zz_D zy_resultsOf_14_64 22 (.iconst 1) 1 23 := ⟨zg_14_64_18.2.2.2.1, rfl⟩
theorem zd_14_64_23 : zz_D zy_resultsOf_14_64 23 (.iadd) 1 24 := ⟨zg_14_64_18.2.2.2.2.1, rfl⟩
theorem zd_14_64_24 : zz_D zy_resultsOf_14_64 24 (.ireturn) 1 25 := ⟨zg_14_64_18.2.2.2.2.2.1, rfl⟩
theorem zd_14_64_14 : zz_D zy_resultsOf_14_64 14 (.iconst 0) 1 15 := ⟨zg_14_64_18.2.2.2.2.2.2.1, rfl⟩
theorem zd_14_64_15 : zz_B zy_resultsOf_14_64 15 Instr.goto 24 18 := ⟨9, zg_14_64_18.2.2.2.2.2.2.2, rfl, rfl⟩
-- TensorForgeModel resultsOf (IIII)I
abbrev zr_resultsOf_14_64 : Room := { frames := 0, cells := 0, slots := 0, locals := 0 }
def zp_resultsOf_14_64 (p0 : Int) (p1 : Int) (p2 : Int) (p3 : Int) (S0 : zz_S) : Int → zz_S → Prop := fun r S => S0 = S ∧ (0 ≤ r ∧ r ≤ 65) ∧ (r ≤ p0 + 2 * p3) ∧ (1 ≤ r → p2 * (r - 1) + p1 ≤ p0 + 2 * p3) ∧ ((p0 + 2 * p3 - p1 < 0 ∧ r = 0) ∨ (0 ≤ p0 + 2 * p3 - p1 ∧ r = (p0 + 2 * p3 - p1) / p2 + 1))
theorem zc_resultsOf_14_64 {g : mm_G} {l : Launch} (p0 : Int) (p1 : Int) (p2 : Int) (p3 : Int) (S0 : zz_S) (n : Nat) (hn : zz_end ≤ n) (G_S0 : zz_G S0) (hp0 : 0 ≤ p0 ∧ p0 ≤ 63) (hp1 : 1 ≤ p1 ∧ p1 ≤ 3) (hp2 : 1 ≤ p2 ∧ p2 ≤ 3) (hp3 : 0 ≤ p3 ∧ p3 ≤ 1) : mm_Met g l zy_resultsOf_14_64 zr_resultsOf_14_64 [zi p0, zi p1, zi p2, zi p3] (zz_M S0 n) n (zz_QI n (zp_resultsOf_14_64 p0 p1 p2 p3 S0)) := by
  refine zz_enter (by decide) (Nat.le_of_ble_eq_true rfl) (zz_less (ls1 := [some (zi p0), some (zi p1), some (zi p2), some (zi p3)]) ⟨rfl, ⟨rfl, ⟨rfl, ⟨rfl, trivial⟩⟩⟩⟩ ?_)
  rcases (by omega : p2 = 1 ∨ p2 = 2 ∨ p2 = 3) with rfl | rfl | rfl
  · refine zz_iload_n (x := p0) rfl zd_14_64_0 ?_
    refine zz_iconst zd_14_64_1 ?_
    refine zz_iload_n (x := p3) rfl zd_14_64_2 ?_
    refine zz_imul zd_14_64_3 ?_
    refine zz_iadd zd_14_64_4 ?_
    refine zz_iload_n (x := p1) rfl zd_14_64_5 ?_
    refine zz_isub zd_14_64_6 ?_
    refine zz_istore [some (zi p0), some (zi p1), some (zi 1), some (zi p3), some (zi ((p0 + (2 * p3)) - p1))] zd_14_64_7 (by decide) rfl ?_
    refine zz_iload (x := (p0 + (2 * p3)) - p1) rfl zd_14_64_9 ?_
    refine zz_if_ge (by omega) zd_14_64_11 (fun c1 => ?_) (fun c1 => ?_)
    · refine zz_iload (x := (p0 + (2 * p3)) - p1) rfl zd_14_64_18 ?_
      refine zz_iload_n (x := 1) rfl zd_14_64_20 ?_
      refine zz_idiv (by omega) (by omega) zd_14_64_21 (fun v2 hv2 av2 bv2 cv2 => ?_)
      obtain rfl : v2 = ((p0 + (2 * p3)) - p1) / 1 := by omega
      refine zz_iconst zd_14_64_22 ?_
      refine zz_iadd zd_14_64_23 ?_
      exact zz_iret zd_14_64_24 rfl (Nat.zero_le _) (Nat.zero_le _) ⟨_, _, rfl, rfl, by omega, by omega, by omega, by omega⟩
    · refine zz_iconst zd_14_64_14 ?_
      refine zz_goto zd_14_64_15 ?_
      exact zz_iret zd_14_64_24 rfl (Nat.zero_le _) (Nat.zero_le _) ⟨_, _, rfl, rfl, by omega, by omega, by omega, by omega⟩
  · refine zz_iload_n (x := p0) rfl zd_14_64_0 ?_
    refine zz_iconst zd_14_64_1 ?_
    refine zz_iload_n (x := p3) rfl zd_14_64_2 ?_
    refine zz_imul zd_14_64_3 ?_
    refine zz_iadd zd_14_64_4 ?_
    refine zz_iload_n (x := p1) rfl zd_14_64_5 ?_
    refine zz_isub zd_14_64_6 ?_
    refine zz_istore [some (zi p0), some (zi p1), some (zi 2), some (zi p3), some (zi ((p0 + (2 * p3)) - p1))] zd_14_64_7 (by decide) rfl ?_
    refine zz_iload (x := (p0 + (2 * p3)) - p1) rfl zd_14_64_9 ?_
    refine zz_if_ge (by omega) zd_14_64_11 (fun c3 => ?_) (fun c3 => ?_)
    · refine zz_iload (x := (p0 + (2 * p3)) - p1) rfl zd_14_64_18 ?_
      refine zz_iload_n (x := 2) rfl zd_14_64_20 ?_
      refine zz_idiv (by omega) (by omega) zd_14_64_21 (fun v4 hv4 av4 bv4 cv4 => ?_)
      obtain rfl : v4 = ((p0 + (2 * p3)) - p1) / 2 := by omega
      refine zz_iconst zd_14_64_22 ?_
      refine zz_iadd zd_14_64_23 ?_
      exact zz_iret zd_14_64_24 rfl (Nat.zero_le _) (Nat.zero_le _) ⟨_, _, rfl, rfl, by omega, by omega, by omega, by omega⟩
    · refine zz_iconst zd_14_64_14 ?_
      refine zz_goto zd_14_64_15 ?_
      exact zz_iret zd_14_64_24 rfl (Nat.zero_le _) (Nat.zero_le _) ⟨_, _, rfl, rfl, by omega, by omega, by omega, by omega⟩
  · refine zz_iload_n (x := p0) rfl zd_14_64_0 ?_
    refine zz_iconst zd_14_64_1 ?_
    refine zz_iload_n (x := p3) rfl zd_14_64_2 ?_
    refine zz_imul zd_14_64_3 ?_
    refine zz_iadd zd_14_64_4 ?_
    refine zz_iload_n (x := p1) rfl zd_14_64_5 ?_
    refine zz_isub zd_14_64_6 ?_
    refine zz_istore [some (zi p0), some (zi p1), some (zi 3), some (zi p3), some (zi ((p0 + (2 * p3)) - p1))] zd_14_64_7 (by decide) rfl ?_
    refine zz_iload (x := (p0 + (2 * p3)) - p1) rfl zd_14_64_9 ?_
    refine zz_if_ge (by omega) zd_14_64_11 (fun c5 => ?_) (fun c5 => ?_)
    · refine zz_iload (x := (p0 + (2 * p3)) - p1) rfl zd_14_64_18 ?_
      refine zz_iload_n (x := 3) rfl zd_14_64_20 ?_
      refine zz_idiv (by omega) (by omega) zd_14_64_21 (fun v6 hv6 av6 bv6 cv6 => ?_)
      obtain rfl : v6 = ((p0 + (2 * p3)) - p1) / 3 := by omega
      refine zz_iconst zd_14_64_22 ?_
      refine zz_iadd zd_14_64_23 ?_
      exact zz_iret zd_14_64_24 rfl (Nat.zero_le _) (Nat.zero_le _) ⟨_, _, rfl, rfl, by omega, by omega, by omega, by omega⟩
    · refine zz_iconst zd_14_64_14 ?_
      refine zz_goto zd_14_64_15 ?_
      exact zz_iret zd_14_64_24 rfl (Nat.zero_le _) (Nat.zero_le _) ⟨_, _, rfl, rfl, by omega, by omega, by omega, by omega⟩
abbrev zy_add_14_65 : mm_Y := (⟨"TensorForgeModel", "add", "(IIIII)I"⟩, prog_14_method_65_code, 7, (some .int))
theorem zyw_add_14_65 : mm_Yw zy_add_14_65 5 := ⟨mm_tb_1 2096 (by decide +kernel) rfl, mm_tb_1 12 (by decide +kernel) rfl, ⟨by decide, by decide⟩, by decide +kernel⟩
theorem zf_Md_100 : mm_Fl "TensorForgeModel" 100 11 41 (.array .int) true := ⟨R_Md, F_Md, 69, t_Md, rfl, i_Md, by decide, mm_tb_1 1652 (by decide +kernel) rfl, rfl, t_Md_ok, n_Md, rfl, by decide +kernel⟩
theorem zf_Md_103 : mm_Fl "TensorForgeModel" 103 11 42 (.array .int) true := ⟨R_Md, F_Md, 69, t_Md, rfl, i_Md, by decide, mm_tb_1 1653 (by decide +kernel) rfl, rfl, t_Md_ok, n_Md, rfl, by decide +kernel⟩
theorem zg_14_65_0 : (decode zy_add_14_65.2.1 0 = .ok ((.iload_n 3), 1)) ∧ (decode zy_add_14_65.2.1 1 = .ok ((.iload 4), 2)) ∧ (decode zy_add_14_65.2.1 3 = .ok ((.imul), 1)) ∧ (decode zy_add_14_65.2.1 4 = .ok ((.iload 5), 2)) ∧ (decode zy_add_14_65.2.1 6 = .ok ((.imul), 1)) ∧ (decode zy_add_14_65.2.1 7 = .ok ((.istore 6), 2)) ∧ (decode zy_add_14_65.2.1 9 = .ok ((.aload_n 0), 1)) ∧ (decode zy_add_14_65.2.1 10 = .ok ((.iconst 0), 1)) ∧ (decode zy_add_14_65.2.1 11 = .ok ((.iconst 0), 1)) ∧ (decode zy_add_14_65.2.1 12 = .ok ((.aload_n 0), 1)) := by decide +kernel
theorem zd_14_65_0 : zz_D zy_add_14_65 0 (.iload_n 3) 1 1 := ⟨zg_14_65_0.1, rfl⟩
theorem zd_14_65_1 : zz_D zy_add_14_65 1 (.iload 4) 2 3 := ⟨zg_14_65_0.2.1, rfl⟩
theorem zd_14_65_3 : zz_D zy_add_14_65 3 (.imul) 1 4 := ⟨zg_14_65_0.2.2.1, rfl⟩
theorem zd_14_65_4 : zz_D zy_add_14_65 4 (.iload 5) 2 6 := ⟨zg_14_65_0.2.2.2.1, rfl⟩
theorem zd_14_65_6 : zz_D zy_add_14_65 6 (.imul) 1 7 := ⟨zg_14_65_0.2.2.2.2.1, rfl⟩
theorem zd_14_65_7 : zz_D zy_add_14_65 7 (.istore 6) 2 9 := ⟨zg_14_65_0.2.2.2.2.2.1, rfl⟩
theorem zd_14_65_9 : zz_D zy_add_14_65 9 (.aload_n 0) 1 10 := ⟨zg_14_65_0.2.2.2.2.2.2.1, rfl⟩
theorem zd_14_65_10 : zz_D zy_add_14_65 10 (.iconst 0) 1 11 := ⟨zg_14_65_0.2.2.2.2.2.2.2.1, rfl⟩
theorem zd_14_65_11 : zz_D zy_add_14_65 11 (.iconst 0) 1 12 := ⟨zg_14_65_0.2.2.2.2.2.2.2.2.1, rfl⟩
theorem zd_14_65_12 : zz_D zy_add_14_65 12 (.aload_n 0) 1 13 := ⟨zg_14_65_0.2.2.2.2.2.2.2.2.2, rfl⟩
theorem zg_14_65_13 : (decode zy_add_14_65.2.1 13 = .ok ((.getfield 85), 3)) ∧ (decode zy_add_14_65.2.1 16 = .ok ((.bipush 10), 2)) ∧ (decode zy_add_14_65.2.1 18 = .ok ((Instr.if_icmp .gt) 21, 3)) ∧ (decode zy_add_14_65.2.1 39 = .ok ((.iconst 1), 1)) ∧ (decode zy_add_14_65.2.1 40 = .ok (Instr.goto 4, 3)) ∧ (decode zy_add_14_65.2.1 44 = .ok ((.invokevirtual 196), 3)) ∧ (decode zy_add_14_65.2.1 47 = .ok ((Instr.ifCond .eq) 5, 3)) ∧ (decode zy_add_14_65.2.1 50 = .ok ((.iconst 0), 1)) ∧ (decode zy_add_14_65.2.1 51 = .ok ((.ireturn), 1)) ∧ (decode zy_add_14_65.2.1 21 = .ok ((.aload_n 0), 1)) := by decide +kernel
theorem zd_14_65_13 : zz_D zy_add_14_65 13 (.getfield 85) 3 16 := ⟨zg_14_65_13.1, rfl⟩
theorem zd_14_65_16 : zz_D zy_add_14_65 16 (.bipush 10) 2 18 := ⟨zg_14_65_13.2.1, rfl⟩
theorem zd_14_65_18 : zz_B zy_add_14_65 18 (Instr.if_icmp .gt) 39 21 := ⟨21, zg_14_65_13.2.2.1, rfl, rfl⟩
theorem zd_14_65_39 : zz_D zy_add_14_65 39 (.iconst 1) 1 40 := ⟨zg_14_65_13.2.2.2.1, rfl⟩
theorem zd_14_65_40 : zz_B zy_add_14_65 40 Instr.goto 44 43 := ⟨4, zg_14_65_13.2.2.2.2.1, rfl, rfl⟩
theorem zd_14_65_44 : zz_D zy_add_14_65 44 (.invokevirtual 196) 3 47 := ⟨zg_14_65_13.2.2.2.2.2.1, rfl⟩
theorem zd_14_65_47 : zz_B zy_add_14_65 47 (Instr.ifCond .eq) 52 50 := ⟨5, zg_14_65_13.2.2.2.2.2.2.1, rfl, rfl⟩
theorem zd_14_65_50 : zz_D zy_add_14_65 50 (.iconst 0) 1 51 := ⟨zg_14_65_13.2.2.2.2.2.2.2.1, rfl⟩
theorem zd_14_65_51 : zz_D zy_add_14_65 51 (.ireturn) 1 52 := ⟨zg_14_65_13.2.2.2.2.2.2.2.2.1, rfl⟩
theorem zd_14_65_21 : zz_D zy_add_14_65 21 (.aload_n 0) 1 22 := ⟨zg_14_65_13.2.2.2.2.2.2.2.2.2, rfl⟩
theorem zg_14_65_22 : (decode zy_add_14_65.2.1 22 = .ok ((.getfield 97), 3)) ∧ (decode zy_add_14_65.2.1 25 = .ok ((.aload_n 0), 1)) ∧ (decode zy_add_14_65.2.1 26 = .ok ((.getfield 85), 3)) ∧ (decode zy_add_14_65.2.1 29 = .ok ((.iaload), 1)) ∧ (decode zy_add_14_65.2.1 30 = .ok ((.iload 6), 2)) ∧ (decode zy_add_14_65.2.1 32 = .ok ((.iadd), 1)) ∧ (decode zy_add_14_65.2.1 33 = .ok ((.sipush 2048), 3)) ∧ (decode zy_add_14_65.2.1 36 = .ok ((Instr.if_icmp .le) 7, 3)) ∧ (decode zy_add_14_65.2.1 43 = .ok ((.iconst 0), 1)) ∧ (decode zy_add_14_65.2.1 52 = .ok ((.aload_n 0), 1)) := by decide +kernel
theorem zd_14_65_22 : zz_D zy_add_14_65 22 (.getfield 97) 3 25 := ⟨zg_14_65_22.1, rfl⟩
theorem zd_14_65_25 : zz_D zy_add_14_65 25 (.aload_n 0) 1 26 := ⟨zg_14_65_22.2.1, rfl⟩
theorem zd_14_65_26 : zz_D zy_add_14_65 26 (.getfield 85) 3 29 := ⟨zg_14_65_22.2.2.1, rfl⟩
theorem zd_14_65_29 : zz_D zy_add_14_65 29 (.iaload) 1 30 := ⟨zg_14_65_22.2.2.2.1, rfl⟩
theorem zd_14_65_30 : zz_D zy_add_14_65 30 (.iload 6) 2 32 := ⟨zg_14_65_22.2.2.2.2.1, rfl⟩
theorem zd_14_65_32 : zz_D zy_add_14_65 32 (.iadd) 1 33 := ⟨zg_14_65_22.2.2.2.2.2.1, rfl⟩
theorem zd_14_65_33 : zz_D zy_add_14_65 33 (.sipush 2048) 3 36 := ⟨zg_14_65_22.2.2.2.2.2.2.1, rfl⟩
theorem zd_14_65_36 : zz_B zy_add_14_65 36 (Instr.if_icmp .le) 43 39 := ⟨7, zg_14_65_22.2.2.2.2.2.2.2.1, rfl, rfl⟩
theorem zd_14_65_43 : zz_D zy_add_14_65 43 (.iconst 0) 1 44 := ⟨zg_14_65_22.2.2.2.2.2.2.2.2.1, rfl⟩
theorem zd_14_65_52 : zz_D zy_add_14_65 52 (.aload_n 0) 1 53 := ⟨zg_14_65_22.2.2.2.2.2.2.2.2.2, rfl⟩
theorem zg_14_65_53 : (decode zy_add_14_65.2.1 53 = .ok ((.getfield 100), 3)) ∧ (decode zy_add_14_65.2.1 56 = .ok ((.aload_n 0), 1)) ∧ (decode zy_add_14_65.2.1 57 = .ok ((.getfield 85), 3)) ∧ (decode zy_add_14_65.2.1 60 = .ok ((.iconst 1), 1)) ∧ (decode zy_add_14_65.2.1 61 = .ok ((.isub), 1)) ∧ (decode zy_add_14_65.2.1 62 = .ok ((.iload_n 1), 1)) ∧ (decode zy_add_14_65.2.1 63 = .ok ((.iastore), 1)) ∧ (decode zy_add_14_65.2.1 64 = .ok ((.aload_n 0), 1)) ∧ (decode zy_add_14_65.2.1 65 = .ok ((.getfield 103), 3)) ∧ (decode zy_add_14_65.2.1 68 = .ok ((.aload_n 0), 1)) := by decide +kernel
theorem zd_14_65_53 : zz_D zy_add_14_65 53 (.getfield 100) 3 56 := ⟨zg_14_65_53.1, rfl⟩
theorem zd_14_65_56 : zz_D zy_add_14_65 56 (.aload_n 0) 1 57 := ⟨zg_14_65_53.2.1, rfl⟩
theorem zd_14_65_57 : zz_D zy_add_14_65 57 (.getfield 85) 3 60 := ⟨zg_14_65_53.2.2.1, rfl⟩
theorem zd_14_65_60 : zz_D zy_add_14_65 60 (.iconst 1) 1 61 := ⟨zg_14_65_53.2.2.2.1, rfl⟩
theorem zd_14_65_61 : zz_D zy_add_14_65 61 (.isub) 1 62 := ⟨zg_14_65_53.2.2.2.2.1, rfl⟩
theorem zd_14_65_62 : zz_D zy_add_14_65 62 (.iload_n 1) 1 63 := ⟨zg_14_65_53.2.2.2.2.2.1, rfl⟩
theorem zd_14_65_63 : zz_D zy_add_14_65 63 (.iastore) 1 64 := ⟨zg_14_65_53.2.2.2.2.2.2.1, rfl⟩
theorem zd_14_65_64 : zz_D zy_add_14_65 64 (.aload_n 0) 1 65 := ⟨zg_14_65_53.2.2.2.2.2.2.2.1, rfl⟩
theorem zd_14_65_65 : zz_D zy_add_14_65 65 (.getfield 103) 3 68 := ⟨zg_14_65_53.2.2.2.2.2.2.2.2.1, rfl⟩
theorem zd_14_65_68 : zz_D zy_add_14_65 68 (.aload_n 0) 1 69 := ⟨zg_14_65_53.2.2.2.2.2.2.2.2.2, rfl⟩
theorem zg_14_65_69 : (decode zy_add_14_65.2.1 69 = .ok ((.getfield 85), 3)) ∧ (decode zy_add_14_65.2.1 72 = .ok ((.iconst 1), 1)) ∧ (decode zy_add_14_65.2.1 73 = .ok ((.isub), 1)) ∧ (decode zy_add_14_65.2.1 74 = .ok ((.iload_n 2), 1)) ∧ (decode zy_add_14_65.2.1 75 = .ok ((.iastore), 1)) ∧ (decode zy_add_14_65.2.1 76 = .ok ((.aload_n 0), 1)) ∧ (decode zy_add_14_65.2.1 77 = .ok ((.getfield 88), 3)) ∧ (decode zy_add_14_65.2.1 80 = .ok ((.aload_n 0), 1)) ∧ (decode zy_add_14_65.2.1 81 = .ok ((.getfield 85), 3)) ∧ (decode zy_add_14_65.2.1 84 = .ok ((.iload_n 3), 1)) := by decide +kernel
theorem zd_14_65_69 : zz_D zy_add_14_65 69 (.getfield 85) 3 72 := ⟨zg_14_65_69.1, rfl⟩
theorem zd_14_65_72 : zz_D zy_add_14_65 72 (.iconst 1) 1 73 := ⟨zg_14_65_69.2.1, rfl⟩
theorem zd_14_65_73 : zz_D zy_add_14_65 73 (.isub) 1 74 := ⟨zg_14_65_69.2.2.1, rfl⟩
theorem zd_14_65_74 : zz_D zy_add_14_65 74 (.iload_n 2) 1 75 := ⟨zg_14_65_69.2.2.2.1, rfl⟩
theorem zd_14_65_75 : zz_D zy_add_14_65 75 (.iastore) 1 76 := ⟨zg_14_65_69.2.2.2.2.1, rfl⟩
theorem zd_14_65_76 : zz_D zy_add_14_65 76 (.aload_n 0) 1 77 := ⟨zg_14_65_69.2.2.2.2.2.1, rfl⟩
theorem zd_14_65_77 : zz_D zy_add_14_65 77 (.getfield 88) 3 80 := ⟨zg_14_65_69.2.2.2.2.2.2.1, rfl⟩
theorem zd_14_65_80 : zz_D zy_add_14_65 80 (.aload_n 0) 1 81 := ⟨zg_14_65_69.2.2.2.2.2.2.2.1, rfl⟩
theorem zd_14_65_81 : zz_D zy_add_14_65 81 (.getfield 85) 3 84 := ⟨zg_14_65_69.2.2.2.2.2.2.2.2.1, rfl⟩
theorem zd_14_65_84 : zz_D zy_add_14_65 84 (.iload_n 3) 1 85 := ⟨zg_14_65_69.2.2.2.2.2.2.2.2.2, rfl⟩
theorem zg_14_65_85 : (decode zy_add_14_65.2.1 85 = .ok ((.iastore), 1)) ∧ (decode zy_add_14_65.2.1 86 = .ok ((.aload_n 0), 1)) ∧ (decode zy_add_14_65.2.1 87 = .ok ((.getfield 91), 3)) ∧ (decode zy_add_14_65.2.1 90 = .ok ((.aload_n 0), 1)) ∧ (decode zy_add_14_65.2.1 91 = .ok ((.getfield 85), 3)) ∧ (decode zy_add_14_65.2.1 94 = .ok ((.iload 4), 2)) ∧ (decode zy_add_14_65.2.1 96 = .ok ((.iastore), 1)) ∧ (decode zy_add_14_65.2.1 97 = .ok ((.aload_n 0), 1)) ∧ (decode zy_add_14_65.2.1 98 = .ok ((.getfield 94), 3)) ∧ (decode zy_add_14_65.2.1 101 = .ok ((.aload_n 0), 1)) := by decide +kernel
theorem zd_14_65_85 : zz_D zy_add_14_65 85 (.iastore) 1 86 := ⟨zg_14_65_85.1, rfl⟩
theorem zd_14_65_86 : zz_D zy_add_14_65 86 (.aload_n 0) 1 87 := ⟨zg_14_65_85.2.1, rfl⟩
theorem zd_14_65_87 : zz_D zy_add_14_65 87 (.getfield 91) 3 90 := ⟨zg_14_65_85.2.2.1, rfl⟩
theorem zd_14_65_90 : zz_D zy_add_14_65 90 (.aload_n 0) 1 91 := ⟨zg_14_65_85.2.2.2.1, rfl⟩
theorem zd_14_65_91 : zz_D zy_add_14_65 91 (.getfield 85) 3 94 := ⟨zg_14_65_85.2.2.2.2.1, rfl⟩
theorem zd_14_65_94 : zz_D zy_add_14_65 94 (.iload 4) 2 96 := ⟨zg_14_65_85.2.2.2.2.2.1, rfl⟩
theorem zd_14_65_96 : zz_D zy_add_14_65 96 (.iastore) 1 97 := ⟨zg_14_65_85.2.2.2.2.2.2.1, rfl⟩
theorem zd_14_65_97 : zz_D zy_add_14_65 97 (.aload_n 0) 1 98 := ⟨zg_14_65_85.2.2.2.2.2.2.2.1, rfl⟩
theorem zd_14_65_98 : zz_D zy_add_14_65 98 (.getfield 94) 3 101 := ⟨zg_14_65_85.2.2.2.2.2.2.2.2.1, rfl⟩
theorem zd_14_65_101 : zz_D zy_add_14_65 101 (.aload_n 0) 1 102 := ⟨zg_14_65_85.2.2.2.2.2.2.2.2.2, rfl⟩
theorem zg_14_65_102 : (decode zy_add_14_65.2.1 102 = .ok ((.getfield 85), 3)) ∧ (decode zy_add_14_65.2.1 105 = .ok ((.iload 5), 2)) ∧ (decode zy_add_14_65.2.1 107 = .ok ((.iastore), 1)) ∧ (decode zy_add_14_65.2.1 108 = .ok ((.aload_n 0), 1)) ∧ (decode zy_add_14_65.2.1 109 = .ok ((.getfield 97), 3)) ∧ (decode zy_add_14_65.2.1 112 = .ok ((.aload_n 0), 1)) ∧ (decode zy_add_14_65.2.1 113 = .ok ((.getfield 85), 3)) ∧ (decode zy_add_14_65.2.1 116 = .ok ((.iconst 1), 1)) ∧ (decode zy_add_14_65.2.1 117 = .ok ((.iadd), 1)) ∧ (decode zy_add_14_65.2.1 118 = .ok ((.aload_n 0), 1)) := by decide +kernel
theorem zd_14_65_102 : zz_D zy_add_14_65 102 (.getfield 85) 3 105 := ⟨zg_14_65_102.1, rfl⟩
theorem zd_14_65_105 : zz_D zy_add_14_65 105 (.iload 5) 2 107 := ⟨zg_14_65_102.2.1, rfl⟩
theorem zd_14_65_107 : zz_D zy_add_14_65 107 (.iastore) 1 108 := ⟨zg_14_65_102.2.2.1, rfl⟩
theorem zd_14_65_108 : zz_D zy_add_14_65 108 (.aload_n 0) 1 109 := ⟨zg_14_65_102.2.2.2.1, rfl⟩
theorem zd_14_65_109 : zz_D zy_add_14_65 109 (.getfield 97) 3 112 := ⟨zg_14_65_102.2.2.2.2.1, rfl⟩
theorem zd_14_65_112 : zz_D zy_add_14_65 112 (.aload_n 0) 1 113 := ⟨zg_14_65_102.2.2.2.2.2.1, rfl⟩
theorem zd_14_65_113 : zz_D zy_add_14_65 113 (.getfield 85) 3 116 := ⟨zg_14_65_102.2.2.2.2.2.2.1, rfl⟩
theorem zd_14_65_116 : zz_D zy_add_14_65 116 (.iconst 1) 1 117 := ⟨zg_14_65_102.2.2.2.2.2.2.2.1, rfl⟩
theorem zd_14_65_117 : zz_D zy_add_14_65 117 (.iadd) 1 118 := ⟨zg_14_65_102.2.2.2.2.2.2.2.2.1, rfl⟩
theorem zd_14_65_118 : zz_D zy_add_14_65 118 (.aload_n 0) 1 119 := ⟨zg_14_65_102.2.2.2.2.2.2.2.2.2, rfl⟩
theorem zg_14_65_119 : (decode zy_add_14_65.2.1 119 = .ok ((.getfield 97), 3)) ∧ (decode zy_add_14_65.2.1 122 = .ok ((.aload_n 0), 1)) ∧ (decode zy_add_14_65.2.1 123 = .ok ((.getfield 85), 3)) ∧ (decode zy_add_14_65.2.1 126 = .ok ((.iaload), 1)) ∧ (decode zy_add_14_65.2.1 127 = .ok ((.iload 6), 2)) ∧ (decode zy_add_14_65.2.1 129 = .ok ((.iadd), 1)) ∧ (decode zy_add_14_65.2.1 130 = .ok ((.iastore), 1)) ∧ (decode zy_add_14_65.2.1 131 = .ok ((.aload_n 0), 1)) ∧ (decode zy_add_14_65.2.1 132 = .ok ((.dup), 1)) ∧ (decode zy_add_14_65.2.1 133 = .ok ((.getfield 85), 3)) := by decide +kernel
theorem zd_14_65_119 : zz_D zy_add_14_65 119 (.getfield 97) 3 122 := ⟨zg_14_65_119.1, rfl⟩
theorem zd_14_65_122 : zz_D zy_add_14_65 122 (.aload_n 0) 1 123 := ⟨zg_14_65_119.2.1, rfl⟩
theorem zd_14_65_123 : zz_D zy_add_14_65 123 (.getfield 85) 3 126 := ⟨zg_14_65_119.2.2.1, rfl⟩
theorem zd_14_65_126 : zz_D zy_add_14_65 126 (.iaload) 1 127 := ⟨zg_14_65_119.2.2.2.1, rfl⟩
theorem zd_14_65_127 : zz_D zy_add_14_65 127 (.iload 6) 2 129 := ⟨zg_14_65_119.2.2.2.2.1, rfl⟩
theorem zd_14_65_129 : zz_D zy_add_14_65 129 (.iadd) 1 130 := ⟨zg_14_65_119.2.2.2.2.2.1, rfl⟩
theorem zd_14_65_130 : zz_D zy_add_14_65 130 (.iastore) 1 131 := ⟨zg_14_65_119.2.2.2.2.2.2.1, rfl⟩
theorem zd_14_65_131 : zz_D zy_add_14_65 131 (.aload_n 0) 1 132 := ⟨zg_14_65_119.2.2.2.2.2.2.2.1, rfl⟩
theorem zd_14_65_132 : zz_D zy_add_14_65 132 (.dup) 1 133 := ⟨zg_14_65_119.2.2.2.2.2.2.2.2.1, rfl⟩
theorem zd_14_65_133 : zz_D zy_add_14_65 133 (.getfield 85) 3 136 := ⟨zg_14_65_119.2.2.2.2.2.2.2.2.2, rfl⟩
theorem zg_14_65_136 : (decode zy_add_14_65.2.1 136 = .ok ((.iconst 1), 1)) ∧ (decode zy_add_14_65.2.1 137 = .ok ((.iadd), 1)) ∧ (decode zy_add_14_65.2.1 138 = .ok ((.putfield 85), 3)) ∧ (decode zy_add_14_65.2.1 141 = .ok ((.aload_n 0), 1)) ∧ (decode zy_add_14_65.2.1 142 = .ok ((.getfield 85), 3)) ∧ (decode zy_add_14_65.2.1 145 = .ok ((.iconst 1), 1)) ∧ (decode zy_add_14_65.2.1 146 = .ok ((.isub), 1)) ∧ (decode zy_add_14_65.2.1 147 = .ok ((.ireturn), 1)) := by decide +kernel
theorem zd_14_65_136 : zz_D zy_add_14_65 136 (.iconst 1) 1 137 := ⟨zg_14_65_136.1, rfl⟩
theorem zd_14_65_137 : zz_D zy_add_14_65 137 (.iadd) 1 138 := ⟨zg_14_65_136.2.1, rfl⟩
theorem zd_14_65_138 : zz_D zy_add_14_65 138 (.putfield 85) 3 141 := ⟨zg_14_65_136.2.2.1, rfl⟩
theorem zd_14_65_141 : zz_D zy_add_14_65 141 (.aload_n 0) 1 142 := ⟨zg_14_65_136.2.2.2.1, rfl⟩
theorem zd_14_65_142 : zz_D zy_add_14_65 142 (.getfield 85) 3 145 := ⟨zg_14_65_136.2.2.2.2.1, rfl⟩
theorem zd_14_65_145 : zz_D zy_add_14_65 145 (.iconst 1) 1 146 := ⟨zg_14_65_136.2.2.2.2.2.1, rfl⟩
theorem zd_14_65_146 : zz_D zy_add_14_65 146 (.isub) 1 147 := ⟨zg_14_65_136.2.2.2.2.2.2.1, rfl⟩
theorem zd_14_65_147 : zz_D zy_add_14_65 147 (.ireturn) 1 148 := ⟨zg_14_65_136.2.2.2.2.2.2.2, rfl⟩
-- TensorForgeModel add (IIIII)I
abbrev zr_add_14_65 : Room := { frames := 1, cells := 0, slots := 0, locals := 15 }
def zp_add_14_65 (p0 : Int) (p1 : Int) (p2 : Int) (p3 : Int) (p4 : Int) (S0 : zz_S) : Int → zz_S → Prop := fun r S => zz_G S ∧ zz_fr [(1079, 0), (1079, 36)] [] (fun a i => (a = 1102 ∧ i = (S0 1079 36).toNat) ∨ (a = 1103 ∧ i = (S0 1079 36).toNat) ∨ (a = 1104 ∧ i = (S0 1079 36).toNat) ∨ (a = 1105 ∧ i = ((S0 1079 36) + 1).toNat) ∨ (a = 1106 ∧ i = ((S0 1079 36) - 1).toNat) ∨ (a = 1107 ∧ i = ((S0 1079 36) - 1).toNat)) S0 S ∧ (0 ≤ r ∧ r ≤ 10) ∧ ((S 1079 0 = 3 ∧ S 1079 36 = S0 1079 36) ∨ (S 1079 0 = 0 ∧ S0 1079 36 ≤ 10 ∧ r = S0 1079 36 ∧ S 1079 36 = S0 1079 36 + 1)) ∧ (S 1079 0 = 3 → zz_Hr S0 → zz_Hr S) ∧ (S 1079 0 = 0 → S 1102 (S0 1079 36).toNat = p2 ∧ S 1103 (S0 1079 36).toNat = p3 ∧ S 1104 (S0 1079 36).toNat = p4 ∧ S 1105 (S0 1079 36).toNat = S0 1105 (S0 1079 36).toNat ∧ S0 1105 (S0 1079 36).toNat + (p2 * p3) * p4 ≤ 2048 ∧ S 1106 (S0 1079 36 - 1).toNat = p0 ∧ S 1107 (S0 1079 36 - 1).toNat = p1) ∧ (S 1079 0 = 3 → ∀ v : zn_T, zn_M S0 v → zn_M S v) ∧ (S 1079 0 = 3 → 10 < S0 1079 36 ∨ 2048 < S0 1105 (S0 1079 36).toNat + (p2 * p3) * p4) ∧ (S 1079 0 = 0 → S 1105 (S0 1079 36 + 1).toNat = S0 1105 (S0 1079 36).toNat + (p2 * p3) * p4)
theorem zc_add_14_65 {g : mm_G} {l : Launch} (p0 : Int) (p1 : Int) (p2 : Int) (p3 : Int) (p4 : Int) (S0 : zz_S) (n : Nat) (hn : zz_end ≤ n) (G_S0 : zz_G S0) (hp0 : 0 ≤ p0 ∧ p0 ≤ 2) (hp1 : 0 ≤ p1 ∧ p1 ≤ 10) (hp2 : 0 ≤ p2 ∧ p2 ≤ 63) (hp3 : 0 ≤ p3 ∧ p3 ≤ 63) (hp4 : 0 ≤ p4 ∧ p4 ≤ 63) (hq : 1 ≤ S0 1079 36) : mm_Met g l zy_add_14_65 zr_add_14_65 [.ref 1079, zi p0, zi p1, zi p2, zi p3, zi p4] (zz_M S0 n) n (zz_QI n (zp_add_14_65 p0 p1 p2 p3 p4 S0)) := by
  refine zz_enter (by decide) (Nat.le_of_ble_eq_true rfl) (zz_less (ls1 := [some (.ref 1079), some (zi p0), some (zi p1), some (zi p2), some (zi p3), some (zi p4)]) ⟨rfl, ⟨rfl, ⟨rfl, ⟨rfl, ⟨rfl, ⟨rfl, trivial⟩⟩⟩⟩⟩⟩ ?_)
  have F_S0 : zz_fr [(1079, 0), (1079, 36)] [] (fun a i => (a = 1102 ∧ i = (S0 1079 36).toNat) ∨ (a = 1103 ∧ i = (S0 1079 36).toNat) ∨ (a = 1104 ∧ i = (S0 1079 36).toNat) ∨ (a = 1105 ∧ i = ((S0 1079 36) + 1).toNat) ∨ (a = 1106 ∧ i = ((S0 1079 36) - 1).toNat) ∨ (a = 1107 ∧ i = ((S0 1079 36) - 1).toNat)) S0 S0 := zz_fr.refl
  refine zz_iload_n (x := p2) rfl zd_14_65_0 ?_
  refine zz_iload (x := p3) rfl zd_14_65_1 ?_
  refine zz_imul zd_14_65_3 ?_
  have m1 := zz_mulb (a := p2) (b := p3) 63 63 3969 (by omega) (by omega) (by decide)
  refine zz_iload (x := p4) rfl zd_14_65_4 ?_
  refine zz_imul zd_14_65_6 ?_
  have m2 := zz_mulb (a := p2 * p3) (b := p4) 3969 63 250047 (by omega) (by omega) (by decide)
  refine zz_istore [some (.ref 1079), some (zi p0), some (zi p1), some (zi p2), some (zi p3), some (zi p4), some (zi ((p2 * p3) * p4))] zd_14_65_7 (by decide) rfl ?_
  refine zz_aload_n (x := 1079) rfl zd_14_65_9 ?_
  refine zz_iconst zd_14_65_10 ?_
  refine zz_iconst zd_14_65_11 ?_
  refine zz_aload_n (x := 1079) rfl zd_14_65_12 ?_
  have g3 := zz_G.r G_S0 1079 36 0 11 rfl rfl
  refine zz_geti (z := S0 1079 36) zd_14_65_13 zf_Md_85 zT_1079 rfl (zz_ltn hn rfl) rfl ?_
  refine zz_bipush (by decide) zd_14_65_16 ?_
  refine zz_icmp_gt (by omega) (by omega) zd_14_65_18 (fun c4 => ?_) (fun c4 => ?_)
  · refine zz_iconst zd_14_65_39 ?_
    refine zz_goto zd_14_65_40 ?_
    refine zz_callVI [zi 0, zi 0, zi 1] zd_14_65_44 zk_Md_196 zT_1079 (zz_ltn hn rfl) rfl rfl ⟨Nat.le_of_ble_eq_true rfl, Nat.le_of_ble_eq_true rfl⟩ ⟨rfl, rfl⟩ (Nat.zero_le _) (Nat.zero_le _) (zc_refuse_14_3 0 0 1 S0 n hn G_S0 (by omega) (by omega) (by omega)) (fun v6 S5 hP => ?_)
    obtain ⟨G_S5, fS5, o7, o8⟩ := hP
    have F_S5 := zz_fr.trans F_S0 fS5 rfl zz_nv
    rcases (by omega : v6 = 0 ∨ v6 = 1) with rfl | rfl
    · exfalso; omega
    · have e9 : S5 1079 0 = 3 := by omega
      clear o8
      refine zz_if_eq (by omega) zd_14_65_47 (fun c10 => ?_) (fun c10 => ?_)
      · exfalso; omega
      · refine zz_iconst zd_14_65_50 ?_
        have e11 : S5 1079 36 = S0 1079 36 := (zz_rc fS5 rfl rfl (fun h => h) rfl)
        have g12 := zz_G.r G_S0 1102 ((S0 1079 36).toNat) 0 63 rfl rfl
        have e13 : S5 1102 (S0 1079 36).toNat = S0 1102 (S0 1079 36).toNat := (zz_rc fS5 (zz_nc1 rfl) rfl (fun h => h) rfl)
        have g14 := zz_G.r G_S0 1103 ((S0 1079 36).toNat) 0 63 rfl rfl
        have e15 : S5 1103 (S0 1079 36).toNat = S0 1103 (S0 1079 36).toNat := (zz_rc fS5 (zz_nc1 rfl) rfl (fun h => h) rfl)
        have g16 := zz_G.r G_S0 1104 ((S0 1079 36).toNat) 0 63 rfl rfl
        have e17 : S5 1104 (S0 1079 36).toNat = S0 1104 (S0 1079 36).toNat := (zz_rc fS5 (zz_nc1 rfl) rfl (fun h => h) rfl)
        have g18 := zz_G.r G_S0 1105 ((S0 1079 36).toNat) (0) (if (S0 1079 36).toNat = 0 then 0 else 10000000) rfl rfl
        have e19 : S5 1105 (S0 1079 36).toNat = S0 1105 (S0 1079 36).toNat := (zz_rc fS5 (zz_nc1 rfl) rfl (fun h => h) rfl)
        have g20 := zz_G.r G_S0 1106 ((S0 1079 36 - 1).toNat) 0 2 rfl rfl
        have e21 : S5 1106 (S0 1079 36 - 1).toNat = S0 1106 (S0 1079 36 - 1).toNat := (zz_rc fS5 (zz_nc1 rfl) rfl (fun h => h) rfl)
        have g22 := zz_G.r G_S0 1107 ((S0 1079 36 - 1).toNat) 0 10 rfl rfl
        have e23 : S5 1107 (S0 1079 36 - 1).toNat = S0 1107 (S0 1079 36 - 1).toNat := (zz_rc fS5 (zz_nc1 rfl) rfl (fun h => h) rfl)
        have g24 := zz_G.r G_S0 1105 ((S0 1079 36 + 1).toNat) (0) (if (S0 1079 36 + 1).toNat = 0 then 0 else 10000000) rfl rfl
        have e25 : S5 1105 (S0 1079 36 + 1).toNat = S0 1105 (S0 1079 36 + 1).toNat := (zz_rc fS5 (zz_nc1 rfl) rfl (fun h => h) rfl)
        exact zz_iret zd_14_65_51 rfl (Nat.zero_le _) (Nat.zero_le _) ⟨_, _, rfl, G_S5, F_S5, by omega, by omega, fun _ h => zz_Hr.fr fS5 rfl rfl (fun b j h => h.elim) h, by omega, fun _ v h => zn_M.fr h fS5 rfl rfl (fun b j h => h.elim) (by omega), by omega, by omega⟩
  · refine zz_aload_n (x := 1079) rfl zd_14_65_21 ?_
    refine zz_getr (kd := 0) (z := 1105) zd_14_65_22 zf_Md_97 zT_1079 rfl (zz_ltn hn rfl) (zz_G.eq G_S0 1079 40 1105 rfl rfl) (by decide) 1105 rfl ?_
    refine zz_aload_n (x := 1079) rfl zd_14_65_25 ?_
    refine zz_geti (z := S0 1079 36) zd_14_65_26 zf_Md_85 zT_1079 rfl (zz_ltn hn rfl) rfl ?_
    have g26 := zz_G.r G_S0 1105 ((S0 1079 36).toNat) (0) (if (S0 1079 36).toNat = 0 then 0 else 10000000) rfl rfl
    refine zz_iald (z := S0 1105 ((S0 1079 36).toNat)) zd_14_65_29 zT_1105 rfl (zz_ltn hn rfl) (by decide) (by omega) rfl ?_
    refine zz_iload (x := (p2 * p3) * p4) rfl zd_14_65_30 ?_
    refine zz_iadd zd_14_65_32 ?_
    refine zz_nme (fun v27 ev27 => ?_)
    refine zz_sipush (by decide) zd_14_65_33 ?_
    refine zz_icmp_le (by omega) (by omega) zd_14_65_36 (fun c28 => ?_) (fun c28 => ?_)
    · refine zz_iconst zd_14_65_43 ?_
      refine zz_callVI [zi 0, zi 0, zi 0] zd_14_65_44 zk_Md_196 zT_1079 (zz_ltn hn rfl) rfl rfl ⟨Nat.le_of_ble_eq_true rfl, Nat.le_of_ble_eq_true rfl⟩ ⟨rfl, rfl⟩ (Nat.zero_le _) (Nat.zero_le _) (zc_refuse_14_3 0 0 0 S0 n hn G_S0 (by omega) (by omega) (by omega)) (fun v30 S29 hP => ?_)
      obtain ⟨G_S29, fS29, o31, o32⟩ := hP
      have F_S29 := zz_fr.trans F_S0 fS29 rfl zz_nv
      rcases (by omega : v30 = 0 ∨ v30 = 1) with rfl | rfl
      · have e33 : S29 1079 0 = 0 := by omega
        clear o32
        refine zz_if_eq (by omega) zd_14_65_47 (fun c34 => ?_) (fun c34 => ?_)
        · refine zz_aload_n (x := 1079) rfl zd_14_65_52 ?_
          refine zz_getr (kd := 0) (z := 1106) zd_14_65_53 zf_Md_100 zT_1079 rfl (zz_ltn hn rfl) (zz_G.eq G_S29 1079 41 1106 rfl rfl) (by decide) 1106 rfl ?_
          refine zz_aload_n (x := 1079) rfl zd_14_65_56 ?_
          refine zz_geti (z := S0 1079 36) zd_14_65_57 zf_Md_85 zT_1079 rfl (zz_ltn hn rfl) (zz_rc fS29 rfl rfl (fun h => h) rfl) ?_
          refine zz_iconst zd_14_65_60 ?_
          refine zz_isub zd_14_65_61 ?_
          refine zz_iload_n (x := p0) rfl zd_14_65_62 ?_
          refine zz_iast zd_14_65_63 zT_1106 rfl (zz_ltn hn rfl) (by decide) (by omega) (fun S35 qS35 => ?_)
          have G_S35 := zz_G.put G_S29 qS35 0 2 rfl (by omega)
          have F_S35 := zz_fr.putv F_S29 qS35 (Or.inr (Or.inr (Or.inr (Or.inr (Or.inl ⟨rfl, rfl⟩)))))
          refine zz_aload_n (x := 1079) rfl zd_14_65_64 ?_
          refine zz_getr (kd := 0) (z := 1107) zd_14_65_65 zf_Md_103 zT_1079 rfl (zz_ltn hn rfl) (zz_G.eq G_S35 1079 42 1107 rfl rfl) (by decide) 1107 rfl ?_
          refine zz_aload_n (x := 1079) rfl zd_14_65_68 ?_
          refine zz_geti (z := S0 1079 36) zd_14_65_69 zf_Md_85 zT_1079 rfl (zz_ltn hn rfl) (zz_ro qS35 (fun h => absurd h.1 (by decide)) (zz_rc fS29 rfl rfl (fun h => h) rfl)) ?_
          refine zz_iconst zd_14_65_72 ?_
          refine zz_isub zd_14_65_73 ?_
          refine zz_iload_n (x := p1) rfl zd_14_65_74 ?_
          refine zz_iast zd_14_65_75 zT_1107 rfl (zz_ltn hn rfl) (by decide) (by omega) (fun S36 qS36 => ?_)
          have G_S36 := zz_G.put G_S35 qS36 0 10 rfl (by omega)
          have F_S36 := zz_fr.putv F_S35 qS36 (Or.inr (Or.inr (Or.inr (Or.inr (Or.inr (⟨rfl, rfl⟩))))))
          refine zz_aload_n (x := 1079) rfl zd_14_65_76 ?_
          refine zz_getr (kd := 0) (z := 1102) zd_14_65_77 zf_Md_88 zT_1079 rfl (zz_ltn hn rfl) (zz_G.eq G_S36 1079 37 1102 rfl rfl) (by decide) 1102 rfl ?_
          refine zz_aload_n (x := 1079) rfl zd_14_65_80 ?_
          refine zz_geti (z := S0 1079 36) zd_14_65_81 zf_Md_85 zT_1079 rfl (zz_ltn hn rfl) (zz_ro qS36 (fun h => absurd h.1 (by decide)) (zz_ro qS35 (fun h => absurd h.1 (by decide)) (zz_rc fS29 rfl rfl (fun h => h) rfl))) ?_
          refine zz_iload_n (x := p2) rfl zd_14_65_84 ?_
          refine zz_iast zd_14_65_85 zT_1102 rfl (zz_ltn hn rfl) (by decide) (by omega) (fun S37 qS37 => ?_)
          have G_S37 := zz_G.put G_S36 qS37 0 63 rfl (by omega)
          have F_S37 := zz_fr.putv F_S36 qS37 (Or.inl ⟨rfl, rfl⟩)
          refine zz_aload_n (x := 1079) rfl zd_14_65_86 ?_
          refine zz_getr (kd := 0) (z := 1103) zd_14_65_87 zf_Md_91 zT_1079 rfl (zz_ltn hn rfl) (zz_G.eq G_S37 1079 38 1103 rfl rfl) (by decide) 1103 rfl ?_
          refine zz_aload_n (x := 1079) rfl zd_14_65_90 ?_
          refine zz_geti (z := S0 1079 36) zd_14_65_91 zf_Md_85 zT_1079 rfl (zz_ltn hn rfl) (zz_ro qS37 (fun h => absurd h.1 (by decide)) (zz_ro qS36 (fun h => absurd h.1 (by decide)) (zz_ro qS35 (fun h => absurd h.1 (by decide)) (zz_rc fS29 rfl rfl (fun h => h) rfl)))) ?_
          refine zz_iload (x := p3) rfl zd_14_65_94 ?_
          refine zz_iast zd_14_65_96 zT_1103 rfl (zz_ltn hn rfl) (by decide) (by omega) (fun S38 qS38 => ?_)
          have G_S38 := zz_G.put G_S37 qS38 0 63 rfl (by omega)
          have F_S38 := zz_fr.putv F_S37 qS38 (Or.inr (Or.inl ⟨rfl, rfl⟩))
          refine zz_aload_n (x := 1079) rfl zd_14_65_97 ?_
          refine zz_getr (kd := 0) (z := 1104) zd_14_65_98 zf_Md_94 zT_1079 rfl (zz_ltn hn rfl) (zz_G.eq G_S38 1079 39 1104 rfl rfl) (by decide) 1104 rfl ?_
          refine zz_aload_n (x := 1079) rfl zd_14_65_101 ?_
          refine zz_geti (z := S0 1079 36) zd_14_65_102 zf_Md_85 zT_1079 rfl (zz_ltn hn rfl) (zz_ro qS38 (fun h => absurd h.1 (by decide)) (zz_ro qS37 (fun h => absurd h.1 (by decide)) (zz_ro qS36 (fun h => absurd h.1 (by decide)) (zz_ro qS35 (fun h => absurd h.1 (by decide)) (zz_rc fS29 rfl rfl (fun h => h) rfl))))) ?_
          refine zz_iload (x := p4) rfl zd_14_65_105 ?_
          refine zz_iast zd_14_65_107 zT_1104 rfl (zz_ltn hn rfl) (by decide) (by omega) (fun S39 qS39 => ?_)
          have G_S39 := zz_G.put G_S38 qS39 0 63 rfl (by omega)
          have F_S39 := zz_fr.putv F_S38 qS39 (Or.inr (Or.inr (Or.inl ⟨rfl, rfl⟩)))
          refine zz_aload_n (x := 1079) rfl zd_14_65_108 ?_
          refine zz_getr (kd := 0) (z := 1105) zd_14_65_109 zf_Md_97 zT_1079 rfl (zz_ltn hn rfl) (zz_G.eq G_S39 1079 40 1105 rfl rfl) (by decide) 1105 rfl ?_
          refine zz_aload_n (x := 1079) rfl zd_14_65_112 ?_
          refine zz_geti (z := S0 1079 36) zd_14_65_113 zf_Md_85 zT_1079 rfl (zz_ltn hn rfl) (zz_ro qS39 (fun h => absurd h.1 (by decide)) (zz_ro qS38 (fun h => absurd h.1 (by decide)) (zz_ro qS37 (fun h => absurd h.1 (by decide)) (zz_ro qS36 (fun h => absurd h.1 (by decide)) (zz_ro qS35 (fun h => absurd h.1 (by decide)) (zz_rc fS29 rfl rfl (fun h => h) rfl)))))) ?_
          refine zz_iconst zd_14_65_116 ?_
          refine zz_iadd zd_14_65_117 ?_
          refine zz_aload_n (x := 1079) rfl zd_14_65_118 ?_
          refine zz_getr (kd := 0) (z := 1105) zd_14_65_119 zf_Md_97 zT_1079 rfl (zz_ltn hn rfl) (zz_G.eq G_S39 1079 40 1105 rfl rfl) (by decide) 1105 rfl ?_
          refine zz_aload_n (x := 1079) rfl zd_14_65_122 ?_
          refine zz_geti (z := S0 1079 36) zd_14_65_123 zf_Md_85 zT_1079 rfl (zz_ltn hn rfl) (zz_ro qS39 (fun h => absurd h.1 (by decide)) (zz_ro qS38 (fun h => absurd h.1 (by decide)) (zz_ro qS37 (fun h => absurd h.1 (by decide)) (zz_ro qS36 (fun h => absurd h.1 (by decide)) (zz_ro qS35 (fun h => absurd h.1 (by decide)) (zz_rc fS29 rfl rfl (fun h => h) rfl)))))) ?_
          refine zz_iald (z := S0 1105 ((S0 1079 36).toNat)) zd_14_65_126 zT_1105 rfl (zz_ltn hn rfl) (by decide) (by omega) (zz_ro qS39 (fun h => absurd h.1 (by decide)) (zz_ro qS38 (fun h => absurd h.1 (by decide)) (zz_ro qS37 (fun h => absurd h.1 (by decide)) (zz_ro qS36 (fun h => absurd h.1 (by decide)) (zz_ro qS35 (fun h => absurd h.1 (by decide)) (zz_rc fS29 (zz_nc1 rfl) rfl (fun h => h) rfl)))))) ?_
          refine zz_iload (x := (p2 * p3) * p4) rfl zd_14_65_127 ?_
          refine zz_iadd zd_14_65_129 ?_
          refine zz_nme (fun v40 ev40 => ?_)
          refine zz_iast zd_14_65_130 zT_1105 rfl (zz_ltn hn rfl) (by decide) (by omega) (fun S41 qS41 => ?_)
          have G_S41 := zz_G.put G_S39 qS41 (0) (if ((S0 1079 36) + 1).toNat = 0 then 0 else 10000000) rfl (by omega)
          have F_S41 := zz_fr.putv F_S39 qS41 (Or.inr (Or.inr (Or.inr (Or.inl ⟨rfl, rfl⟩))))
          refine zz_aload_n (x := 1079) rfl zd_14_65_131 ?_
          refine zz_dup rfl zd_14_65_132 ?_
          refine zz_geti (z := S0 1079 36) zd_14_65_133 zf_Md_85 zT_1079 rfl (zz_ltn hn rfl) (zz_ro qS41 (fun h => absurd h.1 (by decide)) (zz_ro qS39 (fun h => absurd h.1 (by decide)) (zz_ro qS38 (fun h => absurd h.1 (by decide)) (zz_ro qS37 (fun h => absurd h.1 (by decide)) (zz_ro qS36 (fun h => absurd h.1 (by decide)) (zz_ro qS35 (fun h => absurd h.1 (by decide)) (zz_rc fS29 rfl rfl (fun h => h) rfl))))))) ?_
          refine zz_iconst zd_14_65_136 ?_
          refine zz_iadd zd_14_65_137 ?_
          refine zz_puti zd_14_65_138 zf_Md_85 zT_1079 rfl (zz_ltn hn rfl) (fun S42 qS42 => ?_)
          have G_S42 := zz_G.put G_S41 qS42 0 11 rfl (by omega)
          have F_S42 := zz_fr.puts F_S41 qS42 rfl
          refine zz_aload_n (x := 1079) rfl zd_14_65_141 ?_
          refine zz_geti (z := (S0 1079 36) + 1) zd_14_65_142 zf_Md_85 zT_1079 rfl (zz_ltn hn rfl) (zz_rs qS42) ?_
          refine zz_iconst zd_14_65_145 ?_
          refine zz_isub zd_14_65_146 ?_
          have e43 : S42 1079 0 = S29 1079 0 := (zz_ro qS42 (fun h => absurd h.2 (by decide)) (zz_ro qS41 (fun h => absurd h.1 (by decide)) (zz_ro qS39 (fun h => absurd h.1 (by decide)) (zz_ro qS38 (fun h => absurd h.1 (by decide)) (zz_ro qS37 (fun h => absurd h.1 (by decide)) (zz_ro qS36 (fun h => absurd h.1 (by decide)) (zz_ro qS35 (fun h => absurd h.1 (by decide)) rfl)))))))
          have e44 : S42 1079 36 = (S0 1079 36) + 1 := (zz_rs qS42)
          have e45 : S42 1102 (S0 1079 36).toNat = p2 := (zz_ro qS42 (fun h => absurd h.1 (by decide)) (zz_ro qS41 (fun h => absurd h.1 (by decide)) (zz_ro qS39 (fun h => absurd h.1 (by decide)) (zz_ro qS38 (fun h => absurd h.1 (by decide)) (zz_rs qS37)))))
          have e46 : S42 1103 (S0 1079 36).toNat = p3 := (zz_ro qS42 (fun h => absurd h.1 (by decide)) (zz_ro qS41 (fun h => absurd h.1 (by decide)) (zz_ro qS39 (fun h => absurd h.1 (by decide)) (zz_rs qS38))))
          have e47 : S42 1104 (S0 1079 36).toNat = p4 := (zz_ro qS42 (fun h => absurd h.1 (by decide)) (zz_ro qS41 (fun h => absurd h.1 (by decide)) (zz_rs qS39)))
          have e48 : S42 1105 (S0 1079 36).toNat = S0 1105 (S0 1079 36).toNat := (zz_ro qS42 (fun h => absurd h.1 (by decide)) (zz_ro qS41 (fun h => absurd h.2 (by omega)) (zz_ro qS39 (fun h => absurd h.1 (by decide)) (zz_ro qS38 (fun h => absurd h.1 (by decide)) (zz_ro qS37 (fun h => absurd h.1 (by decide)) (zz_ro qS36 (fun h => absurd h.1 (by decide)) (zz_ro qS35 (fun h => absurd h.1 (by decide)) (zz_rc fS29 (zz_nc1 rfl) rfl (fun h => h) rfl))))))))
          have e49 : S42 1106 (S0 1079 36 - 1).toNat = p0 := (zz_ro qS42 (fun h => absurd h.1 (by decide)) (zz_ro qS41 (fun h => absurd h.1 (by decide)) (zz_ro qS39 (fun h => absurd h.1 (by decide)) (zz_ro qS38 (fun h => absurd h.1 (by decide)) (zz_ro qS37 (fun h => absurd h.1 (by decide)) (zz_ro qS36 (fun h => absurd h.1 (by decide)) (zz_rs qS35)))))))
          have e50 : S42 1107 (S0 1079 36 - 1).toNat = p1 := (zz_ro qS42 (fun h => absurd h.1 (by decide)) (zz_ro qS41 (fun h => absurd h.1 (by decide)) (zz_ro qS39 (fun h => absurd h.1 (by decide)) (zz_ro qS38 (fun h => absurd h.1 (by decide)) (zz_ro qS37 (fun h => absurd h.1 (by decide)) (zz_rs qS36))))))
          have e51 : S42 1105 (S0 1079 36 + 1).toNat = v40 := (zz_ro qS42 (fun h => absurd h.1 (by decide)) (zz_rs qS41))
          exact zz_iret zd_14_65_147 rfl (Nat.zero_le _) (Nat.zero_le _) ⟨_, _, rfl, G_S42, F_S42, by omega, by omega, fun h => absurd h (by omega), by omega, fun h => absurd h (by omega), by omega, by omega⟩
        · exfalso; omega
      · exfalso; omega
    · refine zz_iconst zd_14_65_39 ?_
      refine zz_goto zd_14_65_40 ?_
      refine zz_callVI [zi 0, zi 0, zi 1] zd_14_65_44 zk_Md_196 zT_1079 (zz_ltn hn rfl) rfl rfl ⟨Nat.le_of_ble_eq_true rfl, Nat.le_of_ble_eq_true rfl⟩ ⟨rfl, rfl⟩ (Nat.zero_le _) (Nat.zero_le _) (zc_refuse_14_3 0 0 1 S0 n hn G_S0 (by omega) (by omega) (by omega)) (fun v53 S52 hP => ?_)
      obtain ⟨G_S52, fS52, o54, o55⟩ := hP
      have F_S52 := zz_fr.trans F_S0 fS52 rfl zz_nv
      rcases (by omega : v53 = 0 ∨ v53 = 1) with rfl | rfl
      · exfalso; omega
      · have e56 : S52 1079 0 = 3 := by omega
        clear o55
        refine zz_if_eq (by omega) zd_14_65_47 (fun c57 => ?_) (fun c57 => ?_)
        · exfalso; omega
        · refine zz_iconst zd_14_65_50 ?_
          have e58 : S52 1079 36 = S0 1079 36 := (zz_rc fS52 rfl rfl (fun h => h) rfl)
          have g59 := zz_G.r G_S0 1102 ((S0 1079 36).toNat) 0 63 rfl rfl
          have e60 : S52 1102 (S0 1079 36).toNat = S0 1102 (S0 1079 36).toNat := (zz_rc fS52 (zz_nc1 rfl) rfl (fun h => h) rfl)
          have g61 := zz_G.r G_S0 1103 ((S0 1079 36).toNat) 0 63 rfl rfl
          have e62 : S52 1103 (S0 1079 36).toNat = S0 1103 (S0 1079 36).toNat := (zz_rc fS52 (zz_nc1 rfl) rfl (fun h => h) rfl)
          have g63 := zz_G.r G_S0 1104 ((S0 1079 36).toNat) 0 63 rfl rfl
          have e64 : S52 1104 (S0 1079 36).toNat = S0 1104 (S0 1079 36).toNat := (zz_rc fS52 (zz_nc1 rfl) rfl (fun h => h) rfl)
          have e65 : S52 1105 (S0 1079 36).toNat = S0 1105 (S0 1079 36).toNat := (zz_rc fS52 (zz_nc1 rfl) rfl (fun h => h) rfl)
          have g66 := zz_G.r G_S0 1106 ((S0 1079 36 - 1).toNat) 0 2 rfl rfl
          have e67 : S52 1106 (S0 1079 36 - 1).toNat = S0 1106 (S0 1079 36 - 1).toNat := (zz_rc fS52 (zz_nc1 rfl) rfl (fun h => h) rfl)
          have g68 := zz_G.r G_S0 1107 ((S0 1079 36 - 1).toNat) 0 10 rfl rfl
          have e69 : S52 1107 (S0 1079 36 - 1).toNat = S0 1107 (S0 1079 36 - 1).toNat := (zz_rc fS52 (zz_nc1 rfl) rfl (fun h => h) rfl)
          have g70 := zz_G.r G_S0 1105 ((S0 1079 36 + 1).toNat) (0) (if (S0 1079 36 + 1).toNat = 0 then 0 else 10000000) rfl rfl
          have e71 : S52 1105 (S0 1079 36 + 1).toNat = S0 1105 (S0 1079 36 + 1).toNat := (zz_rc fS52 (zz_nc1 rfl) rfl (fun h => h) rfl)
          exact zz_iret zd_14_65_51 rfl (Nat.zero_le _) (Nat.zero_le _) ⟨_, _, rfl, G_S52, F_S52, by omega, by omega, fun _ h => zz_Hr.fr fS52 rfl rfl (fun b j h => h.elim) h, by omega, fun _ v h => zn_M.fr h fS52 rfl rfl (fun b j h => h.elim) (by omega), by omega, by omega⟩
abbrev zy_isTensor_14_66 : mm_Y := (⟨"TensorForgeModel", "isTensor", "(I)Z"⟩, prog_14_method_66_code, 2, (some .boolean))
theorem zyw_isTensor_14_66 : mm_Yw zy_isTensor_14_66 1 := ⟨mm_tb_1 2085 (by decide +kernel) rfl, mm_tb_1 12 (by decide +kernel) rfl, ⟨by decide, by decide⟩, by decide +kernel⟩
theorem zg_14_66_0 : (decode zy_isTensor_14_66.2.1 0 = .ok ((.iload_n 1), 1)) ∧ (decode zy_isTensor_14_66.2.1 1 = .ok ((.i2l), 1)) ∧ (decode zy_isTensor_14_66.2.1 2 = .ok ((.lconst 0), 1)) ∧ (decode zy_isTensor_14_66.2.1 3 = .ok ((.aload_n 0), 1)) ∧ (decode zy_isTensor_14_66.2.1 4 = .ok ((.getfield 85), 3)) ∧ (decode zy_isTensor_14_66.2.1 7 = .ok ((.iconst 1), 1)) ∧ (decode zy_isTensor_14_66.2.1 8 = .ok ((.isub), 1)) ∧ (decode zy_isTensor_14_66.2.1 9 = .ok ((.i2l), 1)) ∧ (decode zy_isTensor_14_66.2.1 10 = .ok ((.invokestatic 192), 3)) ∧ (decode zy_isTensor_14_66.2.1 13 = .ok ((.ireturn), 1)) := by decide +kernel
theorem zd_14_66_0 : zz_D zy_isTensor_14_66 0 (.iload_n 1) 1 1 := ⟨zg_14_66_0.1, rfl⟩
theorem zd_14_66_1 : zz_D zy_isTensor_14_66 1 (.i2l) 1 2 := ⟨zg_14_66_0.2.1, rfl⟩
theorem zd_14_66_2 : zz_D zy_isTensor_14_66 2 (.lconst 0) 1 3 := ⟨zg_14_66_0.2.2.1, rfl⟩
theorem zd_14_66_3 : zz_D zy_isTensor_14_66 3 (.aload_n 0) 1 4 := ⟨zg_14_66_0.2.2.2.1, rfl⟩
theorem zd_14_66_4 : zz_D zy_isTensor_14_66 4 (.getfield 85) 3 7 := ⟨zg_14_66_0.2.2.2.2.1, rfl⟩
theorem zd_14_66_7 : zz_D zy_isTensor_14_66 7 (.iconst 1) 1 8 := ⟨zg_14_66_0.2.2.2.2.2.1, rfl⟩
theorem zd_14_66_8 : zz_D zy_isTensor_14_66 8 (.isub) 1 9 := ⟨zg_14_66_0.2.2.2.2.2.2.1, rfl⟩
theorem zd_14_66_9 : zz_D zy_isTensor_14_66 9 (.i2l) 1 10 := ⟨zg_14_66_0.2.2.2.2.2.2.2.1, rfl⟩
theorem zd_14_66_10 : zz_D zy_isTensor_14_66 10 (.invokestatic 192) 3 13 := ⟨zg_14_66_0.2.2.2.2.2.2.2.2.1, rfl⟩
theorem zd_14_66_13 : zz_D zy_isTensor_14_66 13 (.ireturn) 1 14 := ⟨zg_14_66_0.2.2.2.2.2.2.2.2.2, rfl⟩
-- TensorForgeModel isTensor (I)Z
abbrev zr_isTensor_14_66 : Room := { frames := 1, cells := 0, slots := 0, locals := 17 }
def zp_isTensor_14_66 (p0 : Int) (S0 : zz_S) : Int → zz_S → Prop := fun r S => S0 = S ∧ (0 ≤ r ∧ r ≤ 1) ∧ ((r = 1 ∧ 0 ≤ p0 ∧ p0 ≤ S0 1079 36 - 1) ∨ (r = 0 ∧ (p0 < 0 ∨ S0 1079 36 - 1 < p0)))
theorem zc_isTensor_14_66 {g : mm_G} {l : Launch} (p0 : Int) (S0 : zz_S) (n : Nat) (hn : zz_end ≤ n) (G_S0 : zz_G S0) (hp0 : (-2147483648) ≤ p0 ∧ p0 ≤ 2147483647) : mm_Met g l zy_isTensor_14_66 zr_isTensor_14_66 [.ref 1079, zi p0] (zz_M S0 n) n (zz_QI n (zp_isTensor_14_66 p0 S0)) := by
  refine zz_enter (by decide) (Nat.le_of_ble_eq_true rfl) (zz_less (ls1 := [some (.ref 1079), some (zi p0)]) ⟨rfl, ⟨rfl, trivial⟩⟩ ?_)
  refine zz_iload_n (x := p0) rfl zd_14_66_0 ?_
  refine zz_i2l (by omega) zd_14_66_1 ?_
  refine zz_lconst (z := 0) (by decide) zd_14_66_2 ?_
  refine zz_aload_n (x := 1079) rfl zd_14_66_3 ?_
  have g1 := zz_G.r G_S0 1079 36 0 11 rfl rfl
  refine zz_geti (z := S0 1079 36) zd_14_66_4 zf_Md_85 zT_1079 rfl (zz_ltn hn rfl) rfl ?_
  refine zz_iconst zd_14_66_7 ?_
  refine zz_isub zd_14_66_8 ?_
  refine zz_i2l (by omega) zd_14_66_9 ?_
  refine zz_callSI [zl p0, zl 0, zl ((S0 1079 36) - 1)] zd_14_66_10 zk_Md_192 rfl rfl ⟨Nat.le_of_ble_eq_true rfl, Nat.le_of_ble_eq_true rfl⟩ ⟨rfl, rfl⟩ (Nat.zero_le _) (Nat.zero_le _) (zc_in_14_4 p0 0 ((S0 1079 36) - 1) S0 n hn G_S0 (by omega) (by omega) (by omega)) (fun v3 S2 hP => ?_)
  obtain ⟨rfl, o4, o5⟩ := hP
  rcases (by omega : v3 = 0 ∨ v3 = 1) with rfl | rfl
  · have n6 : p0 < 0 ∨ (S0 1079 36) - 1 < p0 := by omega
    clear o5
    exact zz_zret zd_14_66_13 rfl (by omega) (Nat.zero_le _) (Nat.zero_le _) ⟨_, _, rfl, rfl, by omega, by omega⟩
  · have n7 : 0 ≤ p0 ∧ p0 ≤ (S0 1079 36) - 1 := by omega
    clear o5
    exact zz_zret zd_14_66_13 rfl (by omega) (Nat.zero_le _) (Nat.zero_le _) ⟨_, _, rfl, rfl, by omega, by omega⟩
abbrev zy_convolution_14_67 : mm_Y := (⟨"TensorForgeModel", "convolution", "(IIIIII)I"⟩, prog_14_method_67_code, 19, (some .int))
theorem zyw_convolution_14_67 : mm_Yw zy_convolution_14_67 6 := ⟨mm_tb_1 2081 (by decide +kernel) rfl, mm_tb_1 12 (by decide +kernel) rfl, ⟨by decide, by decide⟩, by decide +kernel⟩
theorem zk_Md_411 : mm_Vl "TensorForgeModel" 411 11 1 zy_isTensor_14_66 := ⟨zyw_isTensor_14_66, (R_Md, F_Md, 69), rfl, mm_tb_1 2082 (by decide +kernel) rfl, mm_tb_1 2084 (by decide +kernel) rfl, mm_tb_s 120 (by decide +kernel) rfl⟩
theorem zq_Md_414 : Cond.constantLong "TensorForgeModel" 414 (33 : Int64) ∈ mm_tb := mm_tb_1 2086 (by decide +kernel) rfl
theorem zq_Md_416 : Cond.constantLong "TensorForgeModel" 416 (3 : Int64) ∈ mm_tb := mm_tb_1 2087 (by decide +kernel) rfl
theorem zq_Md_418 : Cond.constantLong "TensorForgeModel" 418 (21 : Int64) ∈ mm_tb := mm_tb_1 2088 (by decide +kernel) rfl
theorem zk_Md_420 : mm_Sl "TensorForgeModel" 420 4 zy_resultsOf_14_64 := ⟨zyw_resultsOf_14_64, mm_tb_1 2089 (by decide +kernel) rfl, mm_tb_1 2090 (by decide +kernel) rfl⟩
theorem zq_Md_424 : Cond.constantLong "TensorForgeModel" 424 (4096 : Int64) ∈ mm_tb := mm_tb_1 2092 (by decide +kernel) rfl
theorem zk_Md_426 : mm_Vl "TensorForgeModel" 426 11 5 zy_add_14_65 := ⟨zyw_add_14_65, (R_Md, F_Md, 69), rfl, mm_tb_1 2093 (by decide +kernel) rfl, mm_tb_1 2095 (by decide +kernel) rfl, mm_tb_s 121 (by decide +kernel) rfl⟩
abbrev zy_setLayer_14_68 : mm_Y := (⟨"TensorForgeModel", "setLayer", "(IIIIII)V"⟩, prog_14_method_68_code, 7, none)
theorem zyw_setLayer_14_68 : mm_Yw zy_setLayer_14_68 6 := ⟨mm_tb_1 2100 (by decide +kernel) rfl, mm_tb_1 12 (by decide +kernel) rfl, ⟨by decide, by decide⟩, by decide +kernel⟩
theorem zf_Md_109 : mm_Fl "TensorForgeModel" 109 11 44 (.array .int) true := ⟨R_Md, F_Md, 69, t_Md, rfl, i_Md, by decide, mm_tb_1 1655 (by decide +kernel) rfl, rfl, t_Md_ok, n_Md, rfl, by decide +kernel⟩
theorem zf_Md_112 : mm_Fl "TensorForgeModel" 112 11 45 (.array .int) true := ⟨R_Md, F_Md, 69, t_Md, rfl, i_Md, by decide, mm_tb_1 1656 (by decide +kernel) rfl, rfl, t_Md_ok, n_Md, rfl, by decide +kernel⟩
theorem zf_Md_115 : mm_Fl "TensorForgeModel" 115 11 46 (.array .int) true := ⟨R_Md, F_Md, 69, t_Md, rfl, i_Md, by decide, mm_tb_1 1657 (by decide +kernel) rfl, rfl, t_Md_ok, n_Md, rfl, by decide +kernel⟩
theorem zf_Md_118 : mm_Fl "TensorForgeModel" 118 11 47 (.array .int) true := ⟨R_Md, F_Md, 69, t_Md, rfl, i_Md, by decide, mm_tb_1 1658 (by decide +kernel) rfl, rfl, t_Md_ok, n_Md, rfl, by decide +kernel⟩
theorem zf_Md_121 : mm_Fl "TensorForgeModel" 121 11 48 (.array .int) true := ⟨R_Md, F_Md, 69, t_Md, rfl, i_Md, by decide, mm_tb_1 1659 (by decide +kernel) rfl, rfl, t_Md_ok, n_Md, rfl, by decide +kernel⟩
theorem zg_14_67_0 : (decode zy_convolution_14_67.2.1 0 = .ok ((.aload_n 0), 1)) ∧ (decode zy_convolution_14_67.2.1 1 = .ok ((.iload_n 1), 1)) ∧ (decode zy_convolution_14_67.2.1 2 = .ok ((.invokevirtual 411), 3)) ∧ (decode zy_convolution_14_67.2.1 5 = .ok ((Instr.ifCond .ne) 13, 3)) ∧ (decode zy_convolution_14_67.2.1 8 = .ok ((.aload_n 0), 1)) ∧ (decode zy_convolution_14_67.2.1 9 = .ok ((.iconst 1), 1)) ∧ (decode zy_convolution_14_67.2.1 10 = .ok ((.iconst 0), 1)) ∧ (decode zy_convolution_14_67.2.1 11 = .ok ((.iconst 0), 1)) ∧ (decode zy_convolution_14_67.2.1 12 = .ok ((.invokevirtual 196), 3)) ∧ (decode zy_convolution_14_67.2.1 15 = .ok ((.pop), 1)) := by decide +kernel
theorem zd_14_67_0 : zz_D zy_convolution_14_67 0 (.aload_n 0) 1 1 := ⟨zg_14_67_0.1, rfl⟩
theorem zd_14_67_1 : zz_D zy_convolution_14_67 1 (.iload_n 1) 1 2 := ⟨zg_14_67_0.2.1, rfl⟩
theorem zd_14_67_2 : zz_D zy_convolution_14_67 2 (.invokevirtual 411) 3 5 := ⟨zg_14_67_0.2.2.1, rfl⟩
theorem zd_14_67_5 : zz_B zy_convolution_14_67 5 (Instr.ifCond .ne) 18 8 := ⟨13, zg_14_67_0.2.2.2.1, rfl, rfl⟩
theorem zd_14_67_8 : zz_D zy_convolution_14_67 8 (.aload_n 0) 1 9 := ⟨zg_14_67_0.2.2.2.2.1, rfl⟩
theorem zd_14_67_9 : zz_D zy_convolution_14_67 9 (.iconst 1) 1 10 := ⟨zg_14_67_0.2.2.2.2.2.1, rfl⟩
theorem zd_14_67_10 : zz_D zy_convolution_14_67 10 (.iconst 0) 1 11 := ⟨zg_14_67_0.2.2.2.2.2.2.1, rfl⟩
theorem zd_14_67_11 : zz_D zy_convolution_14_67 11 (.iconst 0) 1 12 := ⟨zg_14_67_0.2.2.2.2.2.2.2.1, rfl⟩
theorem zd_14_67_12 : zz_D zy_convolution_14_67 12 (.invokevirtual 196) 3 15 := ⟨zg_14_67_0.2.2.2.2.2.2.2.2.1, rfl⟩
theorem zd_14_67_15 : zz_D zy_convolution_14_67 15 (.pop) 1 16 := ⟨zg_14_67_0.2.2.2.2.2.2.2.2.2, rfl⟩
theorem zg_14_67_16 : (decode zy_convolution_14_67.2.1 16 = .ok ((.iconst 0), 1)) ∧ (decode zy_convolution_14_67.2.1 17 = .ok ((.ireturn), 1)) ∧ (decode zy_convolution_14_67.2.1 18 = .ok ((.iload_n 2), 1)) ∧ (decode zy_convolution_14_67.2.1 19 = .ok ((.bipush 10), 2)) ∧ (decode zy_convolution_14_67.2.1 21 = .ok ((.idiv), 1)) ∧ (decode zy_convolution_14_67.2.1 22 = .ok ((.istore 7), 2)) ∧ (decode zy_convolution_14_67.2.1 24 = .ok ((.iload_n 2), 1)) ∧ (decode zy_convolution_14_67.2.1 25 = .ok ((.bipush 10), 2)) ∧ (decode zy_convolution_14_67.2.1 27 = .ok ((.irem), 1)) ∧ (decode zy_convolution_14_67.2.1 28 = .ok ((.istore 8), 2)) := by decide +kernel
theorem zd_14_67_16 : zz_D zy_convolution_14_67 16 (.iconst 0) 1 17 := ⟨zg_14_67_16.1, rfl⟩
theorem zd_14_67_17 : zz_D zy_convolution_14_67 17 (.ireturn) 1 18 := ⟨zg_14_67_16.2.1, rfl⟩
theorem zd_14_67_18 : zz_D zy_convolution_14_67 18 (.iload_n 2) 1 19 := ⟨zg_14_67_16.2.2.1, rfl⟩
theorem zd_14_67_19 : zz_D zy_convolution_14_67 19 (.bipush 10) 2 21 := ⟨zg_14_67_16.2.2.2.1, rfl⟩
theorem zd_14_67_21 : zz_D zy_convolution_14_67 21 (.idiv) 1 22 := ⟨zg_14_67_16.2.2.2.2.1, rfl⟩
theorem zd_14_67_22 : zz_D zy_convolution_14_67 22 (.istore 7) 2 24 := ⟨zg_14_67_16.2.2.2.2.2.1, rfl⟩
theorem zd_14_67_24 : zz_D zy_convolution_14_67 24 (.iload_n 2) 1 25 := ⟨zg_14_67_16.2.2.2.2.2.2.1, rfl⟩
theorem zd_14_67_25 : zz_D zy_convolution_14_67 25 (.bipush 10) 2 27 := ⟨zg_14_67_16.2.2.2.2.2.2.2.1, rfl⟩
theorem zd_14_67_27 : zz_D zy_convolution_14_67 27 (.irem) 1 28 := ⟨zg_14_67_16.2.2.2.2.2.2.2.2.1, rfl⟩
theorem zd_14_67_28 : zz_D zy_convolution_14_67 28 (.istore 8) 2 30 := ⟨zg_14_67_16.2.2.2.2.2.2.2.2.2, rfl⟩
theorem zg_14_67_30 : (decode zy_convolution_14_67.2.1 30 = .ok ((.iload 4), 2)) ∧ (decode zy_convolution_14_67.2.1 32 = .ok ((.bipush 10), 2)) ∧ (decode zy_convolution_14_67.2.1 34 = .ok ((.idiv), 1)) ∧ (decode zy_convolution_14_67.2.1 35 = .ok ((.istore 9), 2)) ∧ (decode zy_convolution_14_67.2.1 37 = .ok ((.iload 4), 2)) ∧ (decode zy_convolution_14_67.2.1 39 = .ok ((.bipush 10), 2)) ∧ (decode zy_convolution_14_67.2.1 41 = .ok ((.irem), 1)) ∧ (decode zy_convolution_14_67.2.1 42 = .ok ((.istore 10), 2)) ∧ (decode zy_convolution_14_67.2.1 44 = .ok ((.iload_n 2), 1)) ∧ (decode zy_convolution_14_67.2.1 45 = .ok ((.i2l), 1)) := by decide +kernel
theorem zd_14_67_30 : zz_D zy_convolution_14_67 30 (.iload 4) 2 32 := ⟨zg_14_67_30.1, rfl⟩
theorem zd_14_67_32 : zz_D zy_convolution_14_67 32 (.bipush 10) 2 34 := ⟨zg_14_67_30.2.1, rfl⟩
theorem zd_14_67_34 : zz_D zy_convolution_14_67 34 (.idiv) 1 35 := ⟨zg_14_67_30.2.2.1, rfl⟩
theorem zd_14_67_35 : zz_D zy_convolution_14_67 35 (.istore 9) 2 37 := ⟨zg_14_67_30.2.2.2.1, rfl⟩
theorem zd_14_67_37 : zz_D zy_convolution_14_67 37 (.iload 4) 2 39 := ⟨zg_14_67_30.2.2.2.2.1, rfl⟩
theorem zd_14_67_39 : zz_D zy_convolution_14_67 39 (.bipush 10) 2 41 := ⟨zg_14_67_30.2.2.2.2.2.1, rfl⟩
theorem zd_14_67_41 : zz_D zy_convolution_14_67 41 (.irem) 1 42 := ⟨zg_14_67_30.2.2.2.2.2.2.1, rfl⟩
theorem zd_14_67_42 : zz_D zy_convolution_14_67 42 (.istore 10) 2 44 := ⟨zg_14_67_30.2.2.2.2.2.2.2.1, rfl⟩
theorem zd_14_67_44 : zz_D zy_convolution_14_67 44 (.iload_n 2) 1 45 := ⟨zg_14_67_30.2.2.2.2.2.2.2.2.1, rfl⟩
theorem zd_14_67_45 : zz_D zy_convolution_14_67 45 (.i2l) 1 46 := ⟨zg_14_67_30.2.2.2.2.2.2.2.2.2, rfl⟩
theorem zg_14_67_46 : (decode zy_convolution_14_67.2.1 46 = .ok ((.ldc2_w 218), 3)) ∧ (decode zy_convolution_14_67.2.1 49 = .ok ((.ldc2_w 414), 3)) ∧ (decode zy_convolution_14_67.2.1 52 = .ok ((.invokestatic 192), 3)) ∧ (decode zy_convolution_14_67.2.1 55 = .ok ((Instr.ifCond .eq) 97, 3)) ∧ (decode zy_convolution_14_67.2.1 152 = .ok ((.iconst 0), 1)) ∧ (decode zy_convolution_14_67.2.1 153 = .ok ((.istore 11), 2)) ∧ (decode zy_convolution_14_67.2.1 155 = .ok ((.iload 11), 2)) ∧ (decode zy_convolution_14_67.2.1 157 = .ok ((Instr.ifCond .eq) 21, 3)) ∧ (decode zy_convolution_14_67.2.1 178 = .ok ((.iconst 0), 1)) ∧ (decode zy_convolution_14_67.2.1 179 = .ok ((.istore 12), 2)) := by decide +kernel
theorem zd_14_67_46 : zz_D zy_convolution_14_67 46 (.ldc2_w 218) 3 49 := ⟨zg_14_67_46.1, rfl⟩
theorem zd_14_67_49 : zz_D zy_convolution_14_67 49 (.ldc2_w 414) 3 52 := ⟨zg_14_67_46.2.1, rfl⟩
theorem zd_14_67_52 : zz_D zy_convolution_14_67 52 (.invokestatic 192) 3 55 := ⟨zg_14_67_46.2.2.1, rfl⟩
theorem zd_14_67_55 : zz_B zy_convolution_14_67 55 (Instr.ifCond .eq) 152 58 := ⟨97, zg_14_67_46.2.2.2.1, rfl, rfl⟩
theorem zd_14_67_152 : zz_D zy_convolution_14_67 152 (.iconst 0) 1 153 := ⟨zg_14_67_46.2.2.2.2.1, rfl⟩
theorem zd_14_67_153 : zz_D zy_convolution_14_67 153 (.istore 11) 2 155 := ⟨zg_14_67_46.2.2.2.2.2.1, rfl⟩
theorem zd_14_67_155 : zz_D zy_convolution_14_67 155 (.iload 11) 2 157 := ⟨zg_14_67_46.2.2.2.2.2.2.1, rfl⟩
theorem zd_14_67_157 : zz_B zy_convolution_14_67 157 (Instr.ifCond .eq) 178 160 := ⟨21, zg_14_67_46.2.2.2.2.2.2.2.1, rfl, rfl⟩
theorem zd_14_67_178 : zz_D zy_convolution_14_67 178 (.iconst 0) 1 179 := ⟨zg_14_67_46.2.2.2.2.2.2.2.2.1, rfl⟩
theorem zd_14_67_179 : zz_D zy_convolution_14_67 179 (.istore 12) 2 181 := ⟨zg_14_67_46.2.2.2.2.2.2.2.2.2, rfl⟩
theorem zg_14_67_181 : (decode zy_convolution_14_67.2.1 181 = .ok ((.iload 11), 2)) ∧ (decode zy_convolution_14_67.2.1 183 = .ok ((Instr.ifCond .eq) 21, 3)) ∧ (decode zy_convolution_14_67.2.1 204 = .ok ((.iconst 0), 1)) ∧ (decode zy_convolution_14_67.2.1 205 = .ok ((.istore 13), 2)) ∧ (decode zy_convolution_14_67.2.1 207 = .ok ((.iload 11), 2)) ∧ (decode zy_convolution_14_67.2.1 209 = .ok ((Instr.ifCond .eq) 24, 3)) ∧ (decode zy_convolution_14_67.2.1 233 = .ok ((.lconst 0), 1)) ∧ (decode zy_convolution_14_67.2.1 234 = .ok ((.lstore 14), 2)) ∧ (decode zy_convolution_14_67.2.1 236 = .ok ((.iload 12), 2)) ∧ (decode zy_convolution_14_67.2.1 238 = .ok ((.i2l), 1)) := by decide +kernel
theorem zd_14_67_181 : zz_D zy_convolution_14_67 181 (.iload 11) 2 183 := ⟨zg_14_67_181.1, rfl⟩
theorem zd_14_67_183 : zz_B zy_convolution_14_67 183 (Instr.ifCond .eq) 204 186 := ⟨21, zg_14_67_181.2.1, rfl, rfl⟩
theorem zd_14_67_204 : zz_D zy_convolution_14_67 204 (.iconst 0) 1 205 := ⟨zg_14_67_181.2.2.1, rfl⟩
theorem zd_14_67_205 : zz_D zy_convolution_14_67 205 (.istore 13) 2 207 := ⟨zg_14_67_181.2.2.2.1, rfl⟩
theorem zd_14_67_207 : zz_D zy_convolution_14_67 207 (.iload 11) 2 209 := ⟨zg_14_67_181.2.2.2.2.1, rfl⟩
theorem zd_14_67_209 : zz_B zy_convolution_14_67 209 (Instr.ifCond .eq) 233 212 := ⟨24, zg_14_67_181.2.2.2.2.2.1, rfl, rfl⟩
theorem zd_14_67_233 : zz_D zy_convolution_14_67 233 (.lconst 0) 1 234 := ⟨zg_14_67_181.2.2.2.2.2.2.1, rfl⟩
theorem zd_14_67_234 : zz_D zy_convolution_14_67 234 (.lstore 14) 2 236 := ⟨zg_14_67_181.2.2.2.2.2.2.2.1, rfl⟩
theorem zd_14_67_236 : zz_D zy_convolution_14_67 236 (.iload 12) 2 238 := ⟨zg_14_67_181.2.2.2.2.2.2.2.2.1, rfl⟩
theorem zd_14_67_238 : zz_D zy_convolution_14_67 238 (.i2l) 1 239 := ⟨zg_14_67_181.2.2.2.2.2.2.2.2.2, rfl⟩
theorem zg_14_67_239 : (decode zy_convolution_14_67.2.1 239 = .ok ((.lconst 1), 1)) ∧ (decode zy_convolution_14_67.2.1 240 = .ok ((.ldc2_w 399), 3)) ∧ (decode zy_convolution_14_67.2.1 243 = .ok ((.invokestatic 192), 3)) ∧ (decode zy_convolution_14_67.2.1 246 = .ok ((Instr.ifCond .eq) 46, 3)) ∧ (decode zy_convolution_14_67.2.1 292 = .ok ((.iconst 0), 1)) ∧ (decode zy_convolution_14_67.2.1 293 = .ok ((.istore 16), 2)) ∧ (decode zy_convolution_14_67.2.1 295 = .ok ((.aload_n 0), 1)) ∧ (decode zy_convolution_14_67.2.1 296 = .ok ((.iconst 0), 1)) ∧ (decode zy_convolution_14_67.2.1 297 = .ok ((.iload 16), 2)) ∧ (decode zy_convolution_14_67.2.1 299 = .ok ((Instr.ifCond .ne) 7, 3)) := by decide +kernel
theorem zd_14_67_239 : zz_D zy_convolution_14_67 239 (.lconst 1) 1 240 := ⟨zg_14_67_239.1, rfl⟩
theorem zd_14_67_240 : zz_D zy_convolution_14_67 240 (.ldc2_w 399) 3 243 := ⟨zg_14_67_239.2.1, rfl⟩
theorem zd_14_67_243 : zz_D zy_convolution_14_67 243 (.invokestatic 192) 3 246 := ⟨zg_14_67_239.2.2.1, rfl⟩
theorem zd_14_67_246 : zz_B zy_convolution_14_67 246 (Instr.ifCond .eq) 292 249 := ⟨46, zg_14_67_239.2.2.2.1, rfl, rfl⟩
theorem zd_14_67_292 : zz_D zy_convolution_14_67 292 (.iconst 0) 1 293 := ⟨zg_14_67_239.2.2.2.2.1, rfl⟩
theorem zd_14_67_293 : zz_D zy_convolution_14_67 293 (.istore 16) 2 295 := ⟨zg_14_67_239.2.2.2.2.2.1, rfl⟩
theorem zd_14_67_295 : zz_D zy_convolution_14_67 295 (.aload_n 0) 1 296 := ⟨zg_14_67_239.2.2.2.2.2.2.1, rfl⟩
theorem zd_14_67_296 : zz_D zy_convolution_14_67 296 (.iconst 0) 1 297 := ⟨zg_14_67_239.2.2.2.2.2.2.2.1, rfl⟩
theorem zd_14_67_297 : zz_D zy_convolution_14_67 297 (.iload 16) 2 299 := ⟨zg_14_67_239.2.2.2.2.2.2.2.2.1, rfl⟩
theorem zd_14_67_299 : zz_B zy_convolution_14_67 299 (Instr.ifCond .ne) 306 302 := ⟨7, zg_14_67_239.2.2.2.2.2.2.2.2.2, rfl, rfl⟩
theorem zg_14_67_302 : (decode zy_convolution_14_67.2.1 302 = .ok ((.iconst 1), 1)) ∧ (decode zy_convolution_14_67.2.1 303 = .ok (Instr.goto 4, 3)) ∧ (decode zy_convolution_14_67.2.1 307 = .ok ((.iconst 0), 1)) ∧ (decode zy_convolution_14_67.2.1 308 = .ok ((.invokevirtual 196), 3)) ∧ (decode zy_convolution_14_67.2.1 311 = .ok ((Instr.ifCond .eq) 5, 3)) ∧ (decode zy_convolution_14_67.2.1 314 = .ok ((.iconst 0), 1)) ∧ (decode zy_convolution_14_67.2.1 315 = .ok ((.ireturn), 1)) ∧ (decode zy_convolution_14_67.2.1 58 = .ok ((.iload 7), 2)) ∧ (decode zy_convolution_14_67.2.1 60 = .ok ((.i2l), 1)) ∧ (decode zy_convolution_14_67.2.1 61 = .ok ((.lconst 1), 1)) := by decide +kernel
theorem zd_14_67_302 : zz_D zy_convolution_14_67 302 (.iconst 1) 1 303 := ⟨zg_14_67_302.1, rfl⟩
theorem zd_14_67_303 : zz_B zy_convolution_14_67 303 Instr.goto 307 306 := ⟨4, zg_14_67_302.2.1, rfl, rfl⟩
theorem zd_14_67_307 : zz_D zy_convolution_14_67 307 (.iconst 0) 1 308 := ⟨zg_14_67_302.2.2.1, rfl⟩
theorem zd_14_67_308 : zz_D zy_convolution_14_67 308 (.invokevirtual 196) 3 311 := ⟨zg_14_67_302.2.2.2.1, rfl⟩
theorem zd_14_67_311 : zz_B zy_convolution_14_67 311 (Instr.ifCond .eq) 316 314 := ⟨5, zg_14_67_302.2.2.2.2.1, rfl, rfl⟩
theorem zd_14_67_314 : zz_D zy_convolution_14_67 314 (.iconst 0) 1 315 := ⟨zg_14_67_302.2.2.2.2.2.1, rfl⟩
theorem zd_14_67_315 : zz_D zy_convolution_14_67 315 (.ireturn) 1 316 := ⟨zg_14_67_302.2.2.2.2.2.2.1, rfl⟩
theorem zd_14_67_58 : zz_D zy_convolution_14_67 58 (.iload 7) 2 60 := ⟨zg_14_67_302.2.2.2.2.2.2.2.1, rfl⟩
theorem zd_14_67_60 : zz_D zy_convolution_14_67 60 (.i2l) 1 61 := ⟨zg_14_67_302.2.2.2.2.2.2.2.2.1, rfl⟩
theorem zd_14_67_61 : zz_D zy_convolution_14_67 61 (.lconst 1) 1 62 := ⟨zg_14_67_302.2.2.2.2.2.2.2.2.2, rfl⟩
theorem zg_14_67_62 : (decode zy_convolution_14_67.2.1 62 = .ok ((.ldc2_w 416), 3)) ∧ (decode zy_convolution_14_67.2.1 65 = .ok ((.invokestatic 192), 3)) ∧ (decode zy_convolution_14_67.2.1 68 = .ok ((Instr.ifCond .eq) 84, 3)) ∧ (decode zy_convolution_14_67.2.1 71 = .ok ((.iload 8), 2)) ∧ (decode zy_convolution_14_67.2.1 73 = .ok ((.i2l), 1)) ∧ (decode zy_convolution_14_67.2.1 74 = .ok ((.lconst 1), 1)) ∧ (decode zy_convolution_14_67.2.1 75 = .ok ((.ldc2_w 416), 3)) ∧ (decode zy_convolution_14_67.2.1 78 = .ok ((.invokestatic 192), 3)) ∧ (decode zy_convolution_14_67.2.1 81 = .ok ((Instr.ifCond .eq) 71, 3)) ∧ (decode zy_convolution_14_67.2.1 84 = .ok ((.iload_n 3), 1)) := by decide +kernel
theorem zd_14_67_62 : zz_D zy_convolution_14_67 62 (.ldc2_w 416) 3 65 := ⟨zg_14_67_62.1, rfl⟩
theorem zd_14_67_65 : zz_D zy_convolution_14_67 65 (.invokestatic 192) 3 68 := ⟨zg_14_67_62.2.1, rfl⟩
theorem zd_14_67_68 : zz_B zy_convolution_14_67 68 (Instr.ifCond .eq) 152 71 := ⟨84, zg_14_67_62.2.2.1, rfl, rfl⟩
theorem zd_14_67_71 : zz_D zy_convolution_14_67 71 (.iload 8) 2 73 := ⟨zg_14_67_62.2.2.2.1, rfl⟩
theorem zd_14_67_73 : zz_D zy_convolution_14_67 73 (.i2l) 1 74 := ⟨zg_14_67_62.2.2.2.2.1, rfl⟩
theorem zd_14_67_74 : zz_D zy_convolution_14_67 74 (.lconst 1) 1 75 := ⟨zg_14_67_62.2.2.2.2.2.1, rfl⟩
theorem zd_14_67_75 : zz_D zy_convolution_14_67 75 (.ldc2_w 416) 3 78 := ⟨zg_14_67_62.2.2.2.2.2.2.1, rfl⟩
theorem zd_14_67_78 : zz_D zy_convolution_14_67 78 (.invokestatic 192) 3 81 := ⟨zg_14_67_62.2.2.2.2.2.2.2.1, rfl⟩
theorem zd_14_67_81 : zz_B zy_convolution_14_67 81 (Instr.ifCond .eq) 152 84 := ⟨71, zg_14_67_62.2.2.2.2.2.2.2.2.1, rfl, rfl⟩
theorem zd_14_67_84 : zz_D zy_convolution_14_67 84 (.iload_n 3) 1 85 := ⟨zg_14_67_62.2.2.2.2.2.2.2.2.2, rfl⟩
theorem zg_14_67_85 : (decode zy_convolution_14_67.2.1 85 = .ok ((.i2l), 1)) ∧ (decode zy_convolution_14_67.2.1 86 = .ok ((.lconst 1), 1)) ∧ (decode zy_convolution_14_67.2.1 87 = .ok ((.ldc2_w 367), 3)) ∧ (decode zy_convolution_14_67.2.1 90 = .ok ((.invokestatic 192), 3)) ∧ (decode zy_convolution_14_67.2.1 93 = .ok ((Instr.ifCond .eq) 59, 3)) ∧ (decode zy_convolution_14_67.2.1 96 = .ok ((.iload 4), 2)) ∧ (decode zy_convolution_14_67.2.1 98 = .ok ((.i2l), 1)) ∧ (decode zy_convolution_14_67.2.1 99 = .ok ((.ldc2_w 407), 3)) ∧ (decode zy_convolution_14_67.2.1 102 = .ok ((.ldc2_w 418), 3)) ∧ (decode zy_convolution_14_67.2.1 105 = .ok ((.invokestatic 192), 3)) := by decide +kernel
theorem zd_14_67_85 : zz_D zy_convolution_14_67 85 (.i2l) 1 86 := ⟨zg_14_67_85.1, rfl⟩
theorem zd_14_67_86 : zz_D zy_convolution_14_67 86 (.lconst 1) 1 87 := ⟨zg_14_67_85.2.1, rfl⟩
theorem zd_14_67_87 : zz_D zy_convolution_14_67 87 (.ldc2_w 367) 3 90 := ⟨zg_14_67_85.2.2.1, rfl⟩
theorem zd_14_67_90 : zz_D zy_convolution_14_67 90 (.invokestatic 192) 3 93 := ⟨zg_14_67_85.2.2.2.1, rfl⟩
theorem zd_14_67_93 : zz_B zy_convolution_14_67 93 (Instr.ifCond .eq) 152 96 := ⟨59, zg_14_67_85.2.2.2.2.1, rfl, rfl⟩
theorem zd_14_67_96 : zz_D zy_convolution_14_67 96 (.iload 4) 2 98 := ⟨zg_14_67_85.2.2.2.2.2.1, rfl⟩
theorem zd_14_67_98 : zz_D zy_convolution_14_67 98 (.i2l) 1 99 := ⟨zg_14_67_85.2.2.2.2.2.2.1, rfl⟩
theorem zd_14_67_99 : zz_D zy_convolution_14_67 99 (.ldc2_w 407) 3 102 := ⟨zg_14_67_85.2.2.2.2.2.2.2.1, rfl⟩
theorem zd_14_67_102 : zz_D zy_convolution_14_67 102 (.ldc2_w 418) 3 105 := ⟨zg_14_67_85.2.2.2.2.2.2.2.2.1, rfl⟩
theorem zd_14_67_105 : zz_D zy_convolution_14_67 105 (.invokestatic 192) 3 108 := ⟨zg_14_67_85.2.2.2.2.2.2.2.2.2, rfl⟩
theorem zg_14_67_108 : (decode zy_convolution_14_67.2.1 108 = .ok ((Instr.ifCond .eq) 44, 3)) ∧ (decode zy_convolution_14_67.2.1 111 = .ok ((.iload 9), 2)) ∧ (decode zy_convolution_14_67.2.1 113 = .ok ((.i2l), 1)) ∧ (decode zy_convolution_14_67.2.1 114 = .ok ((.lconst 1), 1)) ∧ (decode zy_convolution_14_67.2.1 115 = .ok ((.ldc2_w 169), 3)) ∧ (decode zy_convolution_14_67.2.1 118 = .ok ((.invokestatic 192), 3)) ∧ (decode zy_convolution_14_67.2.1 121 = .ok ((Instr.ifCond .eq) 31, 3)) ∧ (decode zy_convolution_14_67.2.1 124 = .ok ((.iload 10), 2)) ∧ (decode zy_convolution_14_67.2.1 126 = .ok ((.i2l), 1)) ∧ (decode zy_convolution_14_67.2.1 127 = .ok ((.lconst 0), 1)) := by decide +kernel
theorem zd_14_67_108 : zz_B zy_convolution_14_67 108 (Instr.ifCond .eq) 152 111 := ⟨44, zg_14_67_108.1, rfl, rfl⟩
theorem zd_14_67_111 : zz_D zy_convolution_14_67 111 (.iload 9) 2 113 := ⟨zg_14_67_108.2.1, rfl⟩
theorem zd_14_67_113 : zz_D zy_convolution_14_67 113 (.i2l) 1 114 := ⟨zg_14_67_108.2.2.1, rfl⟩
theorem zd_14_67_114 : zz_D zy_convolution_14_67 114 (.lconst 1) 1 115 := ⟨zg_14_67_108.2.2.2.1, rfl⟩
theorem zd_14_67_115 : zz_D zy_convolution_14_67 115 (.ldc2_w 169) 3 118 := ⟨zg_14_67_108.2.2.2.2.1, rfl⟩
theorem zd_14_67_118 : zz_D zy_convolution_14_67 118 (.invokestatic 192) 3 121 := ⟨zg_14_67_108.2.2.2.2.2.1, rfl⟩
theorem zd_14_67_121 : zz_B zy_convolution_14_67 121 (Instr.ifCond .eq) 152 124 := ⟨31, zg_14_67_108.2.2.2.2.2.2.1, rfl, rfl⟩
theorem zd_14_67_124 : zz_D zy_convolution_14_67 124 (.iload 10) 2 126 := ⟨zg_14_67_108.2.2.2.2.2.2.2.1, rfl⟩
theorem zd_14_67_126 : zz_D zy_convolution_14_67 126 (.i2l) 1 127 := ⟨zg_14_67_108.2.2.2.2.2.2.2.2.1, rfl⟩
theorem zd_14_67_127 : zz_D zy_convolution_14_67 127 (.lconst 0) 1 128 := ⟨zg_14_67_108.2.2.2.2.2.2.2.2.2, rfl⟩
theorem zg_14_67_128 : (decode zy_convolution_14_67.2.1 128 = .ok ((.lconst 1), 1)) ∧ (decode zy_convolution_14_67.2.1 129 = .ok ((.invokestatic 192), 3)) ∧ (decode zy_convolution_14_67.2.1 132 = .ok ((Instr.ifCond .eq) 20, 3)) ∧ (decode zy_convolution_14_67.2.1 135 = .ok ((.iload 5), 2)) ∧ (decode zy_convolution_14_67.2.1 137 = .ok ((.i2l), 1)) ∧ (decode zy_convolution_14_67.2.1 138 = .ok ((.lconst 0), 1)) ∧ (decode zy_convolution_14_67.2.1 139 = .ok ((.ldc2_w 357), 3)) ∧ (decode zy_convolution_14_67.2.1 142 = .ok ((.invokestatic 192), 3)) ∧ (decode zy_convolution_14_67.2.1 145 = .ok ((Instr.ifCond .eq) 7, 3)) ∧ (decode zy_convolution_14_67.2.1 148 = .ok ((.iconst 1), 1)) := by decide +kernel
theorem zd_14_67_128 : zz_D zy_convolution_14_67 128 (.lconst 1) 1 129 := ⟨zg_14_67_128.1, rfl⟩
theorem zd_14_67_129 : zz_D zy_convolution_14_67 129 (.invokestatic 192) 3 132 := ⟨zg_14_67_128.2.1, rfl⟩
theorem zd_14_67_132 : zz_B zy_convolution_14_67 132 (Instr.ifCond .eq) 152 135 := ⟨20, zg_14_67_128.2.2.1, rfl, rfl⟩
theorem zd_14_67_135 : zz_D zy_convolution_14_67 135 (.iload 5) 2 137 := ⟨zg_14_67_128.2.2.2.1, rfl⟩
theorem zd_14_67_137 : zz_D zy_convolution_14_67 137 (.i2l) 1 138 := ⟨zg_14_67_128.2.2.2.2.1, rfl⟩
theorem zd_14_67_138 : zz_D zy_convolution_14_67 138 (.lconst 0) 1 139 := ⟨zg_14_67_128.2.2.2.2.2.1, rfl⟩
theorem zd_14_67_139 : zz_D zy_convolution_14_67 139 (.ldc2_w 357) 3 142 := ⟨zg_14_67_128.2.2.2.2.2.2.1, rfl⟩
theorem zd_14_67_142 : zz_D zy_convolution_14_67 142 (.invokestatic 192) 3 145 := ⟨zg_14_67_128.2.2.2.2.2.2.2.1, rfl⟩
theorem zd_14_67_145 : zz_B zy_convolution_14_67 145 (Instr.ifCond .eq) 152 148 := ⟨7, zg_14_67_128.2.2.2.2.2.2.2.2.1, rfl, rfl⟩
theorem zd_14_67_148 : zz_D zy_convolution_14_67 148 (.iconst 1) 1 149 := ⟨zg_14_67_128.2.2.2.2.2.2.2.2.2, rfl⟩
theorem zg_14_67_149 : (decode zy_convolution_14_67.2.1 149 = .ok (Instr.goto 4, 3)) ∧ (decode zy_convolution_14_67.2.1 160 = .ok ((.aload_n 0), 1)) ∧ (decode zy_convolution_14_67.2.1 161 = .ok ((.getfield 88), 3)) ∧ (decode zy_convolution_14_67.2.1 164 = .ok ((.iload_n 1), 1)) ∧ (decode zy_convolution_14_67.2.1 165 = .ok ((.iaload), 1)) ∧ (decode zy_convolution_14_67.2.1 166 = .ok ((.iload 7), 2)) ∧ (decode zy_convolution_14_67.2.1 168 = .ok ((.iload 9), 2)) ∧ (decode zy_convolution_14_67.2.1 170 = .ok ((.iload 10), 2)) ∧ (decode zy_convolution_14_67.2.1 172 = .ok ((.invokestatic 420), 3)) ∧ (decode zy_convolution_14_67.2.1 175 = .ok (Instr.goto 4, 3)) := by decide +kernel
theorem zd_14_67_149 : zz_B zy_convolution_14_67 149 Instr.goto 153 152 := ⟨4, zg_14_67_149.1, rfl, rfl⟩
theorem zd_14_67_160 : zz_D zy_convolution_14_67 160 (.aload_n 0) 1 161 := ⟨zg_14_67_149.2.1, rfl⟩
theorem zd_14_67_161 : zz_D zy_convolution_14_67 161 (.getfield 88) 3 164 := ⟨zg_14_67_149.2.2.1, rfl⟩
theorem zd_14_67_164 : zz_D zy_convolution_14_67 164 (.iload_n 1) 1 165 := ⟨zg_14_67_149.2.2.2.1, rfl⟩
theorem zd_14_67_165 : zz_D zy_convolution_14_67 165 (.iaload) 1 166 := ⟨zg_14_67_149.2.2.2.2.1, rfl⟩
theorem zd_14_67_166 : zz_D zy_convolution_14_67 166 (.iload 7) 2 168 := ⟨zg_14_67_149.2.2.2.2.2.1, rfl⟩
theorem zd_14_67_168 : zz_D zy_convolution_14_67 168 (.iload 9) 2 170 := ⟨zg_14_67_149.2.2.2.2.2.2.1, rfl⟩
theorem zd_14_67_170 : zz_D zy_convolution_14_67 170 (.iload 10) 2 172 := ⟨zg_14_67_149.2.2.2.2.2.2.2.1, rfl⟩
theorem zd_14_67_172 : zz_D zy_convolution_14_67 172 (.invokestatic 420) 3 175 := ⟨zg_14_67_149.2.2.2.2.2.2.2.2.1, rfl⟩
theorem zd_14_67_175 : zz_B zy_convolution_14_67 175 Instr.goto 179 178 := ⟨4, zg_14_67_149.2.2.2.2.2.2.2.2.2, rfl, rfl⟩
theorem zg_14_67_186 : (decode zy_convolution_14_67.2.1 186 = .ok ((.aload_n 0), 1)) ∧ (decode zy_convolution_14_67.2.1 187 = .ok ((.getfield 91), 3)) ∧ (decode zy_convolution_14_67.2.1 190 = .ok ((.iload_n 1), 1)) ∧ (decode zy_convolution_14_67.2.1 191 = .ok ((.iaload), 1)) ∧ (decode zy_convolution_14_67.2.1 192 = .ok ((.iload 8), 2)) ∧ (decode zy_convolution_14_67.2.1 194 = .ok ((.iload 9), 2)) ∧ (decode zy_convolution_14_67.2.1 196 = .ok ((.iload 10), 2)) ∧ (decode zy_convolution_14_67.2.1 198 = .ok ((.invokestatic 420), 3)) ∧ (decode zy_convolution_14_67.2.1 201 = .ok (Instr.goto 4, 3)) ∧ (decode zy_convolution_14_67.2.1 212 = .ok ((.iload_n 3), 1)) := by decide +kernel
theorem zd_14_67_186 : zz_D zy_convolution_14_67 186 (.aload_n 0) 1 187 := ⟨zg_14_67_186.1, rfl⟩
theorem zd_14_67_187 : zz_D zy_convolution_14_67 187 (.getfield 91) 3 190 := ⟨zg_14_67_186.2.1, rfl⟩
theorem zd_14_67_190 : zz_D zy_convolution_14_67 190 (.iload_n 1) 1 191 := ⟨zg_14_67_186.2.2.1, rfl⟩
theorem zd_14_67_191 : zz_D zy_convolution_14_67 191 (.iaload) 1 192 := ⟨zg_14_67_186.2.2.2.1, rfl⟩
theorem zd_14_67_192 : zz_D zy_convolution_14_67 192 (.iload 8) 2 194 := ⟨zg_14_67_186.2.2.2.2.1, rfl⟩
theorem zd_14_67_194 : zz_D zy_convolution_14_67 194 (.iload 9) 2 196 := ⟨zg_14_67_186.2.2.2.2.2.1, rfl⟩
theorem zd_14_67_196 : zz_D zy_convolution_14_67 196 (.iload 10) 2 198 := ⟨zg_14_67_186.2.2.2.2.2.2.1, rfl⟩
theorem zd_14_67_198 : zz_D zy_convolution_14_67 198 (.invokestatic 420) 3 201 := ⟨zg_14_67_186.2.2.2.2.2.2.2.1, rfl⟩
theorem zd_14_67_201 : zz_B zy_convolution_14_67 201 Instr.goto 205 204 := ⟨4, zg_14_67_186.2.2.2.2.2.2.2.2.1, rfl, rfl⟩
theorem zd_14_67_212 : zz_D zy_convolution_14_67 212 (.iload_n 3) 1 213 := ⟨zg_14_67_186.2.2.2.2.2.2.2.2.2, rfl⟩
theorem zg_14_67_213 : (decode zy_convolution_14_67.2.1 213 = .ok ((.i2l), 1)) ∧ (decode zy_convolution_14_67.2.1 214 = .ok ((.iconst 4), 1)) ∧ (decode zy_convolution_14_67.2.1 215 = .ok ((.iload 7), 2)) ∧ (decode zy_convolution_14_67.2.1 217 = .ok ((.iload 8), 2)) ∧ (decode zy_convolution_14_67.2.1 219 = .ok ((.imul), 1)) ∧ (decode zy_convolution_14_67.2.1 220 = .ok ((.aload_n 0), 1)) ∧ (decode zy_convolution_14_67.2.1 221 = .ok ((.getfield 94), 3)) ∧ (decode zy_convolution_14_67.2.1 224 = .ok ((.iload_n 1), 1)) ∧ (decode zy_convolution_14_67.2.1 225 = .ok ((.iaload), 1)) ∧ (decode zy_convolution_14_67.2.1 226 = .ok ((.imul), 1)) := by decide +kernel
theorem zd_14_67_213 : zz_D zy_convolution_14_67 213 (.i2l) 1 214 := ⟨zg_14_67_213.1, rfl⟩
theorem zd_14_67_214 : zz_D zy_convolution_14_67 214 (.iconst 4) 1 215 := ⟨zg_14_67_213.2.1, rfl⟩
theorem zd_14_67_215 : zz_D zy_convolution_14_67 215 (.iload 7) 2 217 := ⟨zg_14_67_213.2.2.1, rfl⟩
theorem zd_14_67_217 : zz_D zy_convolution_14_67 217 (.iload 8) 2 219 := ⟨zg_14_67_213.2.2.2.1, rfl⟩
theorem zd_14_67_219 : zz_D zy_convolution_14_67 219 (.imul) 1 220 := ⟨zg_14_67_213.2.2.2.2.1, rfl⟩
theorem zd_14_67_220 : zz_D zy_convolution_14_67 220 (.aload_n 0) 1 221 := ⟨zg_14_67_213.2.2.2.2.2.1, rfl⟩
theorem zd_14_67_221 : zz_D zy_convolution_14_67 221 (.getfield 94) 3 224 := ⟨zg_14_67_213.2.2.2.2.2.2.1, rfl⟩
theorem zd_14_67_224 : zz_D zy_convolution_14_67 224 (.iload_n 1) 1 225 := ⟨zg_14_67_213.2.2.2.2.2.2.2.1, rfl⟩
theorem zd_14_67_225 : zz_D zy_convolution_14_67 225 (.iaload) 1 226 := ⟨zg_14_67_213.2.2.2.2.2.2.2.2.1, rfl⟩
theorem zd_14_67_226 : zz_D zy_convolution_14_67 226 (.imul) 1 227 := ⟨zg_14_67_213.2.2.2.2.2.2.2.2.2, rfl⟩
theorem zg_14_67_227 : (decode zy_convolution_14_67.2.1 227 = .ok ((.iadd), 1)) ∧ (decode zy_convolution_14_67.2.1 228 = .ok ((.i2l), 1)) ∧ (decode zy_convolution_14_67.2.1 229 = .ok ((.lmul), 1)) ∧ (decode zy_convolution_14_67.2.1 230 = .ok (Instr.goto 4, 3)) ∧ (decode zy_convolution_14_67.2.1 249 = .ok ((.iload 13), 2)) ∧ (decode zy_convolution_14_67.2.1 251 = .ok ((.i2l), 1)) ∧ (decode zy_convolution_14_67.2.1 252 = .ok ((.lconst 1), 1)) ∧ (decode zy_convolution_14_67.2.1 253 = .ok ((.ldc2_w 399), 3)) ∧ (decode zy_convolution_14_67.2.1 256 = .ok ((.invokestatic 192), 3)) ∧ (decode zy_convolution_14_67.2.1 259 = .ok ((Instr.ifCond .eq) 33, 3)) := by decide +kernel
theorem zd_14_67_227 : zz_D zy_convolution_14_67 227 (.iadd) 1 228 := ⟨zg_14_67_227.1, rfl⟩
theorem zd_14_67_228 : zz_D zy_convolution_14_67 228 (.i2l) 1 229 := ⟨zg_14_67_227.2.1, rfl⟩
theorem zd_14_67_229 : zz_D zy_convolution_14_67 229 (.lmul) 1 230 := ⟨zg_14_67_227.2.2.1, rfl⟩
theorem zd_14_67_230 : zz_B zy_convolution_14_67 230 Instr.goto 234 233 := ⟨4, zg_14_67_227.2.2.2.1, rfl, rfl⟩
theorem zd_14_67_249 : zz_D zy_convolution_14_67 249 (.iload 13) 2 251 := ⟨zg_14_67_227.2.2.2.2.1, rfl⟩
theorem zd_14_67_251 : zz_D zy_convolution_14_67 251 (.i2l) 1 252 := ⟨zg_14_67_227.2.2.2.2.2.1, rfl⟩
theorem zd_14_67_252 : zz_D zy_convolution_14_67 252 (.lconst 1) 1 253 := ⟨zg_14_67_227.2.2.2.2.2.2.1, rfl⟩
theorem zd_14_67_253 : zz_D zy_convolution_14_67 253 (.ldc2_w 399) 3 256 := ⟨zg_14_67_227.2.2.2.2.2.2.2.1, rfl⟩
theorem zd_14_67_256 : zz_D zy_convolution_14_67 256 (.invokestatic 192) 3 259 := ⟨zg_14_67_227.2.2.2.2.2.2.2.2.1, rfl⟩
theorem zd_14_67_259 : zz_B zy_convolution_14_67 259 (Instr.ifCond .eq) 292 262 := ⟨33, zg_14_67_227.2.2.2.2.2.2.2.2.2, rfl, rfl⟩
theorem zg_14_67_262 : (decode zy_convolution_14_67.2.1 262 = .ok ((.iload 6), 2)) ∧ (decode zy_convolution_14_67.2.1 264 = .ok ((.i2l), 1)) ∧ (decode zy_convolution_14_67.2.1 265 = .ok ((.lconst 0), 1)) ∧ (decode zy_convolution_14_67.2.1 266 = .ok ((.ldc2_w 424), 3)) ∧ (decode zy_convolution_14_67.2.1 269 = .ok ((.invokestatic 192), 3)) ∧ (decode zy_convolution_14_67.2.1 272 = .ok ((Instr.ifCond .eq) 20, 3)) ∧ (decode zy_convolution_14_67.2.1 275 = .ok ((.iload 6), 2)) ∧ (decode zy_convolution_14_67.2.1 277 = .ok ((.i2l), 1)) ∧ (decode zy_convolution_14_67.2.1 278 = .ok ((.lload 14), 2)) ∧ (decode zy_convolution_14_67.2.1 280 = .ok ((.ladd), 1)) := by decide +kernel
theorem zd_14_67_262 : zz_D zy_convolution_14_67 262 (.iload 6) 2 264 := ⟨zg_14_67_262.1, rfl⟩
theorem zd_14_67_264 : zz_D zy_convolution_14_67 264 (.i2l) 1 265 := ⟨zg_14_67_262.2.1, rfl⟩
theorem zd_14_67_265 : zz_D zy_convolution_14_67 265 (.lconst 0) 1 266 := ⟨zg_14_67_262.2.2.1, rfl⟩
theorem zd_14_67_266 : zz_D zy_convolution_14_67 266 (.ldc2_w 424) 3 269 := ⟨zg_14_67_262.2.2.2.1, rfl⟩
theorem zd_14_67_269 : zz_D zy_convolution_14_67 269 (.invokestatic 192) 3 272 := ⟨zg_14_67_262.2.2.2.2.1, rfl⟩
theorem zd_14_67_272 : zz_B zy_convolution_14_67 272 (Instr.ifCond .eq) 292 275 := ⟨20, zg_14_67_262.2.2.2.2.2.1, rfl, rfl⟩
theorem zd_14_67_275 : zz_D zy_convolution_14_67 275 (.iload 6) 2 277 := ⟨zg_14_67_262.2.2.2.2.2.2.1, rfl⟩
theorem zd_14_67_277 : zz_D zy_convolution_14_67 277 (.i2l) 1 278 := ⟨zg_14_67_262.2.2.2.2.2.2.2.1, rfl⟩
theorem zd_14_67_278 : zz_D zy_convolution_14_67 278 (.lload 14) 2 280 := ⟨zg_14_67_262.2.2.2.2.2.2.2.2.1, rfl⟩
theorem zd_14_67_280 : zz_D zy_convolution_14_67 280 (.ladd) 1 281 := ⟨zg_14_67_262.2.2.2.2.2.2.2.2.2, rfl⟩
theorem zg_14_67_281 : (decode zy_convolution_14_67.2.1 281 = .ok ((.ldc2_w 424), 3)) ∧ (decode zy_convolution_14_67.2.1 284 = .ok ((.lcmp), 1)) ∧ (decode zy_convolution_14_67.2.1 285 = .ok ((Instr.ifCond .gt) 7, 3)) ∧ (decode zy_convolution_14_67.2.1 288 = .ok ((.iconst 1), 1)) ∧ (decode zy_convolution_14_67.2.1 289 = .ok (Instr.goto 4, 3)) ∧ (decode zy_convolution_14_67.2.1 306 = .ok ((.iconst 0), 1)) ∧ (decode zy_convolution_14_67.2.1 316 = .ok ((.aload_n 0), 1)) ∧ (decode zy_convolution_14_67.2.1 317 = .ok ((.getfield 85), 3)) ∧ (decode zy_convolution_14_67.2.1 320 = .ok ((.iconst 1), 1)) ∧ (decode zy_convolution_14_67.2.1 321 = .ok ((.isub), 1)) := by decide +kernel
theorem zd_14_67_281 : zz_D zy_convolution_14_67 281 (.ldc2_w 424) 3 284 := ⟨zg_14_67_281.1, rfl⟩
theorem zd_14_67_284 : zz_D zy_convolution_14_67 284 (.lcmp) 1 285 := ⟨zg_14_67_281.2.1, rfl⟩
theorem zd_14_67_285 : zz_B zy_convolution_14_67 285 (Instr.ifCond .gt) 292 288 := ⟨7, zg_14_67_281.2.2.1, rfl, rfl⟩
theorem zd_14_67_288 : zz_D zy_convolution_14_67 288 (.iconst 1) 1 289 := ⟨zg_14_67_281.2.2.2.1, rfl⟩
theorem zd_14_67_289 : zz_B zy_convolution_14_67 289 Instr.goto 293 292 := ⟨4, zg_14_67_281.2.2.2.2.1, rfl, rfl⟩
theorem zd_14_67_306 : zz_D zy_convolution_14_67 306 (.iconst 0) 1 307 := ⟨zg_14_67_281.2.2.2.2.2.1, rfl⟩
theorem zd_14_67_316 : zz_D zy_convolution_14_67 316 (.aload_n 0) 1 317 := ⟨zg_14_67_281.2.2.2.2.2.2.1, rfl⟩
theorem zd_14_67_317 : zz_D zy_convolution_14_67 317 (.getfield 85) 3 320 := ⟨zg_14_67_281.2.2.2.2.2.2.2.1, rfl⟩
theorem zd_14_67_320 : zz_D zy_convolution_14_67 320 (.iconst 1) 1 321 := ⟨zg_14_67_281.2.2.2.2.2.2.2.2.1, rfl⟩
theorem zd_14_67_321 : zz_D zy_convolution_14_67 321 (.isub) 1 322 := ⟨zg_14_67_281.2.2.2.2.2.2.2.2.2, rfl⟩
theorem zg_14_67_322 : (decode zy_convolution_14_67.2.1 322 = .ok ((.istore 17), 2)) ∧ (decode zy_convolution_14_67.2.1 324 = .ok ((.aload_n 0), 1)) ∧ (decode zy_convolution_14_67.2.1 325 = .ok ((.iconst 0), 1)) ∧ (decode zy_convolution_14_67.2.1 326 = .ok ((.iload_n 1), 1)) ∧ (decode zy_convolution_14_67.2.1 327 = .ok ((.iload 12), 2)) ∧ (decode zy_convolution_14_67.2.1 329 = .ok ((.iload 13), 2)) ∧ (decode zy_convolution_14_67.2.1 331 = .ok ((.iload_n 3), 1)) ∧ (decode zy_convolution_14_67.2.1 332 = .ok ((.invokevirtual 426), 3)) ∧ (decode zy_convolution_14_67.2.1 335 = .ok ((.istore 18), 2)) ∧ (decode zy_convolution_14_67.2.1 337 = .ok ((.aload_n 0), 1)) := by decide +kernel
theorem zd_14_67_322 : zz_D zy_convolution_14_67 322 (.istore 17) 2 324 := ⟨zg_14_67_322.1, rfl⟩
theorem zd_14_67_324 : zz_D zy_convolution_14_67 324 (.aload_n 0) 1 325 := ⟨zg_14_67_322.2.1, rfl⟩
theorem zd_14_67_325 : zz_D zy_convolution_14_67 325 (.iconst 0) 1 326 := ⟨zg_14_67_322.2.2.1, rfl⟩
theorem zd_14_67_326 : zz_D zy_convolution_14_67 326 (.iload_n 1) 1 327 := ⟨zg_14_67_322.2.2.2.1, rfl⟩
theorem zd_14_67_327 : zz_D zy_convolution_14_67 327 (.iload 12) 2 329 := ⟨zg_14_67_322.2.2.2.2.1, rfl⟩
theorem zd_14_67_329 : zz_D zy_convolution_14_67 329 (.iload 13) 2 331 := ⟨zg_14_67_322.2.2.2.2.2.1, rfl⟩
theorem zd_14_67_331 : zz_D zy_convolution_14_67 331 (.iload_n 3) 1 332 := ⟨zg_14_67_322.2.2.2.2.2.2.1, rfl⟩
theorem zd_14_67_332 : zz_D zy_convolution_14_67 332 (.invokevirtual 426) 3 335 := ⟨zg_14_67_322.2.2.2.2.2.2.2.1, rfl⟩
theorem zd_14_67_335 : zz_D zy_convolution_14_67 335 (.istore 18) 2 337 := ⟨zg_14_67_322.2.2.2.2.2.2.2.2.1, rfl⟩
theorem zd_14_67_337 : zz_D zy_convolution_14_67 337 (.aload_n 0) 1 338 := ⟨zg_14_67_322.2.2.2.2.2.2.2.2.2, rfl⟩
theorem zg_14_67_338 : (decode zy_convolution_14_67.2.1 338 = .ok ((.getfield 187), 3)) ∧ (decode zy_convolution_14_67.2.1 341 = .ok ((Instr.ifCond .le) 5, 3)) ∧ (decode zy_convolution_14_67.2.1 346 = .ok ((.aload_n 0), 1)) ∧ (decode zy_convolution_14_67.2.1 347 = .ok ((.iload 17), 2)) ∧ (decode zy_convolution_14_67.2.1 349 = .ok ((.iload 7), 2)) ∧ (decode zy_convolution_14_67.2.1 351 = .ok ((.iload 8), 2)) ∧ (decode zy_convolution_14_67.2.1 353 = .ok ((.iload 9), 2)) ∧ (decode zy_convolution_14_67.2.1 355 = .ok ((.iload 10), 2)) ∧ (decode zy_convolution_14_67.2.1 357 = .ok ((.iload 5), 2)) ∧ (decode zy_convolution_14_67.2.1 359 = .ok ((.invokevirtual 430), 3)) := by decide +kernel
theorem zd_14_67_338 : zz_D zy_convolution_14_67 338 (.getfield 187) 3 341 := ⟨zg_14_67_338.1, rfl⟩
theorem zd_14_67_341 : zz_B zy_convolution_14_67 341 (Instr.ifCond .le) 346 344 := ⟨5, zg_14_67_338.2.1, rfl, rfl⟩
theorem zd_14_67_346 : zz_D zy_convolution_14_67 346 (.aload_n 0) 1 347 := ⟨zg_14_67_338.2.2.1, rfl⟩
theorem zd_14_67_347 : zz_D zy_convolution_14_67 347 (.iload 17) 2 349 := ⟨zg_14_67_338.2.2.2.1, rfl⟩
theorem zd_14_67_349 : zz_D zy_convolution_14_67 349 (.iload 7) 2 351 := ⟨zg_14_67_338.2.2.2.2.1, rfl⟩
theorem zd_14_67_351 : zz_D zy_convolution_14_67 351 (.iload 8) 2 353 := ⟨zg_14_67_338.2.2.2.2.2.1, rfl⟩
theorem zd_14_67_353 : zz_D zy_convolution_14_67 353 (.iload 9) 2 355 := ⟨zg_14_67_338.2.2.2.2.2.2.1, rfl⟩
theorem zd_14_67_355 : zz_D zy_convolution_14_67 355 (.iload 10) 2 357 := ⟨zg_14_67_338.2.2.2.2.2.2.2.1, rfl⟩
theorem zd_14_67_357 : zz_D zy_convolution_14_67 357 (.iload 5) 2 359 := ⟨zg_14_67_338.2.2.2.2.2.2.2.2.1, rfl⟩
theorem zd_14_67_359 : zz_D zy_convolution_14_67 359 (.invokevirtual 430) 3 362 := ⟨zg_14_67_338.2.2.2.2.2.2.2.2.2, rfl⟩
theorem zg_14_68_0 : (decode zy_setLayer_14_68.2.1 0 = .ok ((.aload_n 0), 1)) ∧ (decode zy_setLayer_14_68.2.1 1 = .ok ((.getfield 109), 3)) ∧ (decode zy_setLayer_14_68.2.1 4 = .ok ((.iload_n 1), 1)) ∧ (decode zy_setLayer_14_68.2.1 5 = .ok ((.iload_n 2), 1)) ∧ (decode zy_setLayer_14_68.2.1 6 = .ok ((.iastore), 1)) ∧ (decode zy_setLayer_14_68.2.1 7 = .ok ((.aload_n 0), 1)) ∧ (decode zy_setLayer_14_68.2.1 8 = .ok ((.getfield 112), 3)) ∧ (decode zy_setLayer_14_68.2.1 11 = .ok ((.iload_n 1), 1)) ∧ (decode zy_setLayer_14_68.2.1 12 = .ok ((.iload_n 3), 1)) ∧ (decode zy_setLayer_14_68.2.1 13 = .ok ((.iastore), 1)) := by decide +kernel
theorem zd_14_68_0 : zz_D zy_setLayer_14_68 0 (.aload_n 0) 1 1 := ⟨zg_14_68_0.1, rfl⟩
theorem zd_14_68_1 : zz_D zy_setLayer_14_68 1 (.getfield 109) 3 4 := ⟨zg_14_68_0.2.1, rfl⟩
theorem zd_14_68_4 : zz_D zy_setLayer_14_68 4 (.iload_n 1) 1 5 := ⟨zg_14_68_0.2.2.1, rfl⟩
theorem zd_14_68_5 : zz_D zy_setLayer_14_68 5 (.iload_n 2) 1 6 := ⟨zg_14_68_0.2.2.2.1, rfl⟩
theorem zd_14_68_6 : zz_D zy_setLayer_14_68 6 (.iastore) 1 7 := ⟨zg_14_68_0.2.2.2.2.1, rfl⟩
theorem zd_14_68_7 : zz_D zy_setLayer_14_68 7 (.aload_n 0) 1 8 := ⟨zg_14_68_0.2.2.2.2.2.1, rfl⟩
theorem zd_14_68_8 : zz_D zy_setLayer_14_68 8 (.getfield 112) 3 11 := ⟨zg_14_68_0.2.2.2.2.2.2.1, rfl⟩
theorem zd_14_68_11 : zz_D zy_setLayer_14_68 11 (.iload_n 1) 1 12 := ⟨zg_14_68_0.2.2.2.2.2.2.2.1, rfl⟩
theorem zd_14_68_12 : zz_D zy_setLayer_14_68 12 (.iload_n 3) 1 13 := ⟨zg_14_68_0.2.2.2.2.2.2.2.2.1, rfl⟩
theorem zd_14_68_13 : zz_D zy_setLayer_14_68 13 (.iastore) 1 14 := ⟨zg_14_68_0.2.2.2.2.2.2.2.2.2, rfl⟩
theorem zg_14_68_14 : (decode zy_setLayer_14_68.2.1 14 = .ok ((.aload_n 0), 1)) ∧ (decode zy_setLayer_14_68.2.1 15 = .ok ((.getfield 115), 3)) ∧ (decode zy_setLayer_14_68.2.1 18 = .ok ((.iload_n 1), 1)) ∧ (decode zy_setLayer_14_68.2.1 19 = .ok ((.iload 4), 2)) ∧ (decode zy_setLayer_14_68.2.1 21 = .ok ((.iastore), 1)) ∧ (decode zy_setLayer_14_68.2.1 22 = .ok ((.aload_n 0), 1)) ∧ (decode zy_setLayer_14_68.2.1 23 = .ok ((.getfield 118), 3)) ∧ (decode zy_setLayer_14_68.2.1 26 = .ok ((.iload_n 1), 1)) ∧ (decode zy_setLayer_14_68.2.1 27 = .ok ((.iload 5), 2)) ∧ (decode zy_setLayer_14_68.2.1 29 = .ok ((.iastore), 1)) := by decide +kernel
theorem zd_14_68_14 : zz_D zy_setLayer_14_68 14 (.aload_n 0) 1 15 := ⟨zg_14_68_14.1, rfl⟩
theorem zd_14_68_15 : zz_D zy_setLayer_14_68 15 (.getfield 115) 3 18 := ⟨zg_14_68_14.2.1, rfl⟩
theorem zd_14_68_18 : zz_D zy_setLayer_14_68 18 (.iload_n 1) 1 19 := ⟨zg_14_68_14.2.2.1, rfl⟩
theorem zd_14_68_19 : zz_D zy_setLayer_14_68 19 (.iload 4) 2 21 := ⟨zg_14_68_14.2.2.2.1, rfl⟩
theorem zd_14_68_21 : zz_D zy_setLayer_14_68 21 (.iastore) 1 22 := ⟨zg_14_68_14.2.2.2.2.1, rfl⟩
theorem zd_14_68_22 : zz_D zy_setLayer_14_68 22 (.aload_n 0) 1 23 := ⟨zg_14_68_14.2.2.2.2.2.1, rfl⟩
theorem zd_14_68_23 : zz_D zy_setLayer_14_68 23 (.getfield 118) 3 26 := ⟨zg_14_68_14.2.2.2.2.2.2.1, rfl⟩
theorem zd_14_68_26 : zz_D zy_setLayer_14_68 26 (.iload_n 1) 1 27 := ⟨zg_14_68_14.2.2.2.2.2.2.2.1, rfl⟩
theorem zd_14_68_27 : zz_D zy_setLayer_14_68 27 (.iload 5) 2 29 := ⟨zg_14_68_14.2.2.2.2.2.2.2.2.1, rfl⟩
theorem zd_14_68_29 : zz_D zy_setLayer_14_68 29 (.iastore) 1 30 := ⟨zg_14_68_14.2.2.2.2.2.2.2.2.2, rfl⟩
theorem zg_14_68_30 : (decode zy_setLayer_14_68.2.1 30 = .ok ((.aload_n 0), 1)) ∧ (decode zy_setLayer_14_68.2.1 31 = .ok ((.getfield 121), 3)) ∧ (decode zy_setLayer_14_68.2.1 34 = .ok ((.iload_n 1), 1)) ∧ (decode zy_setLayer_14_68.2.1 35 = .ok ((.iload 6), 2)) ∧ (decode zy_setLayer_14_68.2.1 37 = .ok ((.iastore), 1)) ∧ (decode zy_setLayer_14_68.2.1 38 = .ok ((.return_), 1)) := by decide +kernel
theorem zd_14_68_30 : zz_D zy_setLayer_14_68 30 (.aload_n 0) 1 31 := ⟨zg_14_68_30.1, rfl⟩
theorem zd_14_68_31 : zz_D zy_setLayer_14_68 31 (.getfield 121) 3 34 := ⟨zg_14_68_30.2.1, rfl⟩
theorem zd_14_68_34 : zz_D zy_setLayer_14_68 34 (.iload_n 1) 1 35 := ⟨zg_14_68_30.2.2.1, rfl⟩
theorem zd_14_68_35 : zz_D zy_setLayer_14_68 35 (.iload 6) 2 37 := ⟨zg_14_68_30.2.2.2.1, rfl⟩
theorem zd_14_68_37 : zz_D zy_setLayer_14_68 37 (.iastore) 1 38 := ⟨zg_14_68_30.2.2.2.2.1, rfl⟩
theorem zd_14_68_38 : zz_D zy_setLayer_14_68 38 (.return_) 1 39 := ⟨zg_14_68_30.2.2.2.2.2, rfl⟩

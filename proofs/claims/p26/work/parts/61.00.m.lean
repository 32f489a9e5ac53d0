-- TensorForgeModel input (III)V
abbrev zr_input_14_63 : Room := { frames := 1, cells := 0, slots := 0, locals := 17 }
def zp_input_14_63 (p0 : Int) (p1 : Int) (p2 : Int) (S0 : zz_S) : zz_S → Prop := fun S => zz_G S ∧ zz_fr [(1079, 0), (1079, 36), (1102, 0), (1103, 0), (1104, 0), (1105, 0), (1105, 1)] [] (fun _ _ => False) S0 S ∧ (S 1079 0 = 0 → S 1079 36 = 1) ∧ (1 ≤ S0 1079 36 → 1 ≤ S 1079 36) ∧ ((1 ≤ p0 ∧ p0 ≤ 63 ∧ 1 ≤ p1 ∧ p1 ≤ 63 ∧ 1 ≤ p2 ∧ p2 ≤ 63 ∧ (p0 * p1) * p2 ≤ 2048 ∧ S 1079 0 = 0) ∨ ((p0 < 1 ∨ 63 < p0 ∨ p1 < 1 ∨ 63 < p1 ∨ p2 < 1 ∨ 63 < p2 ∨ 2048 < (p0 * p1) * p2) ∧ S 1079 0 = 1)) ∧ (S 1079 0 = 0 → ∀ nm : Int, zn_M S (zn_ip p0 p1 p2 nm)) ∧ (S 1079 0 ≠ 0 → ∀ v : zn_T, zn_M S0 v → zn_M S v) ∧ (zz_Hr S)
theorem zc_input_14_63 {g : mm_G} {l : Launch} (p0 : Int) (p1 : Int) (p2 : Int) (S0 : zz_S) (n : Nat) (hn : zz_end ≤ n) (G_S0 : zz_G S0) (hp0 : (-2147483648) ≤ p0 ∧ p0 ≤ 2147483647) (hp1 : (-2147483648) ≤ p1 ∧ p1 ≤ 2147483647) (hp2 : (-2147483648) ≤ p2 ∧ p2 ≤ 2147483647) (R_S0 : zz_Hr S0) : mm_Met g l zy_input_14_63 zr_input_14_63 [.ref 1079, zi p0, zi p1, zi p2] (zz_M S0 n) n (zz_QV n (zp_input_14_63 p0 p1 p2 S0)) := by
  refine zz_enter (by decide) (Nat.le_of_ble_eq_true rfl) (zz_less (ls1 := [some (.ref 1079), some (zi p0), some (zi p1), some (zi p2)]) ⟨rfl, ⟨rfl, ⟨rfl, ⟨rfl, trivial⟩⟩⟩⟩ ?_)
  have F_S0 : zz_fr [(1079, 0), (1079, 36), (1102, 0), (1103, 0), (1104, 0), (1105, 0), (1105, 1)] [] (fun _ _ => False) S0 S0 := zz_fr.refl
  refine zz_iload_n (x := p0) rfl zd_14_63_0 ?_
  refine zz_i2l (by omega) zd_14_63_1 ?_
  refine zz_lconst (z := 1) (by decide) zd_14_63_2 ?_
  refine zz_ldc2 (z := 63) zq_Md_399 (by decide) zd_14_63_3 ?_
  refine zz_callSI [zl p0, zl 1, zl 63] zd_14_63_6 zk_Md_192 rfl rfl ⟨Nat.le_of_ble_eq_true rfl, Nat.le_of_ble_eq_true rfl⟩ ⟨rfl, rfl⟩ (Nat.zero_le _) (Nat.zero_le _) (zc_in_14_4 p0 1 63 S0 n hn G_S0 (by omega) (by omega) (by omega)) (fun v2 S1 hP => ?_)
  obtain ⟨rfl, o3, o4⟩ := hP
  rcases (by omega : v2 = 0 ∨ v2 = 1) with rfl | rfl
  · have n5 : p0 < 1 ∨ 63 < p0 := by omega
    clear o4
    refine zz_if_eq (by omega) zd_14_63_9 (fun c6 => ?_) (fun c6 => ?_)
    · refine zz_iconst zd_14_63_55 ?_
      refine zz_istore [some (.ref 1079), some (zi p0), some (zi p1), some (zi p2), some (zi 0)] zd_14_63_56 (by decide) rfl ?_
      refine zz_aload_n (x := 1079) rfl zd_14_63_58 ?_
      refine zz_iload (x := 0) rfl zd_14_63_59 ?_
      refine zz_if_ne (by omega) zd_14_63_61 (fun c7 => ?_) (fun c7 => ?_)
      · exfalso; omega
      · refine zz_iconst zd_14_63_64 ?_
        refine zz_goto zd_14_63_65 ?_
        refine zz_iconst zd_14_63_69 ?_
        refine zz_iconst zd_14_63_70 ?_
        refine zz_callVI [zi 1, zi 0, zi 0] zd_14_63_71 zk_Md_196 zT_1079 (zz_ltn hn rfl) rfl rfl ⟨Nat.le_of_ble_eq_true rfl, Nat.le_of_ble_eq_true rfl⟩ ⟨rfl, rfl⟩ (Nat.zero_le _) (Nat.zero_le _) (zc_refuse_14_3 1 0 0 S0 n hn G_S0 (by omega) (by omega) (by omega)) (fun v9 S8 hP => ?_)
        obtain ⟨G_S8, fS8, o10, o11⟩ := hP
        have F_S8 := zz_fr.trans F_S0 fS8 rfl zz_nv
        have R_S8 : zz_Hr S8 := zz_Hr.fr fS8 rfl rfl (fun b j h => h.elim) R_S0
        rcases (by omega : v9 = 0 ∨ v9 = 1) with rfl | rfl
        · exfalso; omega
        · have e12 : S8 1079 0 = 1 := by omega
          clear o11
          refine zz_if_ne (by omega) zd_14_63_74 (fun c13 => ?_) (fun c13 => ?_)
          · have g14 := zz_G.r G_S0 1079 36 0 11 rfl rfl
            have e15 : S8 1079 36 = S0 1079 36 := (zz_rc fS8 rfl rfl (fun h => h) rfl)
            have g16 := zz_G.r G_S0 1102 0 0 63 rfl rfl
            have e17 : S8 1102 0 = S0 1102 0 := (zz_rc fS8 (zz_nc1 rfl) rfl (fun h => h) rfl)
            have g18 := zz_G.r G_S0 1103 0 0 63 rfl rfl
            have e19 : S8 1103 0 = S0 1103 0 := (zz_rc fS8 (zz_nc1 rfl) rfl (fun h => h) rfl)
            have g20 := zz_G.r G_S0 1104 0 0 63 rfl rfl
            have e21 : S8 1104 0 = S0 1104 0 := (zz_rc fS8 (zz_nc1 rfl) rfl (fun h => h) rfl)
            have g22 := zz_G.r G_S0 1105 0 0 0 rfl rfl
            have e23 : S8 1105 0 = S0 1105 0 := (zz_rc fS8 (zz_nc1 rfl) rfl (fun h => h) rfl)
            have g24 := zz_G.r G_S0 1105 1 0 10000000 rfl rfl
            have e25 : S8 1105 1 = S0 1105 1 := (zz_rc fS8 (zz_nc1 rfl) rfl (fun h => h) rfl)
            exact zz_vret zd_14_63_84 rfl (Nat.zero_le _) (Nat.zero_le _) ⟨_, rfl, G_S8, F_S8, by omega, by omega, by omega, (fun h => absurd h (by omega)), (fun _ v hM => zn_M.fr hM fS8 rfl rfl (fun b j h => h.elim) (by omega)), R_S8⟩
          · exfalso; omega
    · exfalso; omega
  · have n26 : 1 ≤ p0 ∧ p0 ≤ 63 := by omega
    clear o4
    refine zz_if_eq (by omega) zd_14_63_9 (fun c27 => ?_) (fun c27 => ?_)
    · exfalso; omega
    · refine zz_iload_n (x := p1) rfl zd_14_63_12 ?_
      refine zz_i2l (by omega) zd_14_63_13 ?_
      refine zz_lconst (z := 1) (by decide) zd_14_63_14 ?_
      refine zz_ldc2 (z := 63) zq_Md_399 (by decide) zd_14_63_15 ?_
      refine zz_callSI [zl p1, zl 1, zl 63] zd_14_63_18 zk_Md_192 rfl rfl ⟨Nat.le_of_ble_eq_true rfl, Nat.le_of_ble_eq_true rfl⟩ ⟨rfl, rfl⟩ (Nat.zero_le _) (Nat.zero_le _) (zc_in_14_4 p1 1 63 S0 n hn G_S0 (by omega) (by omega) (by omega)) (fun v29 S28 hP => ?_)
      obtain ⟨rfl, o30, o31⟩ := hP
      rcases (by omega : v29 = 0 ∨ v29 = 1) with rfl | rfl
      · have n32 : p1 < 1 ∨ 63 < p1 := by omega
        clear o31
        refine zz_if_eq (by omega) zd_14_63_21 (fun c33 => ?_) (fun c33 => ?_)
        · refine zz_iconst zd_14_63_55 ?_
          refine zz_istore [some (.ref 1079), some (zi p0), some (zi p1), some (zi p2), some (zi 0)] zd_14_63_56 (by decide) rfl ?_
          refine zz_aload_n (x := 1079) rfl zd_14_63_58 ?_
          refine zz_iload (x := 0) rfl zd_14_63_59 ?_
          refine zz_if_ne (by omega) zd_14_63_61 (fun c34 => ?_) (fun c34 => ?_)
          · exfalso; omega
          · refine zz_iconst zd_14_63_64 ?_
            refine zz_goto zd_14_63_65 ?_
            refine zz_iconst zd_14_63_69 ?_
            refine zz_iconst zd_14_63_70 ?_
            refine zz_callVI [zi 1, zi 0, zi 0] zd_14_63_71 zk_Md_196 zT_1079 (zz_ltn hn rfl) rfl rfl ⟨Nat.le_of_ble_eq_true rfl, Nat.le_of_ble_eq_true rfl⟩ ⟨rfl, rfl⟩ (Nat.zero_le _) (Nat.zero_le _) (zc_refuse_14_3 1 0 0 S0 n hn G_S0 (by omega) (by omega) (by omega)) (fun v36 S35 hP => ?_)
            obtain ⟨G_S35, fS35, o37, o38⟩ := hP
            have F_S35 := zz_fr.trans F_S0 fS35 rfl zz_nv
            have R_S35 : zz_Hr S35 := zz_Hr.fr fS35 rfl rfl (fun b j h => h.elim) R_S0
            rcases (by omega : v36 = 0 ∨ v36 = 1) with rfl | rfl
            · exfalso; omega
            · have e39 : S35 1079 0 = 1 := by omega
              clear o38
              refine zz_if_ne (by omega) zd_14_63_74 (fun c40 => ?_) (fun c40 => ?_)
              · have g41 := zz_G.r G_S0 1079 36 0 11 rfl rfl
                have e42 : S35 1079 36 = S0 1079 36 := (zz_rc fS35 rfl rfl (fun h => h) rfl)
                have g43 := zz_G.r G_S0 1102 0 0 63 rfl rfl
                have e44 : S35 1102 0 = S0 1102 0 := (zz_rc fS35 (zz_nc1 rfl) rfl (fun h => h) rfl)
                have g45 := zz_G.r G_S0 1103 0 0 63 rfl rfl
                have e46 : S35 1103 0 = S0 1103 0 := (zz_rc fS35 (zz_nc1 rfl) rfl (fun h => h) rfl)
                have g47 := zz_G.r G_S0 1104 0 0 63 rfl rfl
                have e48 : S35 1104 0 = S0 1104 0 := (zz_rc fS35 (zz_nc1 rfl) rfl (fun h => h) rfl)
                have g49 := zz_G.r G_S0 1105 0 0 0 rfl rfl
                have e50 : S35 1105 0 = S0 1105 0 := (zz_rc fS35 (zz_nc1 rfl) rfl (fun h => h) rfl)
                have g51 := zz_G.r G_S0 1105 1 0 10000000 rfl rfl
                have e52 : S35 1105 1 = S0 1105 1 := (zz_rc fS35 (zz_nc1 rfl) rfl (fun h => h) rfl)
                exact zz_vret zd_14_63_84 rfl (Nat.zero_le _) (Nat.zero_le _) ⟨_, rfl, G_S35, F_S35, by omega, by omega, by omega, (fun h => absurd h (by omega)), (fun _ v hM => zn_M.fr hM fS35 rfl rfl (fun b j h => h.elim) (by omega)), R_S35⟩
              · exfalso; omega
        · exfalso; omega
      · have n53 : 1 ≤ p1 ∧ p1 ≤ 63 := by omega
        clear o31
        refine zz_if_eq (by omega) zd_14_63_21 (fun c54 => ?_) (fun c54 => ?_)
        · exfalso; omega
        · refine zz_iload_n (x := p2) rfl zd_14_63_24 ?_
          refine zz_i2l (by omega) zd_14_63_25 ?_
          refine zz_lconst (z := 1) (by decide) zd_14_63_26 ?_
          refine zz_ldc2 (z := 63) zq_Md_399 (by decide) zd_14_63_27 ?_
          refine zz_callSI [zl p2, zl 1, zl 63] zd_14_63_30 zk_Md_192 rfl rfl ⟨Nat.le_of_ble_eq_true rfl, Nat.le_of_ble_eq_true rfl⟩ ⟨rfl, rfl⟩ (Nat.zero_le _) (Nat.zero_le _) (zc_in_14_4 p2 1 63 S0 n hn G_S0 (by omega) (by omega) (by omega)) (fun v56 S55 hP => ?_)
          obtain ⟨rfl, o57, o58⟩ := hP
          rcases (by omega : v56 = 0 ∨ v56 = 1) with rfl | rfl
          · have n59 : p2 < 1 ∨ 63 < p2 := by omega
            clear o58
            refine zz_if_eq (by omega) zd_14_63_33 (fun c60 => ?_) (fun c60 => ?_)
            · refine zz_iconst zd_14_63_55 ?_
              refine zz_istore [some (.ref 1079), some (zi p0), some (zi p1), some (zi p2), some (zi 0)] zd_14_63_56 (by decide) rfl ?_
              refine zz_aload_n (x := 1079) rfl zd_14_63_58 ?_
              refine zz_iload (x := 0) rfl zd_14_63_59 ?_
              refine zz_if_ne (by omega) zd_14_63_61 (fun c61 => ?_) (fun c61 => ?_)
              · exfalso; omega
              · refine zz_iconst zd_14_63_64 ?_
                refine zz_goto zd_14_63_65 ?_
                refine zz_iconst zd_14_63_69 ?_
                refine zz_iconst zd_14_63_70 ?_
                refine zz_callVI [zi 1, zi 0, zi 0] zd_14_63_71 zk_Md_196 zT_1079 (zz_ltn hn rfl) rfl rfl ⟨Nat.le_of_ble_eq_true rfl, Nat.le_of_ble_eq_true rfl⟩ ⟨rfl, rfl⟩ (Nat.zero_le _) (Nat.zero_le _) (zc_refuse_14_3 1 0 0 S0 n hn G_S0 (by omega) (by omega) (by omega)) (fun v63 S62 hP => ?_)
                obtain ⟨G_S62, fS62, o64, o65⟩ := hP
                have F_S62 := zz_fr.trans F_S0 fS62 rfl zz_nv
                have R_S62 : zz_Hr S62 := zz_Hr.fr fS62 rfl rfl (fun b j h => h.elim) R_S0
                rcases (by omega : v63 = 0 ∨ v63 = 1) with rfl | rfl
                · exfalso; omega
                · have e66 : S62 1079 0 = 1 := by omega
                  clear o65
                  refine zz_if_ne (by omega) zd_14_63_74 (fun c67 => ?_) (fun c67 => ?_)
                  · have g68 := zz_G.r G_S0 1079 36 0 11 rfl rfl
                    have e69 : S62 1079 36 = S0 1079 36 := (zz_rc fS62 rfl rfl (fun h => h) rfl)
                    have g70 := zz_G.r G_S0 1102 0 0 63 rfl rfl
                    have e71 : S62 1102 0 = S0 1102 0 := (zz_rc fS62 (zz_nc1 rfl) rfl (fun h => h) rfl)
                    have g72 := zz_G.r G_S0 1103 0 0 63 rfl rfl
                    have e73 : S62 1103 0 = S0 1103 0 := (zz_rc fS62 (zz_nc1 rfl) rfl (fun h => h) rfl)
                    have g74 := zz_G.r G_S0 1104 0 0 63 rfl rfl
                    have e75 : S62 1104 0 = S0 1104 0 := (zz_rc fS62 (zz_nc1 rfl) rfl (fun h => h) rfl)
                    have g76 := zz_G.r G_S0 1105 0 0 0 rfl rfl
                    have e77 : S62 1105 0 = S0 1105 0 := (zz_rc fS62 (zz_nc1 rfl) rfl (fun h => h) rfl)
                    have g78 := zz_G.r G_S0 1105 1 0 10000000 rfl rfl
                    have e79 : S62 1105 1 = S0 1105 1 := (zz_rc fS62 (zz_nc1 rfl) rfl (fun h => h) rfl)
                    exact zz_vret zd_14_63_84 rfl (Nat.zero_le _) (Nat.zero_le _) ⟨_, rfl, G_S62, F_S62, by omega, by omega, by omega, (fun h => absurd h (by omega)), (fun _ v hM => zn_M.fr hM fS62 rfl rfl (fun b j h => h.elim) (by omega)), R_S62⟩
                  · exfalso; omega
            · exfalso; omega
          · have n80 : 1 ≤ p2 ∧ p2 ≤ 63 := by omega
            clear o58
            refine zz_if_eq (by omega) zd_14_63_33 (fun c81 => ?_) (fun c81 => ?_)
            · exfalso; omega
            · refine zz_iload_n (x := p0) rfl zd_14_63_36 ?_
              refine zz_i2l (by omega) zd_14_63_37 ?_
              refine zz_iload_n (x := p1) rfl zd_14_63_38 ?_
              refine zz_i2l (by omega) zd_14_63_39 ?_
              refine zz_lmul zd_14_63_40 ?_
              have m82 := zz_mulb (a := p0) (b := p1) 63 63 3969 (by omega) (by omega) (by decide)
              refine zz_iload_n (x := p2) rfl zd_14_63_41 ?_
              refine zz_i2l (by omega) zd_14_63_42 ?_
              refine zz_lmul zd_14_63_43 ?_
              have m83 := zz_mulb (a := p0 * p1) (b := p2) 3969 63 250047 (by omega) (by omega) (by decide)
              refine zz_ldc2 (z := 2048) zq_Md_409 (by decide) zd_14_63_44 ?_
              refine zz_lcmp (by omega) (by omega) zd_14_63_47 (fun v84 hv84 => ?_)
              refine zz_if_gt (by omega) zd_14_63_48 (fun c85 => ?_) (fun c85 => ?_)
              · refine zz_iconst zd_14_63_55 ?_
                refine zz_istore [some (.ref 1079), some (zi p0), some (zi p1), some (zi p2), some (zi 0)] zd_14_63_56 (by decide) rfl ?_
                refine zz_aload_n (x := 1079) rfl zd_14_63_58 ?_
                refine zz_iload (x := 0) rfl zd_14_63_59 ?_
                refine zz_if_ne (by omega) zd_14_63_61 (fun c86 => ?_) (fun c86 => ?_)
                · exfalso; omega
                · refine zz_iconst zd_14_63_64 ?_
                  refine zz_goto zd_14_63_65 ?_
                  refine zz_iconst zd_14_63_69 ?_
                  refine zz_iconst zd_14_63_70 ?_
                  refine zz_callVI [zi 1, zi 0, zi 0] zd_14_63_71 zk_Md_196 zT_1079 (zz_ltn hn rfl) rfl rfl ⟨Nat.le_of_ble_eq_true rfl, Nat.le_of_ble_eq_true rfl⟩ ⟨rfl, rfl⟩ (Nat.zero_le _) (Nat.zero_le _) (zc_refuse_14_3 1 0 0 S0 n hn G_S0 (by omega) (by omega) (by omega)) (fun v88 S87 hP => ?_)
                  obtain ⟨G_S87, fS87, o89, o90⟩ := hP
                  have F_S87 := zz_fr.trans F_S0 fS87 rfl zz_nv
                  have R_S87 : zz_Hr S87 := zz_Hr.fr fS87 rfl rfl (fun b j h => h.elim) R_S0
                  rcases (by omega : v88 = 0 ∨ v88 = 1) with rfl | rfl
                  · exfalso; omega
                  · have e91 : S87 1079 0 = 1 := by omega
                    clear o90
                    refine zz_if_ne (by omega) zd_14_63_74 (fun c92 => ?_) (fun c92 => ?_)
                    · have g93 := zz_G.r G_S0 1079 36 0 11 rfl rfl
                      have e94 : S87 1079 36 = S0 1079 36 := (zz_rc fS87 rfl rfl (fun h => h) rfl)
                      have g95 := zz_G.r G_S0 1102 0 0 63 rfl rfl
                      have e96 : S87 1102 0 = S0 1102 0 := (zz_rc fS87 (zz_nc1 rfl) rfl (fun h => h) rfl)
                      have g97 := zz_G.r G_S0 1103 0 0 63 rfl rfl
                      have e98 : S87 1103 0 = S0 1103 0 := (zz_rc fS87 (zz_nc1 rfl) rfl (fun h => h) rfl)
                      have g99 := zz_G.r G_S0 1104 0 0 63 rfl rfl
                      have e100 : S87 1104 0 = S0 1104 0 := (zz_rc fS87 (zz_nc1 rfl) rfl (fun h => h) rfl)
                      have g101 := zz_G.r G_S0 1105 0 0 0 rfl rfl
                      have e102 : S87 1105 0 = S0 1105 0 := (zz_rc fS87 (zz_nc1 rfl) rfl (fun h => h) rfl)
                      have g103 := zz_G.r G_S0 1105 1 0 10000000 rfl rfl
                      have e104 : S87 1105 1 = S0 1105 1 := (zz_rc fS87 (zz_nc1 rfl) rfl (fun h => h) rfl)
                      exact zz_vret zd_14_63_84 rfl (Nat.zero_le _) (Nat.zero_le _) ⟨_, rfl, G_S87, F_S87, by omega, by omega, by omega, (fun h => absurd h (by omega)), (fun _ v hM => zn_M.fr hM fS87 rfl rfl (fun b j h => h.elim) (by omega)), R_S87⟩
                    · exfalso; omega
              · refine zz_iconst zd_14_63_51 ?_
                refine zz_goto zd_14_63_52 ?_
                refine zz_istore [some (.ref 1079), some (zi p0), some (zi p1), some (zi p2), some (zi 1)] zd_14_63_56 (by decide) rfl ?_
                refine zz_aload_n (x := 1079) rfl zd_14_63_58 ?_
                refine zz_iload (x := 1) rfl zd_14_63_59 ?_
                refine zz_if_ne (by omega) zd_14_63_61 (fun c105 => ?_) (fun c105 => ?_)
                · refine zz_iconst zd_14_63_68 ?_
                  refine zz_iconst zd_14_63_69 ?_
                  refine zz_iconst zd_14_63_70 ?_
                  refine zz_callVI [zi 0, zi 0, zi 0] zd_14_63_71 zk_Md_196 zT_1079 (zz_ltn hn rfl) rfl rfl ⟨Nat.le_of_ble_eq_true rfl, Nat.le_of_ble_eq_true rfl⟩ ⟨rfl, rfl⟩ (Nat.zero_le _) (Nat.zero_le _) (zc_refuse_14_3 0 0 0 S0 n hn G_S0 (by omega) (by omega) (by omega)) (fun v107 S106 hP => ?_)
                  obtain ⟨G_S106, fS106, o108, o109⟩ := hP
                  have F_S106 := zz_fr.trans F_S0 fS106 rfl zz_nv
                  have R_S106 : zz_Hr S106 := zz_Hr.fr fS106 rfl rfl (fun b j h => h.elim) R_S0
                  rcases (by omega : v107 = 0 ∨ v107 = 1) with rfl | rfl
                  · have e110 : S106 1079 0 = 0 := by omega
                    clear o109
                    refine zz_if_ne (by omega) zd_14_63_74 (fun c111 => ?_) (fun c111 => ?_)
                    · exfalso; omega
                    · refine zz_aload_n (x := 1079) rfl zd_14_63_77 ?_
                      refine zz_iload_n (x := p0) rfl zd_14_63_78 ?_
                      refine zz_iload_n (x := p1) rfl zd_14_63_79 ?_
                      refine zz_iload_n (x := p2) rfl zd_14_63_80 ?_
                      refine zz_callVV [zi p0, zi p1, zi p2] zd_14_63_81 zk_Md_183 zT_1079 (zz_ltn hn rfl) rfl rfl ⟨Nat.le_of_ble_eq_true rfl, Nat.le_of_ble_eq_true rfl⟩ ⟨rfl, rfl⟩ (Nat.zero_le _) (Nat.zero_le _) (zc_form_14_5 p0 p1 p2 S106 n hn G_S106 (by omega) (by omega) (by omega) R_S106 (by omega)) (fun S112 hP => ?_)
                      obtain ⟨G_S112, fS112, o114, o115, o116, o117⟩ := hP
                      have F_S112 := zz_fr.trans F_S106 fS112 rfl zz_nv
                      have R_S112 : zz_Hr S112 := o117
                      have e118 : S112 1079 0 = S106 1079 0 := (zz_rc fS112 rfl rfl (fun h => h) rfl)
                      have g119 := zz_G.r G_S112 1079 36 0 11 rfl rfl
                      have g120 := zz_G.r G_S112 1102 0 0 63 rfl rfl
                      have g121 := zz_G.r G_S112 1103 0 0 63 rfl rfl
                      have g122 := zz_G.r G_S112 1104 0 0 63 rfl rfl
                      have g123 := zz_G.r G_S112 1105 0 0 0 rfl rfl
                      have g124 := zz_G.r G_S112 1105 1 0 10000000 rfl rfl
                      exact zz_vret zd_14_63_84 rfl (Nat.zero_le _) (Nat.zero_le _) ⟨_, rfl, G_S112, F_S112, by omega, by omega, by omega, (fun _ nm => zn_M.ip (by omega) (by omega) (by omega) (by omega) (by omega) (by omega)), (fun h => absurd (by omega) h), R_S112⟩
                  · exfalso; omega
                · exfalso; omega
abbrev zy_resultsOf_14_64 : mm_Y := (⟨"TensorForgeModel", "resultsOf", "(IIII)I"⟩, prog_14_method_64_code, 5, (some .int))
theorem zyw_resultsOf_14_64 : mm_Yw zy_resultsOf_14_64 4 := ⟨mm_tb_1 2091 (by decide +kernel) rfl, mm_tb_1 12 (by decide +kernel) rfl, ⟨by decide, by decide⟩, by decide +kernel⟩
theorem zg_14_64_0 : zq_at zy_resultsOf_14_64.2.1 0 26 ∧ zq_at zy_resultsOf_14_64.2.1 1 5 ∧ zq_at zy_resultsOf_14_64.2.1 2 29 ∧ zq_at zy_resultsOf_14_64.2.1 3 104 ∧ zq_at zy_resultsOf_14_64.2.1 4 96 ∧ zq_at zy_resultsOf_14_64.2.1 5 27 ∧ zq_at zy_resultsOf_14_64.2.1 6 100 ∧ zq_at zy_resultsOf_14_64.2.1 7 54 ∧ zq_at zy_resultsOf_14_64.2.1 8 4 ∧ zq_at zy_resultsOf_14_64.2.1 9 21 ∧ zq_at zy_resultsOf_14_64.2.1 10 4 ∧ zq_at zy_resultsOf_14_64.2.1 11 156 ∧ zq_at zy_resultsOf_14_64.2.1 12 0 ∧ zq_at zy_resultsOf_14_64.2.1 13 7 ∧ zq_at zy_resultsOf_14_64.2.1 18 21 ∧ zq_at zy_resultsOf_14_64.2.1 19 4 ∧ zq_at zy_resultsOf_14_64.2.1 20 28 ∧ zq_at zy_resultsOf_14_64.2.1 21 108 ∧ zq_at zy_resultsOf_14_64.2.1 22 4 ∧ zq_at zy_resultsOf_14_64.2.1 23 96 ∧ zq_at zy_resultsOf_14_64.2.1 24 172 ∧ zq_at zy_resultsOf_14_64.2.1 14 3 := by decide +kernel
theorem zd_14_64_0 : zz_D zy_resultsOf_14_64 0 (.iload_n 0) 1 1 := ⟨zq_26 zg_14_64_0.1, rfl⟩
theorem zd_14_64_1 : zz_D zy_resultsOf_14_64 1 (.iconst 2) 1 2 := ⟨zq_5 zg_14_64_0.2.1, rfl⟩
theorem zd_14_64_2 : zz_D zy_resultsOf_14_64 2 (.iload_n 3) 1 3 := ⟨zq_29 zg_14_64_0.2.2.1, rfl⟩
theorem zd_14_64_3 : zz_D zy_resultsOf_14_64 3 (.imul) 1 4 := ⟨zq_104 zg_14_64_0.2.2.2.1, rfl⟩
theorem zd_14_64_4 : zz_D zy_resultsOf_14_64 4 (.iadd) 1 5 := ⟨zq_96 zg_14_64_0.2.2.2.2.1, rfl⟩
theorem zd_14_64_5 : zz_D zy_resultsOf_14_64 5 (.iload_n 1) 1 6 := ⟨zq_27 zg_14_64_0.2.2.2.2.2.1, rfl⟩
theorem zd_14_64_6 : zz_D zy_resultsOf_14_64 6 (.isub) 1 7 := ⟨zq_100 zg_14_64_0.2.2.2.2.2.2.1, rfl⟩
theorem zd_14_64_7 : zz_D zy_resultsOf_14_64 7 (.istore 4) 2 9 := ⟨zq_54 zg_14_64_0.2.2.2.2.2.2.2.1 zg_14_64_0.2.2.2.2.2.2.2.2.1, rfl⟩
theorem zd_14_64_9 : zz_D zy_resultsOf_14_64 9 (.iload 4) 2 11 := ⟨zq_21 zg_14_64_0.2.2.2.2.2.2.2.2.2.1 zg_14_64_0.2.2.2.2.2.2.2.2.2.2.1, rfl⟩
theorem zd_14_64_11 : zz_B zy_resultsOf_14_64 11 (Instr.ifCond .ge) 18 14 := ⟨7, zq_156 zg_14_64_0.2.2.2.2.2.2.2.2.2.2.2.1 zg_14_64_0.2.2.2.2.2.2.2.2.2.2.2.2.1 zg_14_64_0.2.2.2.2.2.2.2.2.2.2.2.2.2.1 (by decide), rfl, rfl⟩
theorem zd_14_64_18 : zz_D zy_resultsOf_14_64 18 (.iload 4) 2 20 := ⟨zq_21 zg_14_64_0.2.2.2.2.2.2.2.2.2.2.2.2.2.2.1 zg_14_64_0.2.2.2.2.2.2.2.2.2.2.2.2.2.2.2.1, rfl⟩
theorem zd_14_64_20 : zz_D zy_resultsOf_14_64 20 (.iload_n 2) 1 21 := ⟨zq_28 zg_14_64_0.2.2.2.2.2.2.2.2.2.2.2.2.2.2.2.2.1, rfl⟩
theorem zd_14_64_21 : zz_D zy_resultsOf_14_64 21 (.idiv) 1 22 := ⟨zq_108 zg_14_64_0.2.2.2.2.2.2.2.2.2.2.2.2.2.2.2.2.2.1, rfl⟩
theorem zd_14_64_22 : zz_D zy_resultsOf_14_64 22 (.iconst 1) 1 23 := ⟨zq_4 zg_14_64_0.2.2.2.2.2.2.2.2.2.2.2.2.2.2.2.2.2.2.1, rfl⟩
theorem zd_14_64_23 : zz_D zy_resultsOf_14_64 23 (.iadd) 1 24 := ⟨zq_96 zg_14_64_0.2.2.2.2.2.2.2.2.2.2.2.2.2.2.2.2.2.2.2.1, rfl⟩
theorem zd_14_64_24 : zz_D zy_resultsOf_14_64 24 (.ireturn) 1 25 := ⟨zq_172 zg_14_64_0.2.2.2.2.2.2.2.2.2.2.2.2.2.2.2.2.2.2.2.2.1, rfl⟩
theorem zd_14_64_14 : zz_D zy_resultsOf_14_64 14 (.iconst 0) 1 15 := ⟨zq_3 zg_14_64_0.2.2.2.2.2.2.2.2.2.2.2.2.2.2.2.2.2.2.2.2.2, rfl⟩
theorem zg_14_64_15 : zq_at zy_resultsOf_14_64.2.1 15 167 ∧ zq_at zy_resultsOf_14_64.2.1 16 0 ∧ zq_at zy_resultsOf_14_64.2.1 17 9 := by decide +kernel
theorem zd_14_64_15 : zz_B zy_resultsOf_14_64 15 Instr.goto 24 18 := ⟨9, zq_167 zg_14_64_15.1 zg_14_64_15.2.1 zg_14_64_15.2.2 (by decide), rfl, rfl⟩
-- TensorForgeModel resultsOf (IIII)I
abbrev zr_resultsOf_14_64 : Room := { frames := 0, cells := 0, slots := 0, locals := 0 }
def zp_resultsOf_14_64 (p0 : Int) (p1 : Int) (p2 : Int) (p3 : Int) (S0 : zz_S) : Int → zz_S → Prop := fun r S => S0 = S ∧ (0 ≤ r ∧ r ≤ 65) ∧ (r ≤ p0 + 2 * p3) ∧ (1 ≤ r → p2 * (r - 1) + p1 ≤ p0 + 2 * p3) ∧ ((p0 + 2 * p3 - p1 < 0 ∧ r = 0) ∨ (0 ≤ p0 + 2 * p3 - p1 ∧ r = (p0 + 2 * p3 - p1) / p2 + 1))
theorem zc_resultsOf_14_64 {g : mm_G} {l : Launch} (p0 : Int) (p1 : Int) (p2 : Int) (p3 : Int) (S0 : zz_S) (n : Nat) (hn : zz_end ≤ n) (G_S0 : zz_G S0) (hp0 : 0 ≤ p0 ∧ p0 ≤ 63) (hp1 : 1 ≤ p1 ∧ p1 ≤ 3) (hp2 : 1 ≤ p2 ∧ p2 ≤ 3) (hp3 : 0 ≤ p3 ∧ p3 ≤ 1) : mm_Met g l zy_resultsOf_14_64 zr_resultsOf_14_64 [zi p0, zi p1, zi p2, zi p3] (zz_M S0 n) n (zz_QI n (zp_resultsOf_14_64 p0 p1 p2 p3 S0)) := by
  refine zz_enter (by decide) (Nat.le_of_ble_eq_true rfl) (zz_less (ls1 := [some (zi p0), some (zi p1), some (zi p2), some (zi p3)]) ⟨rfl, ⟨rfl, ⟨rfl, ⟨rfl, trivial⟩⟩⟩⟩ ?_)
  rcases (by omega : p2 = 1 ∨ p2 = 2 ∨ p2 = 3) with rfl | rfl | rfl
  · refine zz_iload_n (x := p0) rfl zd_14_64_0 ?_
    refine zz_iconst zd_14_64_1 ?_
    refine zz_iload_n (x := p3) rfl zd_14_64_2 ?_
    refine zz_imul zd_14_64_3 ?_
    refine zz_iadd zd_14_64_4 ?_
    refine zz_iload_n (x := p1) rfl zd_14_64_5 ?_
    refine zz_isub zd_14_64_6 ?_
    refine zz_istore [some (zi p0), some (zi p1), some (zi 1), some (zi p3), some (zi ((p0 + (2 * p3)) - p1))] zd_14_64_7 (by decide) rfl ?_
    refine zz_iload (x := (p0 + (2 * p3)) - p1) rfl zd_14_64_9 ?_
    refine zz_if_ge (by omega) zd_14_64_11 (fun c1 => ?_) (fun c1 => ?_)
    · refine zz_iload (x := (p0 + (2 * p3)) - p1) rfl zd_14_64_18 ?_
      refine zz_iload_n (x := 1) rfl zd_14_64_20 ?_
      refine zz_idiv (by omega) (by omega) zd_14_64_21 (fun v2 hv2 av2 bv2 cv2 => ?_)
      obtain rfl : v2 = ((p0 + (2 * p3)) - p1) / 1 := by omega
      refine zz_iconst zd_14_64_22 ?_
      refine zz_iadd zd_14_64_23 ?_
      exact zz_iret zd_14_64_24 rfl (Nat.zero_le _) (Nat.zero_le _) ⟨_, _, rfl, rfl, by omega, by omega, by omega, by omega⟩
    · refine zz_iconst zd_14_64_14 ?_
      refine zz_goto zd_14_64_15 ?_
      exact zz_iret zd_14_64_24 rfl (Nat.zero_le _) (Nat.zero_le _) ⟨_, _, rfl, rfl, by omega, by omega, by omega, by omega⟩
  · refine zz_iload_n (x := p0) rfl zd_14_64_0 ?_
    refine zz_iconst zd_14_64_1 ?_
    refine zz_iload_n (x := p3) rfl zd_14_64_2 ?_
    refine zz_imul zd_14_64_3 ?_
    refine zz_iadd zd_14_64_4 ?_
    refine zz_iload_n (x := p1) rfl zd_14_64_5 ?_
    refine zz_isub zd_14_64_6 ?_
    refine zz_istore [some (zi p0), some (zi p1), some (zi 2), some (zi p3), some (zi ((p0 + (2 * p3)) - p1))] zd_14_64_7 (by decide) rfl ?_
    refine zz_iload (x := (p0 + (2 * p3)) - p1) rfl zd_14_64_9 ?_
    refine zz_if_ge (by omega) zd_14_64_11 (fun c3 => ?_) (fun c3 => ?_)
    · refine zz_iload (x := (p0 + (2 * p3)) - p1) rfl zd_14_64_18 ?_
      refine zz_iload_n (x := 2) rfl zd_14_64_20 ?_
      refine zz_idiv (by omega) (by omega) zd_14_64_21 (fun v4 hv4 av4 bv4 cv4 => ?_)
      obtain rfl : v4 = ((p0 + (2 * p3)) - p1) / 2 := by omega
      refine zz_iconst zd_14_64_22 ?_
      refine zz_iadd zd_14_64_23 ?_
      exact zz_iret zd_14_64_24 rfl (Nat.zero_le _) (Nat.zero_le _) ⟨_, _, rfl, rfl, by omega, by omega, by omega, by omega⟩
    · refine zz_iconst zd_14_64_14 ?_
      refine zz_goto zd_14_64_15 ?_
      exact zz_iret zd_14_64_24 rfl (Nat.zero_le _) (Nat.zero_le _) ⟨_, _, rfl, rfl, by omega, by omega, by omega, by omega⟩
  · refine zz_iload_n (x := p0) rfl zd_14_64_0 ?_
    refine zz_iconst zd_14_64_1 ?_
    refine zz_iload_n (x := p3) rfl zd_14_64_2 ?_
    refine zz_imul zd_14_64_3 ?_
    refine zz_iadd zd_14_64_4 ?_
    refine zz_iload_n (x := p1) rfl zd_14_64_5 ?_
    refine zz_isub zd_14_64_6 ?_
    refine zz_istore [some (zi p0), some (zi p1), some (zi 3), some (zi p3), some (zi ((p0 + (2 * p3)) - p1))] zd_14_64_7 (by decide) rfl ?_
    refine zz_iload (x := (p0 + (2 * p3)) - p1) rfl zd_14_64_9 ?_
    refine zz_if_ge (by omega) zd_14_64_11 (fun c5 => ?_) (fun c5 => ?_)
    · refine zz_iload (x := (p0 + (2 * p3)) - p1) rfl zd_14_64_18 ?_
      refine zz_iload_n (x := 3) rfl zd_14_64_20 ?_
      refine zz_idiv (by omega) (by omega) zd_14_64_21 (fun v6 hv6 av6 bv6 cv6 => ?_)
      obtain rfl : v6 = ((p0 + (2 * p3)) - p1) / 3 := by omega
      refine zz_iconst zd_14_64_22 ?_
      refine zz_iadd zd_14_64_23 ?_
      exact zz_iret zd_14_64_24 rfl (Nat.zero_le _) (Nat.zero_le _) ⟨_, _, rfl, rfl, by omega, by omega, by omega, by omega⟩
    · refine zz_iconst zd_14_64_14 ?_
      refine zz_goto zd_14_64_15 ?_
      exact zz_iret zd_14_64_24 rfl (Nat.zero_le _) (Nat.zero_le _) ⟨_, _, rfl, rfl, by omega, by omega, by omega, by omega⟩
abbrev zy_add_14_65 : mm_Y := (⟨"TensorForgeModel", "add", "(IIIII)I"⟩, prog_14_method_65_code, 7, (some .int))
theorem zyw_add_14_65 : mm_Yw zy_add_14_65 5 := ⟨mm_tb_1 2096 (by decide +kernel) rfl, mm_tb_1 12 (by decide +kernel) rfl, ⟨by decide, by decide⟩, by decide +kernel⟩
theorem zf_Md_100 : mm_Fl "TensorForgeModel" 100 11 41 (.array .int) true := ⟨R_Md, F_Md, 69, t_Md, rfl, i_Md, by decide, mm_tb_1 1652 (by decide +kernel) rfl, rfl, t_Md_ok, n_Md, rfl, by decide +kernel⟩
theorem zf_Md_103 : mm_Fl "TensorForgeModel" 103 11 42 (.array .int) true := ⟨R_Md, F_Md, 69, t_Md, rfl, i_Md, by decide, mm_tb_1 1653 (by decide +kernel) rfl, rfl, t_Md_ok, n_Md, rfl, by decide +kernel⟩
theorem zg_14_65_0 : zq_at zy_add_14_65.2.1 0 29 ∧ zq_at zy_add_14_65.2.1 1 21 ∧ zq_at zy_add_14_65.2.1 2 4 ∧ zq_at zy_add_14_65.2.1 3 104 ∧ zq_at zy_add_14_65.2.1 4 21 ∧ zq_at zy_add_14_65.2.1 5 5 ∧ zq_at zy_add_14_65.2.1 6 104 ∧ zq_at zy_add_14_65.2.1 7 54 ∧ zq_at zy_add_14_65.2.1 8 6 ∧ zq_at zy_add_14_65.2.1 9 42 ∧ zq_at zy_add_14_65.2.1 10 3 ∧ zq_at zy_add_14_65.2.1 11 3 ∧ zq_at zy_add_14_65.2.1 12 42 ∧ zq_at zy_add_14_65.2.1 13 180 ∧ zq_at zy_add_14_65.2.1 14 0 ∧ zq_at zy_add_14_65.2.1 15 85 ∧ zq_at zy_add_14_65.2.1 16 16 ∧ zq_at zy_add_14_65.2.1 17 10 ∧ zq_at zy_add_14_65.2.1 18 163 ∧ zq_at zy_add_14_65.2.1 19 0 ∧ zq_at zy_add_14_65.2.1 20 21 ∧ zq_at zy_add_14_65.2.1 39 4 := by decide +kernel
theorem zd_14_65_0 : zz_D zy_add_14_65 0 (.iload_n 3) 1 1 := ⟨zq_29 zg_14_65_0.1, rfl⟩
theorem zd_14_65_1 : zz_D zy_add_14_65 1 (.iload 4) 2 3 := ⟨zq_21 zg_14_65_0.2.1 zg_14_65_0.2.2.1, rfl⟩
theorem zd_14_65_3 : zz_D zy_add_14_65 3 (.imul) 1 4 := ⟨zq_104 zg_14_65_0.2.2.2.1, rfl⟩
theorem zd_14_65_4 : zz_D zy_add_14_65 4 (.iload 5) 2 6 := ⟨zq_21 zg_14_65_0.2.2.2.2.1 zg_14_65_0.2.2.2.2.2.1, rfl⟩
theorem zd_14_65_6 : zz_D zy_add_14_65 6 (.imul) 1 7 := ⟨zq_104 zg_14_65_0.2.2.2.2.2.2.1, rfl⟩
theorem zd_14_65_7 : zz_D zy_add_14_65 7 (.istore 6) 2 9 := ⟨zq_54 zg_14_65_0.2.2.2.2.2.2.2.1 zg_14_65_0.2.2.2.2.2.2.2.2.1, rfl⟩
theorem zd_14_65_9 : zz_D zy_add_14_65 9 (.aload_n 0) 1 10 := ⟨zq_42 zg_14_65_0.2.2.2.2.2.2.2.2.2.1, rfl⟩
theorem zd_14_65_10 : zz_D zy_add_14_65 10 (.iconst 0) 1 11 := ⟨zq_3 zg_14_65_0.2.2.2.2.2.2.2.2.2.2.1, rfl⟩
theorem zd_14_65_11 : zz_D zy_add_14_65 11 (.iconst 0) 1 12 := ⟨zq_3 zg_14_65_0.2.2.2.2.2.2.2.2.2.2.2.1, rfl⟩
theorem zd_14_65_12 : zz_D zy_add_14_65 12 (.aload_n 0) 1 13 := ⟨zq_42 zg_14_65_0.2.2.2.2.2.2.2.2.2.2.2.2.1, rfl⟩
theorem zd_14_65_13 : zz_D zy_add_14_65 13 (.getfield 85) 3 16 := ⟨zq_180 zg_14_65_0.2.2.2.2.2.2.2.2.2.2.2.2.2.1 zg_14_65_0.2.2.2.2.2.2.2.2.2.2.2.2.2.2.1 zg_14_65_0.2.2.2.2.2.2.2.2.2.2.2.2.2.2.2.1 rfl, rfl⟩
theorem zd_14_65_16 : zz_D zy_add_14_65 16 (.bipush 10) 2 18 := ⟨zq_16 zg_14_65_0.2.2.2.2.2.2.2.2.2.2.2.2.2.2.2.2.1 zg_14_65_0.2.2.2.2.2.2.2.2.2.2.2.2.2.2.2.2.2.1 (by decide), rfl⟩
theorem zd_14_65_18 : zz_B zy_add_14_65 18 (Instr.if_icmp .gt) 39 21 := ⟨21, zq_163 zg_14_65_0.2.2.2.2.2.2.2.2.2.2.2.2.2.2.2.2.2.2.1 zg_14_65_0.2.2.2.2.2.2.2.2.2.2.2.2.2.2.2.2.2.2.2.1 zg_14_65_0.2.2.2.2.2.2.2.2.2.2.2.2.2.2.2.2.2.2.2.2.1 (by decide), rfl, rfl⟩
theorem zd_14_65_39 : zz_D zy_add_14_65 39 (.iconst 1) 1 40 := ⟨zq_4 zg_14_65_0.2.2.2.2.2.2.2.2.2.2.2.2.2.2.2.2.2.2.2.2.2, rfl⟩
theorem zg_14_65_40 : zq_at zy_add_14_65.2.1 40 167 ∧ zq_at zy_add_14_65.2.1 41 0 ∧ zq_at zy_add_14_65.2.1 42 4 ∧ zq_at zy_add_14_65.2.1 44 182 ∧ zq_at zy_add_14_65.2.1 45 0 ∧ zq_at zy_add_14_65.2.1 46 196 ∧ zq_at zy_add_14_65.2.1 47 153 ∧ zq_at zy_add_14_65.2.1 48 0 ∧ zq_at zy_add_14_65.2.1 49 5 ∧ zq_at zy_add_14_65.2.1 50 3 ∧ zq_at zy_add_14_65.2.1 51 172 ∧ zq_at zy_add_14_65.2.1 21 42 ∧ zq_at zy_add_14_65.2.1 22 180 ∧ zq_at zy_add_14_65.2.1 23 0 ∧ zq_at zy_add_14_65.2.1 24 97 ∧ zq_at zy_add_14_65.2.1 25 42 ∧ zq_at zy_add_14_65.2.1 26 180 ∧ zq_at zy_add_14_65.2.1 27 0 ∧ zq_at zy_add_14_65.2.1 28 85 ∧ zq_at zy_add_14_65.2.1 29 46 ∧ zq_at zy_add_14_65.2.1 30 21 ∧ zq_at zy_add_14_65.2.1 31 6 ∧ zq_at zy_add_14_65.2.1 32 96 := by decide +kernel
theorem zd_14_65_40 : zz_B zy_add_14_65 40 Instr.goto 44 43 := ⟨4, zq_167 zg_14_65_40.1 zg_14_65_40.2.1 zg_14_65_40.2.2.1 (by decide), rfl, rfl⟩
theorem zd_14_65_44 : zz_D zy_add_14_65 44 (.invokevirtual 196) 3 47 := ⟨zq_182 zg_14_65_40.2.2.2.1 zg_14_65_40.2.2.2.2.1 zg_14_65_40.2.2.2.2.2.1 rfl, rfl⟩
theorem zd_14_65_47 : zz_B zy_add_14_65 47 (Instr.ifCond .eq) 52 50 := ⟨5, zq_153 zg_14_65_40.2.2.2.2.2.2.1 zg_14_65_40.2.2.2.2.2.2.2.1 zg_14_65_40.2.2.2.2.2.2.2.2.1 (by decide), rfl, rfl⟩
theorem zd_14_65_50 : zz_D zy_add_14_65 50 (.iconst 0) 1 51 := ⟨zq_3 zg_14_65_40.2.2.2.2.2.2.2.2.2.1, rfl⟩
theorem zd_14_65_51 : zz_D zy_add_14_65 51 (.ireturn) 1 52 := ⟨zq_172 zg_14_65_40.2.2.2.2.2.2.2.2.2.2.1, rfl⟩
theorem zd_14_65_21 : zz_D zy_add_14_65 21 (.aload_n 0) 1 22 := ⟨zq_42 zg_14_65_40.2.2.2.2.2.2.2.2.2.2.2.1, rfl⟩
theorem zd_14_65_22 : zz_D zy_add_14_65 22 (.getfield 97) 3 25 := ⟨zq_180 zg_14_65_40.2.2.2.2.2.2.2.2.2.2.2.2.1 zg_14_65_40.2.2.2.2.2.2.2.2.2.2.2.2.2.1 zg_14_65_40.2.2.2.2.2.2.2.2.2.2.2.2.2.2.1 rfl, rfl⟩
theorem zd_14_65_25 : zz_D zy_add_14_65 25 (.aload_n 0) 1 26 := ⟨zq_42 zg_14_65_40.2.2.2.2.2.2.2.2.2.2.2.2.2.2.2.1, rfl⟩
theorem zd_14_65_26 : zz_D zy_add_14_65 26 (.getfield 85) 3 29 := ⟨zq_180 zg_14_65_40.2.2.2.2.2.2.2.2.2.2.2.2.2.2.2.2.1 zg_14_65_40.2.2.2.2.2.2.2.2.2.2.2.2.2.2.2.2.2.1 zg_14_65_40.2.2.2.2.2.2.2.2.2.2.2.2.2.2.2.2.2.2.1 rfl, rfl⟩
theorem zd_14_65_29 : zz_D zy_add_14_65 29 (.iaload) 1 30 := ⟨zq_46 zg_14_65_40.2.2.2.2.2.2.2.2.2.2.2.2.2.2.2.2.2.2.2.1, rfl⟩
theorem zd_14_65_30 : zz_D zy_add_14_65 30 (.iload 6) 2 32 := ⟨zq_21 zg_14_65_40.2.2.2.2.2.2.2.2.2.2.2.2.2.2.2.2.2.2.2.2.1 zg_14_65_40.2.2.2.2.2.2.2.2.2.2.2.2.2.2.2.2.2.2.2.2.2.1, rfl⟩
theorem zd_14_65_32 : zz_D zy_add_14_65 32 (.iadd) 1 33 := ⟨zq_96 zg_14_65_40.2.2.2.2.2.2.2.2.2.2.2.2.2.2.2.2.2.2.2.2.2.2, rfl⟩
theorem zg_14_65_33 : zq_at zy_add_14_65.2.1 33 17 ∧ zq_at zy_add_14_65.2.1 34 8 ∧ zq_at zy_add_14_65.2.1 35 0 ∧ zq_at zy_add_14_65.2.1 36 164 ∧ zq_at zy_add_14_65.2.1 37 0 ∧ zq_at zy_add_14_65.2.1 38 7 ∧ zq_at zy_add_14_65.2.1 43 3 ∧ zq_at zy_add_14_65.2.1 52 42 ∧ zq_at zy_add_14_65.2.1 53 180 ∧ zq_at zy_add_14_65.2.1 54 0 ∧ zq_at zy_add_14_65.2.1 55 100 ∧ zq_at zy_add_14_65.2.1 56 42 ∧ zq_at zy_add_14_65.2.1 57 180 ∧ zq_at zy_add_14_65.2.1 58 0 ∧ zq_at zy_add_14_65.2.1 59 85 ∧ zq_at zy_add_14_65.2.1 60 4 ∧ zq_at zy_add_14_65.2.1 61 100 ∧ zq_at zy_add_14_65.2.1 62 27 ∧ zq_at zy_add_14_65.2.1 63 79 ∧ zq_at zy_add_14_65.2.1 64 42 ∧ zq_at zy_add_14_65.2.1 65 180 ∧ zq_at zy_add_14_65.2.1 66 0 ∧ zq_at zy_add_14_65.2.1 67 103 ∧ zq_at zy_add_14_65.2.1 68 42 := by decide +kernel
theorem zd_14_65_33 : zz_D zy_add_14_65 33 (.sipush 2048) 3 36 := ⟨zq_17 zg_14_65_33.1 zg_14_65_33.2.1 zg_14_65_33.2.2.1 (by decide), rfl⟩
theorem zd_14_65_36 : zz_B zy_add_14_65 36 (Instr.if_icmp .le) 43 39 := ⟨7, zq_164 zg_14_65_33.2.2.2.1 zg_14_65_33.2.2.2.2.1 zg_14_65_33.2.2.2.2.2.1 (by decide), rfl, rfl⟩
theorem zd_14_65_43 : zz_D zy_add_14_65 43 (.iconst 0) 1 44 := ⟨zq_3 zg_14_65_33.2.2.2.2.2.2.1, rfl⟩
theorem zd_14_65_52 : zz_D zy_add_14_65 52 (.aload_n 0) 1 53 := ⟨zq_42 zg_14_65_33.2.2.2.2.2.2.2.1, rfl⟩
theorem zd_14_65_53 : zz_D zy_add_14_65 53 (.getfield 100) 3 56 := ⟨zq_180 zg_14_65_33.2.2.2.2.2.2.2.2.1 zg_14_65_33.2.2.2.2.2.2.2.2.2.1 zg_14_65_33.2.2.2.2.2.2.2.2.2.2.1 rfl, rfl⟩
theorem zd_14_65_56 : zz_D zy_add_14_65 56 (.aload_n 0) 1 57 := ⟨zq_42 zg_14_65_33.2.2.2.2.2.2.2.2.2.2.2.1, rfl⟩
theorem zd_14_65_57 : zz_D zy_add_14_65 57 (.getfield 85) 3 60 := ⟨zq_180 zg_14_65_33.2.2.2.2.2.2.2.2.2.2.2.2.1 zg_14_65_33.2.2.2.2.2.2.2.2.2.2.2.2.2.1 zg_14_65_33.2.2.2.2.2.2.2.2.2.2.2.2.2.2.1 rfl, rfl⟩
theorem zd_14_65_60 : zz_D zy_add_14_65 60 (.iconst 1) 1 61 := ⟨zq_4 zg_14_65_33.2.2.2.2.2.2.2.2.2.2.2.2.2.2.2.1, rfl⟩
theorem zd_14_65_61 : zz_D zy_add_14_65 61 (.isub) 1 62 := ⟨zq_100 zg_14_65_33.2.2.2.2.2.2.2.2.2.2.2.2.2.2.2.2.1, rfl⟩
theorem zd_14_65_62 : zz_D zy_add_14_65 62 (.iload_n 1) 1 63 := ⟨zq_27 zg_14_65_33.2.2.2.2.2.2.2.2.2.2.2.2.2.2.2.2.2.1, rfl⟩
theorem zd_14_65_63 : zz_D zy_add_14_65 63 (.iastore) 1 64 := ⟨zq_79 zg_14_65_33.2.2.2.2.2.2.2.2.2.2.2.2.2.2.2.2.2.2.1, rfl⟩
theorem zd_14_65_64 : zz_D zy_add_14_65 64 (.aload_n 0) 1 65 := ⟨zq_42 zg_14_65_33.2.2.2.2.2.2.2.2.2.2.2.2.2.2.2.2.2.2.2.1, rfl⟩
theorem zd_14_65_65 : zz_D zy_add_14_65 65 (.getfield 103) 3 68 := ⟨zq_180 zg_14_65_33.2.2.2.2.2.2.2.2.2.2.2.2.2.2.2.2.2.2.2.2.1 zg_14_65_33.2.2.2.2.2.2.2.2.2.2.2.2.2.2.2.2.2.2.2.2.2.1 zg_14_65_33.2.2.2.2.2.2.2.2.2.2.2.2.2.2.2.2.2.2.2.2.2.2.1 rfl, rfl⟩
theorem zd_14_65_68 : zz_D zy_add_14_65 68 (.aload_n 0) 1 69 := ⟨zq_42 zg_14_65_33.2.2.2.2.2.2.2.2.2.2.2.2.2.2.2.2.2.2.2.2.2.2.2, rfl⟩
theorem zg_14_65_69 : zq_at zy_add_14_65.2.1 69 180 ∧ zq_at zy_add_14_65.2.1 70 0 ∧ zq_at zy_add_14_65.2.1 71 85 ∧ zq_at zy_add_14_65.2.1 72 4 ∧ zq_at zy_add_14_65.2.1 73 100 ∧ zq_at zy_add_14_65.2.1 74 28 ∧ zq_at zy_add_14_65.2.1 75 79 ∧ zq_at zy_add_14_65.2.1 76 42 ∧ zq_at zy_add_14_65.2.1 77 180 ∧ zq_at zy_add_14_65.2.1 78 0 ∧ zq_at zy_add_14_65.2.1 79 88 ∧ zq_at zy_add_14_65.2.1 80 42 ∧ zq_at zy_add_14_65.2.1 81 180 ∧ zq_at zy_add_14_65.2.1 82 0 ∧ zq_at zy_add_14_65.2.1 83 85 ∧ zq_at zy_add_14_65.2.1 84 29 ∧ zq_at zy_add_14_65.2.1 85 79 ∧ zq_at zy_add_14_65.2.1 86 42 ∧ zq_at zy_add_14_65.2.1 87 180 ∧ zq_at zy_add_14_65.2.1 88 0 ∧ zq_at zy_add_14_65.2.1 89 91 ∧ zq_at zy_add_14_65.2.1 90 42 := by decide +kernel
theorem zd_14_65_69 : zz_D zy_add_14_65 69 (.getfield 85) 3 72 := ⟨zq_180 zg_14_65_69.1 zg_14_65_69.2.1 zg_14_65_69.2.2.1 rfl, rfl⟩
theorem zd_14_65_72 : zz_D zy_add_14_65 72 (.iconst 1) 1 73 := ⟨zq_4 zg_14_65_69.2.2.2.1, rfl⟩
theorem zd_14_65_73 : zz_D zy_add_14_65 73 (.isub) 1 74 := ⟨zq_100 zg_14_65_69.2.2.2.2.1, rfl⟩
theorem zd_14_65_74 : zz_D zy_add_14_65 74 (.iload_n 2) 1 75 := ⟨zq_28 zg_14_65_69.2.2.2.2.2.1, rfl⟩
theorem zd_14_65_75 : zz_D zy_add_14_65 75 (.iastore) 1 76 := ⟨zq_79 zg_14_65_69.2.2.2.2.2.2.1, rfl⟩
theorem zd_14_65_76 : zz_D zy_add_14_65 76 (.aload_n 0) 1 77 := ⟨zq_42 zg_14_65_69.2.2.2.2.2.2.2.1, rfl⟩
theorem zd_14_65_77 : zz_D zy_add_14_65 77 (.getfield 88) 3 80 := ⟨zq_180 zg_14_65_69.2.2.2.2.2.2.2.2.1 zg_14_65_69.2.2.2.2.2.2.2.2.2.1 zg_14_65_69.2.2.2.2.2.2.2.2.2.2.1 rfl, rfl⟩
theorem zd_14_65_80 : zz_D zy_add_14_65 80 (.aload_n 0) 1 81 := ⟨zq_42 zg_14_65_69.2.2.2.2.2.2.2.2.2.2.2.1, rfl⟩
theorem zd_14_65_81 : zz_D zy_add_14_65 81 (.getfield 85) 3 84 := ⟨zq_180 zg_14_65_69.2.2.2.2.2.2.2.2.2.2.2.2.1 zg_14_65_69.2.2.2.2.2.2.2.2.2.2.2.2.2.1 zg_14_65_69.2.2.2.2.2.2.2.2.2.2.2.2.2.2.1 rfl, rfl⟩
theorem zd_14_65_84 : zz_D zy_add_14_65 84 (.iload_n 3) 1 85 := ⟨zq_29 zg_14_65_69.2.2.2.2.2.2.2.2.2.2.2.2.2.2.2.1, rfl⟩
theorem zd_14_65_85 : zz_D zy_add_14_65 85 (.iastore) 1 86 := ⟨zq_79 zg_14_65_69.2.2.2.2.2.2.2.2.2.2.2.2.2.2.2.2.1, rfl⟩
theorem zd_14_65_86 : zz_D zy_add_14_65 86 (.aload_n 0) 1 87 := ⟨zq_42 zg_14_65_69.2.2.2.2.2.2.2.2.2.2.2.2.2.2.2.2.2.1, rfl⟩
theorem zd_14_65_87 : zz_D zy_add_14_65 87 (.getfield 91) 3 90 := ⟨zq_180 zg_14_65_69.2.2.2.2.2.2.2.2.2.2.2.2.2.2.2.2.2.2.1 zg_14_65_69.2.2.2.2.2.2.2.2.2.2.2.2.2.2.2.2.2.2.2.1 zg_14_65_69.2.2.2.2.2.2.2.2.2.2.2.2.2.2.2.2.2.2.2.2.1 rfl, rfl⟩
theorem zd_14_65_90 : zz_D zy_add_14_65 90 (.aload_n 0) 1 91 := ⟨zq_42 zg_14_65_69.2.2.2.2.2.2.2.2.2.2.2.2.2.2.2.2.2.2.2.2.2, rfl⟩
theorem zg_14_65_91 : zq_at zy_add_14_65.2.1 91 180 ∧ zq_at zy_add_14_65.2.1 92 0 ∧ zq_at zy_add_14_65.2.1 93 85 ∧ zq_at zy_add_14_65.2.1 94 21 ∧ zq_at zy_add_14_65.2.1 95 4 ∧ zq_at zy_add_14_65.2.1 96 79 ∧ zq_at zy_add_14_65.2.1 97 42 ∧ zq_at zy_add_14_65.2.1 98 180 ∧ zq_at zy_add_14_65.2.1 99 0 ∧ zq_at zy_add_14_65.2.1 100 94 ∧ zq_at zy_add_14_65.2.1 101 42 ∧ zq_at zy_add_14_65.2.1 102 180 ∧ zq_at zy_add_14_65.2.1 103 0 ∧ zq_at zy_add_14_65.2.1 104 85 ∧ zq_at zy_add_14_65.2.1 105 21 ∧ zq_at zy_add_14_65.2.1 106 5 ∧ zq_at zy_add_14_65.2.1 107 79 ∧ zq_at zy_add_14_65.2.1 108 42 ∧ zq_at zy_add_14_65.2.1 109 180 ∧ zq_at zy_add_14_65.2.1 110 0 ∧ zq_at zy_add_14_65.2.1 111 97 ∧ zq_at zy_add_14_65.2.1 112 42 := by decide +kernel
theorem zd_14_65_91 : zz_D zy_add_14_65 91 (.getfield 85) 3 94 := ⟨zq_180 zg_14_65_91.1 zg_14_65_91.2.1 zg_14_65_91.2.2.1 rfl, rfl⟩
theorem zd_14_65_94 : zz_D zy_add_14_65 94 (.iload 4) 2 96 := ⟨zq_21 zg_14_65_91.2.2.2.1 zg_14_65_91.2.2.2.2.1, rfl⟩
theorem zd_14_65_96 : zz_D zy_add_14_65 96 (.iastore) 1 97 := ⟨zq_79 zg_14_65_91.2.2.2.2.2.1, rfl⟩
theorem zd_14_65_97 : zz_D zy_add_14_65 97 (.aload_n 0) 1 98 := ⟨zq_42 zg_14_65_91.2.2.2.2.2.2.1, rfl⟩
theorem zd_14_65_98 : zz_D zy_add_14_65 98 (.getfield 94) 3 101 := ⟨zq_180 zg_14_65_91.2.2.2.2.2.2.2.1 zg_14_65_91.2.2.2.2.2.2.2.2.1 zg_14_65_91.2.2.2.2.2.2.2.2.2.1 rfl, rfl⟩
theorem zd_14_65_101 : zz_D zy_add_14_65 101 (.aload_n 0) 1 102 := ⟨zq_42 zg_14_65_91.2.2.2.2.2.2.2.2.2.2.1, rfl⟩
theorem zd_14_65_102 : zz_D zy_add_14_65 102 (.getfield 85) 3 105 := ⟨zq_180 zg_14_65_91.2.2.2.2.2.2.2.2.2.2.2.1 zg_14_65_91.2.2.2.2.2.2.2.2.2.2.2.2.1 zg_14_65_91.2.2.2.2.2.2.2.2.2.2.2.2.2.1 rfl, rfl⟩
theorem zd_14_65_105 : zz_D zy_add_14_65 105 (.iload 5) 2 107 := ⟨zq_21 zg_14_65_91.2.2.2.2.2.2.2.2.2.2.2.2.2.2.1 zg_14_65_91.2.2.2.2.2.2.2.2.2.2.2.2.2.2.2.1, rfl⟩
theorem zd_14_65_107 : zz_D zy_add_14_65 107 (.iastore) 1 108 := ⟨zq_79 zg_14_65_91.2.2.2.2.2.2.2.2.2.2.2.2.2.2.2.2.1, rfl⟩
theorem zd_14_65_108 : zz_D zy_add_14_65 108 (.aload_n 0) 1 109 := ⟨zq_42 zg_14_65_91.2.2.2.2.2.2.2.2.2.2.2.2.2.2.2.2.2.1, rfl⟩
theorem zd_14_65_109 : zz_D zy_add_14_65 109 (.getfield 97) 3 112 := ⟨zq_180 zg_14_65_91.2.2.2.2.2.2.2.2.2.2.2.2.2.2.2.2.2.2.1 zg_14_65_91.2.2.2.2.2.2.2.2.2.2.2.2.2.2.2.2.2.2.2.1 zg_14_65_91.2.2.2.2.2.2.2.2.2.2.2.2.2.2.2.2.2.2.2.2.1 rfl, rfl⟩
theorem zd_14_65_112 : zz_D zy_add_14_65 112 (.aload_n 0) 1 113 := ⟨zq_42 zg_14_65_91.2.2.2.2.2.2.2.2.2.2.2.2.2.2.2.2.2.2.2.2.2, rfl⟩
theorem zg_14_65_113 : zq_at zy_add_14_65.2.1 113 180 ∧ zq_at zy_add_14_65.2.1 114 0 ∧ zq_at zy_add_14_65.2.1 115 85 ∧ zq_at zy_add_14_65.2.1 116 4 ∧ zq_at zy_add_14_65.2.1 117 96 ∧ zq_at zy_add_14_65.2.1 118 42 ∧ zq_at zy_add_14_65.2.1 119 180 ∧ zq_at zy_add_14_65.2.1 120 0 ∧ zq_at zy_add_14_65.2.1 121 97 ∧ zq_at zy_add_14_65.2.1 122 42 ∧ zq_at zy_add_14_65.2.1 123 180 ∧ zq_at zy_add_14_65.2.1 124 0 ∧ zq_at zy_add_14_65.2.1 125 85 ∧ zq_at zy_add_14_65.2.1 126 46 ∧ zq_at zy_add_14_65.2.1 127 21 ∧ zq_at zy_add_14_65.2.1 128 6 ∧ zq_at zy_add_14_65.2.1 129 96 ∧ zq_at zy_add_14_65.2.1 130 79 ∧ zq_at zy_add_14_65.2.1 131 42 ∧ zq_at zy_add_14_65.2.1 132 89 ∧ zq_at zy_add_14_65.2.1 133 180 ∧ zq_at zy_add_14_65.2.1 134 0 ∧ zq_at zy_add_14_65.2.1 135 85 ∧ zq_at zy_add_14_65.2.1 136 4 := by decide +kernel
theorem zd_14_65_113 : zz_D zy_add_14_65 113 (.getfield 85) 3 116 := ⟨zq_180 zg_14_65_113.1 zg_14_65_113.2.1 zg_14_65_113.2.2.1 rfl, rfl⟩
theorem zd_14_65_116 : zz_D zy_add_14_65 116 (.iconst 1) 1 117 := ⟨zq_4 zg_14_65_113.2.2.2.1, rfl⟩
theorem zd_14_65_117 : zz_D zy_add_14_65 117 (.iadd) 1 118 := ⟨zq_96 zg_14_65_113.2.2.2.2.1, rfl⟩
theorem zd_14_65_118 : zz_D zy_add_14_65 118 (.aload_n 0) 1 119 := ⟨zq_42 zg_14_65_113.2.2.2.2.2.1, rfl⟩
theorem zd_14_65_119 : zz_D zy_add_14_65 119 (.getfield 97) 3 122 := ⟨zq_180 zg_14_65_113.2.2.2.2.2.2.1 zg_14_65_113.2.2.2.2.2.2.2.1 zg_14_65_113.2.2.2.2.2.2.2.2.1 rfl, rfl⟩
theorem zd_14_65_122 : zz_D zy_add_14_65 122 (.aload_n 0) 1 123 := ⟨zq_42 zg_14_65_113.2.2.2.2.2.2.2.2.2.1, rfl⟩
theorem zd_14_65_123 : zz_D zy_add_14_65 123 (.getfield 85) 3 126 := ⟨zq_180 zg_14_65_113.2.2.2.2.2.2.2.2.2.2.1 zg_14_65_113.2.2.2.2.2.2.2.2.2.2.2.1 zg_14_65_113.2.2.2.2.2.2.2.2.2.2.2.2.1 rfl, rfl⟩
theorem zd_14_65_126 : zz_D zy_add_14_65 126 (.iaload) 1 127 := ⟨zq_46 zg_14_65_113.2.2.2.2.2.2.2.2.2.2.2.2.2.1, rfl⟩
theorem zd_14_65_127 : zz_D zy_add_14_65 127 (.iload 6) 2 129 := ⟨zq_21 zg_14_65_113.2.2.2.2.2.2.2.2.2.2.2.2.2.2.1 zg_14_65_113.2.2.2.2.2.2.2.2.2.2.2.2.2.2.2.1, rfl⟩
theorem zd_14_65_129 : zz_D zy_add_14_65 129 (.iadd) 1 130 := ⟨zq_96 zg_14_65_113.2.2.2.2.2.2.2.2.2.2.2.2.2.2.2.2.1, rfl⟩
theorem zd_14_65_130 : zz_D zy_add_14_65 130 (.iastore) 1 131 := ⟨zq_79 zg_14_65_113.2.2.2.2.2.2.2.2.2.2.2.2.2.2.2.2.2.1, rfl⟩
theorem zd_14_65_131 : zz_D zy_add_14_65 131 (.aload_n 0) 1 132 := ⟨zq_42 zg_14_65_113.2.2.2.2.2.2.2.2.2.2.2.2.2.2.2.2.2.2.1, rfl⟩
theorem zd_14_65_132 : zz_D zy_add_14_65 132 (.dup) 1 133 := ⟨zq_89 zg_14_65_113.2.2.2.2.2.2.2.2.2.2.2.2.2.2.2.2.2.2.2.1, rfl⟩
theorem zd_14_65_133 : zz_D zy_add_14_65 133 (.getfield 85) 3 136 := ⟨zq_180 zg_14_65_113.2.2.2.2.2.2.2.2.2.2.2.2.2.2.2.2.2.2.2.2.1 zg_14_65_113.2.2.2.2.2.2.2.2.2.2.2.2.2.2.2.2.2.2.2.2.2.1 zg_14_65_113.2.2.2.2.2.2.2.2.2.2.2.2.2.2.2.2.2.2.2.2.2.2.1 rfl, rfl⟩
theorem zd_14_65_136 : zz_D zy_add_14_65 136 (.iconst 1) 1 137 := ⟨zq_4 zg_14_65_113.2.2.2.2.2.2.2.2.2.2.2.2.2.2.2.2.2.2.2.2.2.2.2, rfl⟩
theorem zg_14_65_137 : zq_at zy_add_14_65.2.1 137 96 ∧ zq_at zy_add_14_65.2.1 138 181 ∧ zq_at zy_add_14_65.2.1 139 0 ∧ zq_at zy_add_14_65.2.1 140 85 ∧ zq_at zy_add_14_65.2.1 141 42 ∧ zq_at zy_add_14_65.2.1 142 180 ∧ zq_at zy_add_14_65.2.1 143 0 ∧ zq_at zy_add_14_65.2.1 144 85 ∧ zq_at zy_add_14_65.2.1 145 4 ∧ zq_at zy_add_14_65.2.1 146 100 ∧ zq_at zy_add_14_65.2.1 147 172 := by decide +kernel
theorem zd_14_65_137 : zz_D zy_add_14_65 137 (.iadd) 1 138 := ⟨zq_96 zg_14_65_137.1, rfl⟩
theorem zd_14_65_138 : zz_D zy_add_14_65 138 (.putfield 85) 3 141 := ⟨zq_181 zg_14_65_137.2.1 zg_14_65_137.2.2.1 zg_14_65_137.2.2.2.1 rfl, rfl⟩
theorem zd_14_65_141 : zz_D zy_add_14_65 141 (.aload_n 0) 1 142 := ⟨zq_42 zg_14_65_137.2.2.2.2.1, rfl⟩
theorem zd_14_65_142 : zz_D zy_add_14_65 142 (.getfield 85) 3 145 := ⟨zq_180 zg_14_65_137.2.2.2.2.2.1 zg_14_65_137.2.2.2.2.2.2.1 zg_14_65_137.2.2.2.2.2.2.2.1 rfl, rfl⟩
theorem zd_14_65_145 : zz_D zy_add_14_65 145 (.iconst 1) 1 146 := ⟨zq_4 zg_14_65_137.2.2.2.2.2.2.2.2.1, rfl⟩
theorem zd_14_65_146 : zz_D zy_add_14_65 146 (.isub) 1 147 := ⟨zq_100 zg_14_65_137.2.2.2.2.2.2.2.2.2.1, rfl⟩
theorem zd_14_65_147 : zz_D zy_add_14_65 147 (.ireturn) 1 148 := ⟨zq_172 zg_14_65_137.2.2.2.2.2.2.2.2.2.2, rfl⟩
-- TensorForgeModel add (IIIII)I
abbrev zr_add_14_65 : Room := { frames := 1, cells := 0, slots := 0, locals := 15 }
def zp_add_14_65 (p0 : Int) (p1 : Int) (p2 : Int) (p3 : Int) (p4 : Int) (S0 : zz_S) : Int → zz_S → Prop := fun r S => zz_G S ∧ zz_fr [(1079, 0), (1079, 36)] [] (fun a i => (a = 1102 ∧ i = (S0 1079 36).toNat) ∨ (a = 1103 ∧ i = (S0 1079 36).toNat) ∨ (a = 1104 ∧ i = (S0 1079 36).toNat) ∨ (a = 1105 ∧ i = ((S0 1079 36) + 1).toNat) ∨ (a = 1106 ∧ i = ((S0 1079 36) - 1).toNat) ∨ (a = 1107 ∧ i = ((S0 1079 36) - 1).toNat)) S0 S ∧ (0 ≤ r ∧ r ≤ 10) ∧ ((S 1079 0 = 3 ∧ S 1079 36 = S0 1079 36) ∨ (S 1079 0 = 0 ∧ S0 1079 36 ≤ 10 ∧ r = S0 1079 36 ∧ S 1079 36 = S0 1079 36 + 1)) ∧ (S 1079 0 = 3 → zz_Hr S0 → zz_Hr S) ∧ (S 1079 0 = 0 → S 1102 (S0 1079 36).toNat = p2 ∧ S 1103 (S0 1079 36).toNat = p3 ∧ S 1104 (S0 1079 36).toNat = p4 ∧ S 1105 (S0 1079 36).toNat = S0 1105 (S0 1079 36).toNat ∧ S0 1105 (S0 1079 36).toNat + (p2 * p3) * p4 ≤ 2048 ∧ S 1106 (S0 1079 36 - 1).toNat = p0 ∧ S 1107 (S0 1079 36 - 1).toNat = p1) ∧ (S 1079 0 = 3 → ∀ v : zn_T, zn_M S0 v → zn_M S v) ∧ (S 1079 0 = 3 → 10 < S0 1079 36 ∨ 2048 < S0 1105 (S0 1079 36).toNat + (p2 * p3) * p4) ∧ (S 1079 0 = 0 → S 1105 (S0 1079 36 + 1).toNat = S0 1105 (S0 1079 36).toNat + (p2 * p3) * p4)
theorem zc_add_14_65 {g : mm_G} {l : Launch} (p0 : Int) (p1 : Int) (p2 : Int) (p3 : Int) (p4 : Int) (S0 : zz_S) (n : Nat) (hn : zz_end ≤ n) (G_S0 : zz_G S0) (hp0 : 0 ≤ p0 ∧ p0 ≤ 2) (hp1 : 0 ≤ p1 ∧ p1 ≤ 10) (hp2 : 0 ≤ p2 ∧ p2 ≤ 63) (hp3 : 0 ≤ p3 ∧ p3 ≤ 63) (hp4 : 0 ≤ p4 ∧ p4 ≤ 63) (hq : 1 ≤ S0 1079 36) : mm_Met g l zy_add_14_65 zr_add_14_65 [.ref 1079, zi p0, zi p1, zi p2, zi p3, zi p4] (zz_M S0 n) n (zz_QI n (zp_add_14_65 p0 p1 p2 p3 p4 S0)) := by
  refine zz_enter (by decide) (Nat.le_of_ble_eq_true rfl) (zz_less (ls1 := [some (.ref 1079), some (zi p0), some (zi p1), some (zi p2), some (zi p3), some (zi p4)]) ⟨rfl, ⟨rfl, ⟨rfl, ⟨rfl, ⟨rfl, ⟨rfl, trivial⟩⟩⟩⟩⟩⟩ ?_)
  have F_S0 : zz_fr [(1079, 0), (1079, 36)] [] (fun a i => (a = 1102 ∧ i = (S0 1079 36).toNat) ∨ (a = 1103 ∧ i = (S0 1079 36).toNat) ∨ (a = 1104 ∧ i = (S0 1079 36).toNat) ∨ (a = 1105 ∧ i = ((S0 1079 36) + 1).toNat) ∨ (a = 1106 ∧ i = ((S0 1079 36) - 1).toNat) ∨ (a = 1107 ∧ i = ((S0 1079 36) - 1).toNat)) S0 S0 := zz_fr.refl
  refine zz_iload_n (x := p2) rfl zd_14_65_0 ?_
  refine zz_iload (x := p3) rfl zd_14_65_1 ?_
  refine zz_imul zd_14_65_3 ?_
  have m1 := zz_mulb (a := p2) (b := p3) 63 63 3969 (by omega) (by omega) (by decide)
  refine zz_iload (x := p4) rfl zd_14_65_4 ?_
  refine zz_imul zd_14_65_6 ?_
  have m2 := zz_mulb (a := p2 * p3) (b := p4) 3969 63 250047 (by omega) (by omega) (by decide)
  refine zz_istore [some (.ref 1079), some (zi p0), some (zi p1), some (zi p2), some (zi p3), some (zi p4), some (zi ((p2 * p3) * p4))] zd_14_65_7 (by decide) rfl ?_
  refine zz_aload_n (x := 1079) rfl zd_14_65_9 ?_
  refine zz_iconst zd_14_65_10 ?_
  refine zz_iconst zd_14_65_11 ?_
  refine zz_aload_n (x := 1079) rfl zd_14_65_12 ?_
  have g3 := zz_G.r G_S0 1079 36 0 11 rfl rfl
  refine zz_geti (z := S0 1079 36) zd_14_65_13 zf_Md_85 zT_1079 rfl (zz_ltn hn rfl) rfl ?_
  refine zz_bipush (by decide) zd_14_65_16 ?_
  refine zz_icmp_gt (by omega) (by omega) zd_14_65_18 (fun c4 => ?_) (fun c4 => ?_)
  · refine zz_iconst zd_14_65_39 ?_
    refine zz_goto zd_14_65_40 ?_
    refine zz_callVI [zi 0, zi 0, zi 1] zd_14_65_44 zk_Md_196 zT_1079 (zz_ltn hn rfl) rfl rfl ⟨Nat.le_of_ble_eq_true rfl, Nat.le_of_ble_eq_true rfl⟩ ⟨rfl, rfl⟩ (Nat.zero_le _) (Nat.zero_le _) (zc_refuse_14_3 0 0 1 S0 n hn G_S0 (by omega) (by omega) (by omega)) (fun v6 S5 hP => ?_)
    obtain ⟨G_S5, fS5, o7, o8⟩ := hP
    have F_S5 := zz_fr.trans F_S0 fS5 rfl zz_nv
    rcases (by omega : v6 = 0 ∨ v6 = 1) with rfl | rfl
    · exfalso; omega
    · have e9 : S5 1079 0 = 3 := by omega
      clear o8
      refine zz_if_eq (by omega) zd_14_65_47 (fun c10 => ?_) (fun c10 => ?_)
      · exfalso; omega
      · refine zz_iconst zd_14_65_50 ?_
        have e11 : S5 1079 36 = S0 1079 36 := (zz_rc fS5 rfl rfl (fun h => h) rfl)
        have g12 := zz_G.r G_S0 1102 ((S0 1079 36).toNat) 0 63 rfl rfl
        have e13 : S5 1102 (S0 1079 36).toNat = S0 1102 (S0 1079 36).toNat := (zz_rc fS5 (zz_nc1 rfl) rfl (fun h => h) rfl)
        have g14 := zz_G.r G_S0 1103 ((S0 1079 36).toNat) 0 63 rfl rfl
        have e15 : S5 1103 (S0 1079 36).toNat = S0 1103 (S0 1079 36).toNat := (zz_rc fS5 (zz_nc1 rfl) rfl (fun h => h) rfl)
        have g16 := zz_G.r G_S0 1104 ((S0 1079 36).toNat) 0 63 rfl rfl
        have e17 : S5 1104 (S0 1079 36).toNat = S0 1104 (S0 1079 36).toNat := (zz_rc fS5 (zz_nc1 rfl) rfl (fun h => h) rfl)
        have g18 := zz_G.r G_S0 1105 ((S0 1079 36).toNat) (0) (if (S0 1079 36).toNat = 0 then 0 else 10000000) rfl rfl
        have e19 : S5 1105 (S0 1079 36).toNat = S0 1105 (S0 1079 36).toNat := (zz_rc fS5 (zz_nc1 rfl) rfl (fun h => h) rfl)
        have g20 := zz_G.r G_S0 1106 ((S0 1079 36 - 1).toNat) 0 2 rfl rfl
        have e21 : S5 1106 (S0 1079 36 - 1).toNat = S0 1106 (S0 1079 36 - 1).toNat := (zz_rc fS5 (zz_nc1 rfl) rfl (fun h => h) rfl)
        have g22 := zz_G.r G_S0 1107 ((S0 1079 36 - 1).toNat) 0 10 rfl rfl
        have e23 : S5 1107 (S0 1079 36 - 1).toNat = S0 1107 (S0 1079 36 - 1).toNat := (zz_rc fS5 (zz_nc1 rfl) rfl (fun h => h) rfl)
        have g24 := zz_G.r G_S0 1105 ((S0 1079 36 + 1).toNat) (0) (if (S0 1079 36 + 1).toNat = 0 then 0 else 10000000) rfl rfl
        have e25 : S5 1105 (S0 1079 36 + 1).toNat = S0 1105 (S0 1079 36 + 1).toNat := (zz_rc fS5 (zz_nc1 rfl) rfl (fun h => h) rfl)
        exact zz_iret zd_14_65_51 rfl (Nat.zero_le _) (Nat.zero_le _) ⟨_, _, rfl, G_S5, F_S5, by omega, by omega, fun _ h => zz_Hr.fr fS5 rfl rfl (fun b j h => h.elim) h, by omega, fun _ v h => zn_M.fr h fS5 rfl rfl (fun b j h => h.elim) (by omega), by omega, by omega⟩
  · refine zz_aload_n (x := 1079) rfl zd_14_65_21 ?_
    refine zz_getr (kd := 0) (z := 1105) zd_14_65_22 zf_Md_97 zT_1079 rfl (zz_ltn hn rfl) (zz_G.eq G_S0 1079 40 1105 rfl rfl) (by decide) 1105 rfl ?_
    refine zz_aload_n (x := 1079) rfl zd_14_65_25 ?_
    refine zz_geti (z := S0 1079 36) zd_14_65_26 zf_Md_85 zT_1079 rfl (zz_ltn hn rfl) rfl ?_
    have g26 := zz_G.r G_S0 1105 ((S0 1079 36).toNat) (0) (if (S0 1079 36).toNat = 0 then 0 else 10000000) rfl rfl
    refine zz_iald (z := S0 1105 ((S0 1079 36).toNat)) zd_14_65_29 zT_1105 rfl (zz_ltn hn rfl) (by decide) (by omega) rfl ?_
    refine zz_iload (x := (p2 * p3) * p4) rfl zd_14_65_30 ?_
    refine zz_iadd zd_14_65_32 ?_
    refine zz_nme (fun v27 ev27 => ?_)
    refine zz_sipush (by decide) zd_14_65_33 ?_
    refine zz_icmp_le (by omega) (by omega) zd_14_65_36 (fun c28 => ?_) (fun c28 => ?_)
    · refine zz_iconst zd_14_65_43 ?_
      refine zz_callVI [zi 0, zi 0, zi 0] zd_14_65_44 zk_Md_196 zT_1079 (zz_ltn hn rfl) rfl rfl ⟨Nat.le_of_ble_eq_true rfl, Nat.le_of_ble_eq_true rfl⟩ ⟨rfl, rfl⟩ (Nat.zero_le _) (Nat.zero_le _) (zc_refuse_14_3 0 0 0 S0 n hn G_S0 (by omega) (by omega) (by omega)) (fun v30 S29 hP => ?_)
      obtain ⟨G_S29, fS29, o31, o32⟩ := hP
      have F_S29 := zz_fr.trans F_S0 fS29 rfl zz_nv
      rcases (by omega : v30 = 0 ∨ v30 = 1) with rfl | rfl
      · have e33 : S29 1079 0 = 0 := by omega
        clear o32
        refine zz_if_eq (by omega) zd_14_65_47 (fun c34 => ?_) (fun c34 => ?_)
        · refine zz_aload_n (x := 1079) rfl zd_14_65_52 ?_
          refine zz_getr (kd := 0) (z := 1106) zd_14_65_53 zf_Md_100 zT_1079 rfl (zz_ltn hn rfl) (zz_G.eq G_S29 1079 41 1106 rfl rfl) (by decide) 1106 rfl ?_
          refine zz_aload_n (x := 1079) rfl zd_14_65_56 ?_
          refine zz_geti (z := S0 1079 36) zd_14_65_57 zf_Md_85 zT_1079 rfl (zz_ltn hn rfl) (zz_rc fS29 rfl rfl (fun h => h) rfl) ?_
          refine zz_iconst zd_14_65_60 ?_
          refine zz_isub zd_14_65_61 ?_
          refine zz_iload_n (x := p0) rfl zd_14_65_62 ?_
          refine zz_iast zd_14_65_63 zT_1106 rfl (zz_ltn hn rfl) (by decide) (by omega) (fun S35 qS35 => ?_)
          have G_S35 := zz_G.put G_S29 qS35 0 2 rfl (by omega)
          have F_S35 := zz_fr.putv F_S29 qS35 (Or.inr (Or.inr (Or.inr (Or.inr (Or.inl ⟨rfl, rfl⟩)))))
          refine zz_aload_n (x := 1079) rfl zd_14_65_64 ?_
          refine zz_getr (kd := 0) (z := 1107) zd_14_65_65 zf_Md_103 zT_1079 rfl (zz_ltn hn rfl) (zz_G.eq G_S35 1079 42 1107 rfl rfl) (by decide) 1107 rfl ?_
          refine zz_aload_n (x := 1079) rfl zd_14_65_68 ?_
          refine zz_geti (z := S0 1079 36) zd_14_65_69 zf_Md_85 zT_1079 rfl (zz_ltn hn rfl) (zz_ro qS35 (fun h => absurd h.1 (by decide)) (zz_rc fS29 rfl rfl (fun h => h) rfl)) ?_
          refine zz_iconst zd_14_65_72 ?_
          refine zz_isub zd_14_65_73 ?_
          refine zz_iload_n (x := p1) rfl zd_14_65_74 ?_
          refine zz_iast zd_14_65_75 zT_1107 rfl (zz_ltn hn rfl) (by decide) (by omega) (fun S36 qS36 => ?_)
          have G_S36 := zz_G.put G_S35 qS36 0 10 rfl (by omega)
          have F_S36 := zz_fr.putv F_S35 qS36 (Or.inr (Or.inr (Or.inr (Or.inr (Or.inr (⟨rfl, rfl⟩))))))
          refine zz_aload_n (x := 1079) rfl zd_14_65_76 ?_
          refine zz_getr (kd := 0) (z := 1102) zd_14_65_77 zf_Md_88 zT_1079 rfl (zz_ltn hn rfl) (zz_G.eq G_S36 1079 37 1102 rfl rfl) (by decide) 1102 rfl ?_
          refine zz_aload_n (x := 1079) rfl zd_14_65_80 ?_
          refine zz_geti (z := S0 1079 36) zd_14_65_81 zf_Md_85 zT_1079 rfl (zz_ltn hn rfl) (zz_ro qS36 (fun h => absurd h.1 (by decide)) (zz_ro qS35 (fun h => absurd h.1 (by decide)) (zz_rc fS29 rfl rfl (fun h => h) rfl))) ?_
          refine zz_iload_n (x := p2) rfl zd_14_65_84 ?_
          refine zz_iast zd_14_65_85 zT_1102 rfl (zz_ltn hn rfl) (by decide) (by omega) (fun S37 qS37 => ?_)
          have G_S37 := zz_G.put G_S36 qS37 0 63 rfl (by omega)
          have F_S37 := zz_fr.putv F_S36 qS37 (Or.inl ⟨rfl, rfl⟩)
          refine zz_aload_n (x := 1079) rfl zd_14_65_86 ?_
          refine zz_getr (kd := 0) (z := 1103) zd_14_65_87 zf_Md_91 zT_1079 rfl (zz_ltn hn rfl) (zz_G.eq G_S37 1079 38 1103 rfl rfl) (by decide) 1103 rfl ?_
          refine zz_aload_n (x := 1079) rfl zd_14_65_90 ?_
          refine zz_geti (z := S0 1079 36) zd_14_65_91 zf_Md_85 zT_1079 rfl (zz_ltn hn rfl) (zz_ro qS37 (fun h => absurd h.1 (by decide)) (zz_ro qS36 (fun h => absurd h.1 (by decide)) (zz_ro qS35 (fun h => absurd h.1 (by decide)) (zz_rc fS29 rfl rfl (fun h => h) rfl)))) ?_
          refine zz_iload (x := p3) rfl zd_14_65_94 ?_
          refine zz_iast zd_14_65_96 zT_1103 rfl (zz_ltn hn rfl) (by decide) (by omega) (fun S38 qS38 => ?_)
          have G_S38 := zz_G.put G_S37 qS38 0 63 rfl (by omega)
          have F_S38 := zz_fr.putv F_S37 qS38 (Or.inr (Or.inl ⟨rfl, rfl⟩))
          refine zz_aload_n (x := 1079) rfl zd_14_65_97 ?_
          refine zz_getr (kd := 0) (z := 1104) zd_14_65_98 zf_Md_94 zT_1079 rfl (zz_ltn hn rfl) (zz_G.eq G_S38 1079 39 1104 rfl rfl) (by decide) 1104 rfl ?_
          refine zz_aload_n (x := 1079) rfl zd_14_65_101 ?_
          refine zz_geti (z := S0 1079 36) zd_14_65_102 zf_Md_85 zT_1079 rfl (zz_ltn hn rfl) (zz_ro qS38 (fun h => absurd h.1 (by decide)) (zz_ro qS37 (fun h => absurd h.1 (by decide)) (zz_ro qS36 (fun h => absurd h.1 (by decide)) (zz_ro qS35 (fun h => absurd h.1 (by decide)) (zz_rc fS29 rfl rfl (fun h => h) rfl))))) ?_
          refine zz_iload (x := p4) rfl zd_14_65_105 ?_
          refine zz_iast zd_14_65_107 zT_1104 rfl (zz_ltn hn rfl) (by decide) (by omega) (fun S39 qS39 => ?_)
          have G_S39 := zz_G.put G_S38 qS39 0 63 rfl (by omega)
          have F_S39 := zz_fr.putv F_S38 qS39 (Or.inr (Or.inr (Or.inl ⟨rfl, rfl⟩)))
          refine zz_aload_n (x := 1079) rfl zd_14_65_108 ?_
          refine zz_getr (kd := 0) (z := 1105) zd_14_65_109 zf_Md_97 zT_1079 rfl (zz_ltn hn rfl) (zz_G.eq G_S39 1079 40 1105 rfl rfl) (by decide) 1105 rfl ?_
          refine zz_aload_n (x := 1079) rfl zd_14_65_112 ?_
          refine zz_geti (z := S0 1079 36) zd_14_65_113 zf_Md_85 zT_1079 rfl (zz_ltn hn rfl) (zz_ro qS39 (fun h => absurd h.1 (by decide)) (zz_ro qS38 (fun h => absurd h.1 (by decide)) (zz_ro qS37 (fun h => absurd h.1 (by decide)) (zz_ro qS36 (fun h => absurd h.1 (by decide)) (zz_ro qS35 (fun h => absurd h.1 (by decide)) (zz_rc fS29 rfl rfl (fun h => h) rfl)))))) ?_
          refine zz_iconst zd_14_65_116 ?_
          refine zz_iadd zd_14_65_117 ?_
          refine zz_aload_n (x := 1079) rfl zd_14_65_118 ?_
          refine zz_getr (kd := 0) (z := 1105) zd_14_65_119 zf_Md_97 zT_1079 rfl (zz_ltn hn rfl) (zz_G.eq G_S39 1079 40 1105 rfl rfl) (by decide) 1105 rfl ?_
          refine zz_aload_n (x := 1079) rfl zd_14_65_122 ?_
          refine zz_geti (z := S0 1079 36) zd_14_65_123 zf_Md_85 zT_1079 rfl (zz_ltn hn rfl) (zz_ro qS39 (fun h => absurd h.1 (by decide)) (zz_ro qS38 (fun h => absurd h.1 (by decide)) (zz_ro qS37 (fun h => absurd h.1 (by decide)) (zz_ro qS36 (fun h => absurd h.1 (by decide)) (zz_ro qS35 (fun h => absurd h.1 (by decide)) (zz_rc fS29 rfl rfl (fun h => h) rfl)))))) ?_
          refine zz_iald (z := S0 1105 ((S0 1079 36).toNat)) zd_14_65_126 zT_1105 rfl (zz_ltn hn rfl) (by decide) (by omega) (zz_ro qS39 (fun h => absurd h.1 (by decide)) (zz_ro qS38 (fun h => absurd h.1 (by decide)) (zz_ro qS37 (fun h => absurd h.1 (by decide)) (zz_ro qS36 (fun h => absurd h.1 (by decide)) (zz_ro qS35 (fun h => absurd h.1 (by decide)) (zz_rc fS29 (zz_nc1 rfl) rfl (fun h => h) rfl)))))) ?_
          refine zz_iload (x := (p2 * p3) * p4) rfl zd_14_65_127 ?_
          refine zz_iadd zd_14_65_129 ?_
          refine zz_nme (fun v40 ev40 => ?_)
          refine zz_iast zd_14_65_130 zT_1105 rfl (zz_ltn hn rfl) (by decide) (by omega) (fun S41 qS41 => ?_)
          have G_S41 := zz_G.put G_S39 qS41 (0) (if ((S0 1079 36) + 1).toNat = 0 then 0 else 10000000) rfl (by omega)
          have F_S41 := zz_fr.putv F_S39 qS41 (Or.inr (Or.inr (Or.inr (Or.inl ⟨rfl, rfl⟩))))
          refine zz_aload_n (x := 1079) rfl zd_14_65_131 ?_
          refine zz_dup rfl zd_14_65_132 ?_
          refine zz_geti (z := S0 1079 36) zd_14_65_133 zf_Md_85 zT_1079 rfl (zz_ltn hn rfl) (zz_ro qS41 (fun h => absurd h.1 (by decide)) (zz_ro qS39 (fun h => absurd h.1 (by decide)) (zz_ro qS38 (fun h => absurd h.1 (by decide)) (zz_ro qS37 (fun h => absurd h.1 (by decide)) (zz_ro qS36 (fun h => absurd h.1 (by decide)) (zz_ro qS35 (fun h => absurd h.1 (by decide)) (zz_rc fS29 rfl rfl (fun h => h) rfl))))))) ?_
          refine zz_iconst zd_14_65_136 ?_
          refine zz_iadd zd_14_65_137 ?_
          refine zz_puti zd_14_65_138 zf_Md_85 zT_1079 rfl (zz_ltn hn rfl) (fun S42 qS42 => ?_)
          have G_S42 := zz_G.put G_S41 qS42 0 11 rfl (by omega)
          have F_S42 := zz_fr.puts F_S41 qS42 rfl
          refine zz_aload_n (x := 1079) rfl zd_14_65_141 ?_
          refine zz_geti (z := (S0 1079 36) + 1) zd_14_65_142 zf_Md_85 zT_1079 rfl (zz_ltn hn rfl) (zz_rs qS42) ?_
          refine zz_iconst zd_14_65_145 ?_
          refine zz_isub zd_14_65_146 ?_
          have e43 : S42 1079 0 = S29 1079 0 := (zz_ro qS42 (fun h => absurd h.2 (by decide)) (zz_ro qS41 (fun h => absurd h.1 (by decide)) (zz_ro qS39 (fun h => absurd h.1 (by decide)) (zz_ro qS38 (fun h => absurd h.1 (by decide)) (zz_ro qS37 (fun h => absurd h.1 (by decide)) (zz_ro qS36 (fun h => absurd h.1 (by decide)) (zz_ro qS35 (fun h => absurd h.1 (by decide)) rfl)))))))
          have e44 : S42 1079 36 = (S0 1079 36) + 1 := (zz_rs qS42)
          have e45 : S42 1102 (S0 1079 36).toNat = p2 := (zz_ro qS42 (fun h => absurd h.1 (by decide)) (zz_ro qS41 (fun h => absurd h.1 (by decide)) (zz_ro qS39 (fun h => absurd h.1 (by decide)) (zz_ro qS38 (fun h => absurd h.1 (by decide)) (zz_rs qS37)))))
          have e46 : S42 1103 (S0 1079 36).toNat = p3 := (zz_ro qS42 (fun h => absurd h.1 (by decide)) (zz_ro qS41 (fun h => absurd h.1 (by decide)) (zz_ro qS39 (fun h => absurd h.1 (by decide)) (zz_rs qS38))))
          have e47 : S42 1104 (S0 1079 36).toNat = p4 := (zz_ro qS42 (fun h => absurd h.1 (by decide)) (zz_ro qS41 (fun h => absurd h.1 (by decide)) (zz_rs qS39)))
          have e48 : S42 1105 (S0 1079 36).toNat = S0 1105 (S0 1079 36).toNat := (zz_ro qS42 (fun h => absurd h.1 (by decide)) (zz_ro qS41 (fun h => absurd h.2 (by omega)) (zz_ro qS39 (fun h => absurd h.1 (by decide)) (zz_ro qS38 (fun h => absurd h.1 (by decide)) (zz_ro qS37 (fun h => absurd h.1 (by decide)) (zz_ro qS36 (fun h => absurd h.1 (by decide)) (zz_ro qS35 (fun h => absurd h.1 (by decide)) (zz_rc fS29 (zz_nc1 rfl) rfl (fun h => h) rfl))))))))
          have e49 : S42 1106 (S0 1079 36 - 1).toNat = p0 := (zz_ro qS42 (fun h => absurd h.1 (by decide)) (zz_ro qS41 (fun h => absurd h.1 (by decide)) (zz_ro qS39 (fun h => absurd h.1 (by decide)) (zz_ro qS38 (fun h => absurd h.1 (by decide)) (zz_ro qS37 (fun h => absurd h.1 (by decide)) (zz_ro qS36 (fun h => absurd h.1 (by decide)) (zz_rs qS35)))))))
          have e50 : S42 1107 (S0 1079 36 - 1).toNat = p1 := (zz_ro qS42 (fun h => absurd h.1 (by decide)) (zz_ro qS41 (fun h => absurd h.1 (by decide)) (zz_ro qS39 (fun h => absurd h.1 (by decide)) (zz_ro qS38 (fun h => absurd h.1 (by decide)) (zz_ro qS37 (fun h => absurd h.1 (by decide)) (zz_rs qS36))))))
          have e51 : S42 1105 (S0 1079 36 + 1).toNat = v40 := (zz_ro qS42 (fun h => absurd h.1 (by decide)) (zz_rs qS41))
          exact zz_iret zd_14_65_147 rfl (Nat.zero_le _) (Nat.zero_le _) ⟨_, _, rfl, G_S42, F_S42, by omega, by omega, fun h => absurd h (by omega), by omega, fun h => absurd h (by omega), by omega, by omega⟩
        · exfalso; omega
      · exfalso; omega
    · refine zz_iconst zd_14_65_39 ?_
      refine zz_goto zd_14_65_40 ?_
      refine zz_callVI [zi 0, zi 0, zi 1] zd_14_65_44 zk_Md_196 zT_1079 (zz_ltn hn rfl) rfl rfl ⟨Nat.le_of_ble_eq_true rfl, Nat.le_of_ble_eq_true rfl⟩ ⟨rfl, rfl⟩ (Nat.zero_le _) (Nat.zero_le _) (zc_refuse_14_3 0 0 1 S0 n hn G_S0 (by omega) (by omega) (by omega)) (fun v53 S52 hP => ?_)
      obtain ⟨G_S52, fS52, o54, o55⟩ := hP
      have F_S52 := zz_fr.trans F_S0 fS52 rfl zz_nv
      rcases (by omega : v53 = 0 ∨ v53 = 1) with rfl | rfl
      · exfalso; omega
      · have e56 : S52 1079 0 = 3 := by omega
        clear o55
        refine zz_if_eq (by omega) zd_14_65_47 (fun c57 => ?_) (fun c57 => ?_)
        · exfalso; omega
        · refine zz_iconst zd_14_65_50 ?_
          have e58 : S52 1079 36 = S0 1079 36 := (zz_rc fS52 rfl rfl (fun h => h) rfl)
          have g59 := zz_G.r G_S0 1102 ((S0 1079 36).toNat) 0 63 rfl rfl
          have e60 : S52 1102 (S0 1079 36).toNat = S0 1102 (S0 1079 36).toNat := (zz_rc fS52 (zz_nc1 rfl) rfl (fun h => h) rfl)
          have g61 := zz_G.r G_S0 1103 ((S0 1079 36).toNat) 0 63 rfl rfl
          have e62 : S52 1103 (S0 1079 36).toNat = S0 1103 (S0 1079 36).toNat := (zz_rc fS52 (zz_nc1 rfl) rfl (fun h => h) rfl)
          have g63 := zz_G.r G_S0 1104 ((S0 1079 36).toNat) 0 63 rfl rfl
          have e64 : S52 1104 (S0 1079 36).toNat = S0 1104 (S0 1079 36).toNat := (zz_rc fS52 (zz_nc1 rfl) rfl (fun h => h) rfl)
          have e65 : S52 1105 (S0 1079 36).toNat = S0 1105 (S0 1079 36).toNat := (zz_rc fS52 (zz_nc1 rfl) rfl (fun h => h) rfl)
          have g66 := zz_G.r G_S0 1106 ((S0 1079 36 - 1).toNat) 0 2 rfl rfl
          have e67 : S52 1106 (S0 1079 36 - 1).toNat = S0 1106 (S0 1079 36 - 1).toNat := (zz_rc fS52 (zz_nc1 rfl) rfl (fun h => h) rfl)
          have g68 := zz_G.r G_S0 1107 ((S0 1079 36 - 1).toNat) 0 10 rfl rfl
          have e69 : S52 1107 (S0 1079 36 - 1).toNat = S0 1107 (S0 1079 36 - 1).toNat := (zz_rc fS52 (zz_nc1 rfl) rfl (fun h => h) rfl)
          have g70 := zz_G.r G_S0 1105 ((S0 1079 36 + 1).toNat) (0) (if (S0 1079 36 + 1).toNat = 0 then 0 else 10000000) rfl rfl
          have e71 : S52 1105 (S0 1079 36 + 1).toNat = S0 1105 (S0 1079 36 + 1).toNat := (zz_rc fS52 (zz_nc1 rfl) rfl (fun h => h) rfl)
          exact zz_iret zd_14_65_51 rfl (Nat.zero_le _) (Nat.zero_le _) ⟨_, _, rfl, G_S52, F_S52, by omega, by omega, fun _ h => zz_Hr.fr fS52 rfl rfl (fun b j h => h.elim) h, by omega, fun _ v h => zn_M.fr h fS52 rfl rfl (fun b j h => h.elim) (by omega), by omega, by omega⟩
abbrev zy_isTensor_14_66 : mm_Y := (⟨"TensorForgeModel", "isTensor", "(I)Z"⟩, prog_14_method_66_code, 2, (some .boolean))
theorem zyw_isTensor_14_66 : mm_Yw zy_isTensor_14_66 1 := ⟨mm_tb_1 2085 (by decide +kernel) rfl, mm_tb_1 12 (by decide +kernel) rfl, ⟨by decide, by decide⟩, by decide +kernel⟩
theorem zg_14_66_0 : zq_at zy_isTensor_14_66.2.1 0 27 ∧ zq_at zy_isTensor_14_66.2.1 1 133 ∧ zq_at zy_isTensor_14_66.2.1 2 9 ∧ zq_at zy_isTensor_14_66.2.1 3 42 ∧ zq_at zy_isTensor_14_66.2.1 4 180 ∧ zq_at zy_isTensor_14_66.2.1 5 0 ∧ zq_at zy_isTensor_14_66.2.1 6 85 ∧ zq_at zy_isTensor_14_66.2.1 7 4 ∧ zq_at zy_isTensor_14_66.2.1 8 100 ∧ zq_at zy_isTensor_14_66.2.1 9 133 ∧ zq_at zy_isTensor_14_66.2.1 10 184 ∧ zq_at zy_isTensor_14_66.2.1 11 0 ∧ zq_at zy_isTensor_14_66.2.1 12 192 ∧ zq_at zy_isTensor_14_66.2.1 13 172 := by decide +kernel
theorem zd_14_66_0 : zz_D zy_isTensor_14_66 0 (.iload_n 1) 1 1 := ⟨zq_27 zg_14_66_0.1, rfl⟩
theorem zd_14_66_1 : zz_D zy_isTensor_14_66 1 (.i2l) 1 2 := ⟨zq_133 zg_14_66_0.2.1, rfl⟩
theorem zd_14_66_2 : zz_D zy_isTensor_14_66 2 (.lconst 0) 1 3 := ⟨zq_9 zg_14_66_0.2.2.1, rfl⟩
theorem zd_14_66_3 : zz_D zy_isTensor_14_66 3 (.aload_n 0) 1 4 := ⟨zq_42 zg_14_66_0.2.2.2.1, rfl⟩
theorem zd_14_66_4 : zz_D zy_isTensor_14_66 4 (.getfield 85) 3 7 := ⟨zq_180 zg_14_66_0.2.2.2.2.1 zg_14_66_0.2.2.2.2.2.1 zg_14_66_0.2.2.2.2.2.2.1 rfl, rfl⟩
theorem zd_14_66_7 : zz_D zy_isTensor_14_66 7 (.iconst 1) 1 8 := ⟨zq_4 zg_14_66_0.2.2.2.2.2.2.2.1, rfl⟩
theorem zd_14_66_8 : zz_D zy_isTensor_14_66 8 (.isub) 1 9 := ⟨zq_100 zg_14_66_0.2.2.2.2.2.2.2.2.1, rfl⟩
theorem zd_14_66_9 : zz_D zy_isTensor_14_66 9 (.i2l) 1 10 := ⟨zq_133 zg_14_66_0.2.2.2.2.2.2.2.2.2.1, rfl⟩
theorem zd_14_66_10 : zz_D zy_isTensor_14_66 10 (.invokestatic 192) 3 13 := ⟨zq_184 zg_14_66_0.2.2.2.2.2.2.2.2.2.2.1 zg_14_66_0.2.2.2.2.2.2.2.2.2.2.2.1 zg_14_66_0.2.2.2.2.2.2.2.2.2.2.2.2.1 rfl, rfl⟩
theorem zd_14_66_13 : zz_D zy_isTensor_14_66 13 (.ireturn) 1 14 := ⟨zq_172 zg_14_66_0.2.2.2.2.2.2.2.2.2.2.2.2.2, rfl⟩
-- TensorForgeModel isTensor (I)Z
abbrev zr_isTensor_14_66 : Room := { frames := 1, cells := 0, slots := 0, locals := 17 }
def zp_isTensor_14_66 (p0 : Int) (S0 : zz_S) : Int → zz_S → Prop := fun r S => S0 = S ∧ (0 ≤ r ∧ r ≤ 1) ∧ ((r = 1 ∧ 0 ≤ p0 ∧ p0 ≤ S0 1079 36 - 1) ∨ (r = 0 ∧ (p0 < 0 ∨ S0 1079 36 - 1 < p0)))
theorem zc_isTensor_14_66 {g : mm_G} {l : Launch} (p0 : Int) (S0 : zz_S) (n : Nat) (hn : zz_end ≤ n) (G_S0 : zz_G S0) (hp0 : (-2147483648) ≤ p0 ∧ p0 ≤ 2147483647) : mm_Met g l zy_isTensor_14_66 zr_isTensor_14_66 [.ref 1079, zi p0] (zz_M S0 n) n (zz_QI n (zp_isTensor_14_66 p0 S0)) := by
  refine zz_enter (by decide) (Nat.le_of_ble_eq_true rfl) (zz_less (ls1 := [some (.ref 1079), some (zi p0)]) ⟨rfl, ⟨rfl, trivial⟩⟩ ?_)
  refine zz_iload_n (x := p0) rfl zd_14_66_0 ?_
  refine zz_i2l (by omega) zd_14_66_1 ?_
  refine zz_lconst (z := 0) (by decide) zd_14_66_2 ?_
  refine zz_aload_n (x := 1079) rfl zd_14_66_3 ?_
  have g1 := zz_G.r G_S0 1079 36 0 11 rfl rfl
  refine zz_geti (z := S0 1079 36) zd_14_66_4 zf_Md_85 zT_1079 rfl (zz_ltn hn rfl) rfl ?_
  refine zz_iconst zd_14_66_7 ?_
  refine zz_isub zd_14_66_8 ?_
  refine zz_i2l (by omega) zd_14_66_9 ?_
  refine zz_callSI [zl p0, zl 0, zl ((S0 1079 36) - 1)] zd_14_66_10 zk_Md_192 rfl rfl ⟨Nat.le_of_ble_eq_true rfl, Nat.le_of_ble_eq_true rfl⟩ ⟨rfl, rfl⟩ (Nat.zero_le _) (Nat.zero_le _) (zc_in_14_4 p0 0 ((S0 1079 36) - 1) S0 n hn G_S0 (by omega) (by omega) (by omega)) (fun v3 S2 hP => ?_)
  obtain ⟨rfl, o4, o5⟩ := hP
  rcases (by omega : v3 = 0 ∨ v3 = 1) with rfl | rfl
  · have n6 : p0 < 0 ∨ (S0 1079 36) - 1 < p0 := by omega
    clear o5
    exact zz_zret zd_14_66_13 rfl (by omega) (Nat.zero_le _) (Nat.zero_le _) ⟨_, _, rfl, rfl, by omega, by omega⟩
  · have n7 : 0 ≤ p0 ∧ p0 ≤ (S0 1079 36) - 1 := by omega
    clear o5
    exact zz_zret zd_14_66_13 rfl (by omega) (Nat.zero_le _) (Nat.zero_le _) ⟨_, _, rfl, rfl, by omega, by omega⟩
abbrev zy_convolution_14_67 : mm_Y := (⟨"TensorForgeModel", "convolution", "(IIIIII)I"⟩, prog_14_method_67_code, 19, (some .int))
theorem zyw_convolution_14_67 : mm_Yw zy_convolution_14_67 6 := ⟨mm_tb_1 2081 (by decide +kernel) rfl, mm_tb_1 12 (by decide +kernel) rfl, ⟨by decide, by decide⟩, by decide +kernel⟩
theorem zk_Md_411 : mm_Vl "TensorForgeModel" 411 11 1 zy_isTensor_14_66 := ⟨zyw_isTensor_14_66, (R_Md, F_Md, 69), rfl, mm_tb_1 2082 (by decide +kernel) rfl, mm_tb_1 2084 (by decide +kernel) rfl, mm_tb_s 120 (by decide +kernel) rfl⟩
theorem zq_Md_414 : Cond.constantLong "TensorForgeModel" 414 (33 : Int64) ∈ mm_tb := mm_tb_1 2086 (by decide +kernel) rfl
theorem zq_Md_416 : Cond.constantLong "TensorForgeModel" 416 (3 : Int64) ∈ mm_tb := mm_tb_1 2087 (by decide +kernel) rfl
theorem zq_Md_418 : Cond.constantLong "TensorForgeModel" 418 (21 : Int64) ∈ mm_tb := mm_tb_1 2088 (by decide +kernel) rfl
theorem zk_Md_420 : mm_Sl "TensorForgeModel" 420 4 zy_resultsOf_14_64 := ⟨zyw_resultsOf_14_64, mm_tb_1 2089 (by decide +kernel) rfl, mm_tb_1 2090 (by decide +kernel) rfl⟩
theorem zq_Md_424 : Cond.constantLong "TensorForgeModel" 424 (4096 : Int64) ∈ mm_tb := mm_tb_1 2092 (by decide +kernel) rfl
theorem zk_Md_426 : mm_Vl "TensorForgeModel" 426 11 5 zy_add_14_65 := ⟨zyw_add_14_65, (R_Md, F_Md, 69), rfl, mm_tb_1 2093 (by decide +kernel) rfl, mm_tb_1 2095 (by decide +kernel) rfl, mm_tb_s 121 (by decide +kernel) rfl⟩
abbrev zy_setLayer_14_68 : mm_Y := (⟨"TensorForgeModel", "setLayer", "(IIIIII)V"⟩, prog_14_method_68_code, 7, none)
theorem zyw_setLayer_14_68 : mm_Yw zy_setLayer_14_68 6 := ⟨mm_tb_1 2100 (by decide +kernel) rfl, mm_tb_1 12 (by decide +kernel) rfl, ⟨by decide, by decide⟩, by decide +kernel⟩
theorem zf_Md_109 : mm_Fl "TensorForgeModel" 109 11 44 (.array .int) true := ⟨R_Md, F_Md, 69, t_Md, rfl, i_Md, by decide, mm_tb_1 1655 (by decide +kernel) rfl, rfl, t_Md_ok, n_Md, rfl, by decide +kernel⟩
theorem zf_Md_112 : mm_Fl "TensorForgeModel" 112 11 45 (.array .int) true := ⟨R_Md, F_Md, 69, t_Md, rfl, i_Md, by decide, mm_tb_1 1656 (by decide +kernel) rfl, rfl, t_Md_ok, n_Md, rfl, by decide +kernel⟩
theorem zf_Md_115 : mm_Fl "TensorForgeModel" 115 11 46 (.array .int) true := ⟨R_Md, F_Md, 69, t_Md, rfl, i_Md, by decide, mm_tb_1 1657 (by decide +kernel) rfl, rfl, t_Md_ok, n_Md, rfl, by decide +kernel⟩
theorem zf_Md_118 : mm_Fl "TensorForgeModel" 118 11 47 (.array .int) true := ⟨R_Md, F_Md, 69, t_Md, rfl, i_Md, by decide, mm_tb_1 1658 (by decide +kernel) rfl, rfl, t_Md_ok, n_Md, rfl, by decide +kernel⟩
theorem zf_Md_121 : mm_Fl "TensorForgeModel" 121 11 48 (.array .int) true := ⟨R_Md, F_Md, 69, t_Md, rfl, i_Md, by decide, mm_tb_1 1659 (by decide +kernel) rfl, rfl, t_Md_ok, n_Md, rfl, by decide +kernel⟩
theorem zg_14_67_0 : zq_at zy_convolution_14_67.2.1 0 42 ∧ zq_at zy_convolution_14_67.2.1 1 27 ∧ zq_at zy_convolution_14_67.2.1 2 182 ∧ zq_at zy_convolution_14_67.2.1 3 1 ∧ zq_at zy_convolution_14_67.2.1 4 155 ∧ zq_at zy_convolution_14_67.2.1 5 154 ∧ zq_at zy_convolution_14_67.2.1 6 0 ∧ zq_at zy_convolution_14_67.2.1 7 13 ∧ zq_at zy_convolution_14_67.2.1 8 42 ∧ zq_at zy_convolution_14_67.2.1 9 4 ∧ zq_at zy_convolution_14_67.2.1 10 3 ∧ zq_at zy_convolution_14_67.2.1 11 3 ∧ zq_at zy_convolution_14_67.2.1 12 182 ∧ zq_at zy_convolution_14_67.2.1 13 0 ∧ zq_at zy_convolution_14_67.2.1 14 196 ∧ zq_at zy_convolution_14_67.2.1 15 87 ∧ zq_at zy_convolution_14_67.2.1 16 3 ∧ zq_at zy_convolution_14_67.2.1 17 172 ∧ zq_at zy_convolution_14_67.2.1 18 28 ∧ zq_at zy_convolution_14_67.2.1 19 16 ∧ zq_at zy_convolution_14_67.2.1 20 10 ∧ zq_at zy_convolution_14_67.2.1 21 108 ∧ zq_at zy_convolution_14_67.2.1 22 54 ∧ zq_at zy_convolution_14_67.2.1 23 7 := by decide +kernel
theorem zd_14_67_0 : zz_D zy_convolution_14_67 0 (.aload_n 0) 1 1 := ⟨zq_42 zg_14_67_0.1, rfl⟩
theorem zd_14_67_1 : zz_D zy_convolution_14_67 1 (.iload_n 1) 1 2 := ⟨zq_27 zg_14_67_0.2.1, rfl⟩
theorem zd_14_67_2 : zz_D zy_convolution_14_67 2 (.invokevirtual 411) 3 5 := ⟨zq_182 zg_14_67_0.2.2.1 zg_14_67_0.2.2.2.1 zg_14_67_0.2.2.2.2.1 rfl, rfl⟩
theorem zd_14_67_5 : zz_B zy_convolution_14_67 5 (Instr.ifCond .ne) 18 8 := ⟨13, zq_154 zg_14_67_0.2.2.2.2.2.1 zg_14_67_0.2.2.2.2.2.2.1 zg_14_67_0.2.2.2.2.2.2.2.1 (by decide), rfl, rfl⟩
theorem zd_14_67_8 : zz_D zy_convolution_14_67 8 (.aload_n 0) 1 9 := ⟨zq_42 zg_14_67_0.2.2.2.2.2.2.2.2.1, rfl⟩
theorem zd_14_67_9 : zz_D zy_convolution_14_67 9 (.iconst 1) 1 10 := ⟨zq_4 zg_14_67_0.2.2.2.2.2.2.2.2.2.1, rfl⟩
theorem zd_14_67_10 : zz_D zy_convolution_14_67 10 (.iconst 0) 1 11 := ⟨zq_3 zg_14_67_0.2.2.2.2.2.2.2.2.2.2.1, rfl⟩
theorem zd_14_67_11 : zz_D zy_convolution_14_67 11 (.iconst 0) 1 12 := ⟨zq_3 zg_14_67_0.2.2.2.2.2.2.2.2.2.2.2.1, rfl⟩
theorem zd_14_67_12 : zz_D zy_convolution_14_67 12 (.invokevirtual 196) 3 15 := ⟨zq_182 zg_14_67_0.2.2.2.2.2.2.2.2.2.2.2.2.1 zg_14_67_0.2.2.2.2.2.2.2.2.2.2.2.2.2.1 zg_14_67_0.2.2.2.2.2.2.2.2.2.2.2.2.2.2.1 rfl, rfl⟩
theorem zd_14_67_15 : zz_D zy_convolution_14_67 15 (.pop) 1 16 := ⟨zq_87 zg_14_67_0.2.2.2.2.2.2.2.2.2.2.2.2.2.2.2.1, rfl⟩
theorem zd_14_67_16 : zz_D zy_convolution_14_67 16 (.iconst 0) 1 17 := ⟨zq_3 zg_14_67_0.2.2.2.2.2.2.2.2.2.2.2.2.2.2.2.2.1, rfl⟩
theorem zd_14_67_17 : zz_D zy_convolution_14_67 17 (.ireturn) 1 18 := ⟨zq_172 zg_14_67_0.2.2.2.2.2.2.2.2.2.2.2.2.2.2.2.2.2.1, rfl⟩
theorem zd_14_67_18 : zz_D zy_convolution_14_67 18 (.iload_n 2) 1 19 := ⟨zq_28 zg_14_67_0.2.2.2.2.2.2.2.2.2.2.2.2.2.2.2.2.2.2.1, rfl⟩
theorem zd_14_67_19 : zz_D zy_convolution_14_67 19 (.bipush 10) 2 21 := ⟨zq_16 zg_14_67_0.2.2.2.2.2.2.2.2.2.2.2.2.2.2.2.2.2.2.2.1 zg_14_67_0.2.2.2.2.2.2.2.2.2.2.2.2.2.2.2.2.2.2.2.2.1 (by decide), rfl⟩
theorem zd_14_67_21 : zz_D zy_convolution_14_67 21 (.idiv) 1 22 := ⟨zq_108 zg_14_67_0.2.2.2.2.2.2.2.2.2.2.2.2.2.2.2.2.2.2.2.2.2.1, rfl⟩
theorem zd_14_67_22 : zz_D zy_convolution_14_67 22 (.istore 7) 2 24 := ⟨zq_54 zg_14_67_0.2.2.2.2.2.2.2.2.2.2.2.2.2.2.2.2.2.2.2.2.2.2.1 zg_14_67_0.2.2.2.2.2.2.2.2.2.2.2.2.2.2.2.2.2.2.2.2.2.2.2, rfl⟩
theorem zg_14_67_24 : zq_at zy_convolution_14_67.2.1 24 28 ∧ zq_at zy_convolution_14_67.2.1 25 16 ∧ zq_at zy_convolution_14_67.2.1 26 10 ∧ zq_at zy_convolution_14_67.2.1 27 112 ∧ zq_at zy_convolution_14_67.2.1 28 54 ∧ zq_at zy_convolution_14_67.2.1 29 8 ∧ zq_at zy_convolution_14_67.2.1 30 21 ∧ zq_at zy_convolution_14_67.2.1 31 4 ∧ zq_at zy_convolution_14_67.2.1 32 16 ∧ zq_at zy_convolution_14_67.2.1 33 10 ∧ zq_at zy_convolution_14_67.2.1 34 108 ∧ zq_at zy_convolution_14_67.2.1 35 54 ∧ zq_at zy_convolution_14_67.2.1 36 9 ∧ zq_at zy_convolution_14_67.2.1 37 21 ∧ zq_at zy_convolution_14_67.2.1 38 4 ∧ zq_at zy_convolution_14_67.2.1 39 16 ∧ zq_at zy_convolution_14_67.2.1 40 10 ∧ zq_at zy_convolution_14_67.2.1 41 112 ∧ zq_at zy_convolution_14_67.2.1 42 54 ∧ zq_at zy_convolution_14_67.2.1 43 10 ∧ zq_at zy_convolution_14_67.2.1 44 28 ∧ zq_at zy_convolution_14_67.2.1 45 133 := by decide +kernel
theorem zd_14_67_24 : zz_D zy_convolution_14_67 24 (.iload_n 2) 1 25 := ⟨zq_28 zg_14_67_24.1, rfl⟩
theorem zd_14_67_25 : zz_D zy_convolution_14_67 25 (.bipush 10) 2 27 := ⟨zq_16 zg_14_67_24.2.1 zg_14_67_24.2.2.1 (by decide), rfl⟩
theorem zd_14_67_27 : zz_D zy_convolution_14_67 27 (.irem) 1 28 := ⟨zq_112 zg_14_67_24.2.2.2.1, rfl⟩
theorem zd_14_67_28 : zz_D zy_convolution_14_67 28 (.istore 8) 2 30 := ⟨zq_54 zg_14_67_24.2.2.2.2.1 zg_14_67_24.2.2.2.2.2.1, rfl⟩
theorem zd_14_67_30 : zz_D zy_convolution_14_67 30 (.iload 4) 2 32 := ⟨zq_21 zg_14_67_24.2.2.2.2.2.2.1 zg_14_67_24.2.2.2.2.2.2.2.1, rfl⟩
theorem zd_14_67_32 : zz_D zy_convolution_14_67 32 (.bipush 10) 2 34 := ⟨zq_16 zg_14_67_24.2.2.2.2.2.2.2.2.1 zg_14_67_24.2.2.2.2.2.2.2.2.2.1 (by decide), rfl⟩
theorem zd_14_67_34 : zz_D zy_convolution_14_67 34 (.idiv) 1 35 := ⟨zq_108 zg_14_67_24.2.2.2.2.2.2.2.2.2.2.1, rfl⟩
theorem zd_14_67_35 : zz_D zy_convolution_14_67 35 (.istore 9) 2 37 := ⟨zq_54 zg_14_67_24.2.2.2.2.2.2.2.2.2.2.2.1 zg_14_67_24.2.2.2.2.2.2.2.2.2.2.2.2.1, rfl⟩
theorem zd_14_67_37 : zz_D zy_convolution_14_67 37 (.iload 4) 2 39 := ⟨zq_21 zg_14_67_24.2.2.2.2.2.2.2.2.2.2.2.2.2.1 zg_14_67_24.2.2.2.2.2.2.2.2.2.2.2.2.2.2.1, rfl⟩
theorem zd_14_67_39 : zz_D zy_convolution_14_67 39 (.bipush 10) 2 41 := ⟨zq_16 zg_14_67_24.2.2.2.2.2.2.2.2.2.2.2.2.2.2.2.1 zg_14_67_24.2.2.2.2.2.2.2.2.2.2.2.2.2.2.2.2.1 (by decide), rfl⟩
theorem zd_14_67_41 : zz_D zy_convolution_14_67 41 (.irem) 1 42 := ⟨zq_112 zg_14_67_24.2.2.2.2.2.2.2.2.2.2.2.2.2.2.2.2.2.1, rfl⟩
theorem zd_14_67_42 : zz_D zy_convolution_14_67 42 (.istore 10) 2 44 := ⟨zq_54 zg_14_67_24.2.2.2.2.2.2.2.2.2.2.2.2.2.2.2.2.2.2.1 zg_14_67_24.2.2.2.2.2.2.2.2.2.2.2.2.2.2.2.2.2.2.2.1, rfl⟩
theorem zd_14_67_44 : zz_D zy_convolution_14_67 44 (.iload_n 2) 1 45 := ⟨zq_28 zg_14_67_24.2.2.2.2.2.2.2.2.2.2.2.2.2.2.2.2.2.2.2.2.1, rfl⟩
theorem zd_14_67_45 : zz_D zy_convolution_14_67 45 (.i2l) 1 46 := ⟨zq_133 zg_14_67_24.2.2.2.2.2.2.2.2.2.2.2.2.2.2.2.2.2.2.2.2.2, rfl⟩
theorem zg_14_67_46 : zq_at zy_convolution_14_67.2.1 46 20 ∧ zq_at zy_convolution_14_67.2.1 47 0 ∧ zq_at zy_convolution_14_67.2.1 48 218 ∧ zq_at zy_convolution_14_67.2.1 49 20 ∧ zq_at zy_convolution_14_67.2.1 50 1 ∧ zq_at zy_convolution_14_67.2.1 51 158 ∧ zq_at zy_convolution_14_67.2.1 52 184 ∧ zq_at zy_convolution_14_67.2.1 53 0 ∧ zq_at zy_convolution_14_67.2.1 54 192 ∧ zq_at zy_convolution_14_67.2.1 55 153 ∧ zq_at zy_convolution_14_67.2.1 56 0 ∧ zq_at zy_convolution_14_67.2.1 57 97 ∧ zq_at zy_convolution_14_67.2.1 152 3 ∧ zq_at zy_convolution_14_67.2.1 153 54 ∧ zq_at zy_convolution_14_67.2.1 154 11 ∧ zq_at zy_convolution_14_67.2.1 155 21 ∧ zq_at zy_convolution_14_67.2.1 156 11 ∧ zq_at zy_convolution_14_67.2.1 157 153 ∧ zq_at zy_convolution_14_67.2.1 158 0 ∧ zq_at zy_convolution_14_67.2.1 159 21 ∧ zq_at zy_convolution_14_67.2.1 178 3 ∧ zq_at zy_convolution_14_67.2.1 179 54 ∧ zq_at zy_convolution_14_67.2.1 180 12 := by decide +kernel
theorem zd_14_67_46 : zz_D zy_convolution_14_67 46 (.ldc2_w 218) 3 49 := ⟨zq_20 zg_14_67_46.1 zg_14_67_46.2.1 zg_14_67_46.2.2.1 rfl, rfl⟩
theorem zd_14_67_49 : zz_D zy_convolution_14_67 49 (.ldc2_w 414) 3 52 := ⟨zq_20 zg_14_67_46.2.2.2.1 zg_14_67_46.2.2.2.2.1 zg_14_67_46.2.2.2.2.2.1 rfl, rfl⟩
theorem zd_14_67_52 : zz_D zy_convolution_14_67 52 (.invokestatic 192) 3 55 := ⟨zq_184 zg_14_67_46.2.2.2.2.2.2.1 zg_14_67_46.2.2.2.2.2.2.2.1 zg_14_67_46.2.2.2.2.2.2.2.2.1 rfl, rfl⟩
theorem zd_14_67_55 : zz_B zy_convolution_14_67 55 (Instr.ifCond .eq) 152 58 := ⟨97, zq_153 zg_14_67_46.2.2.2.2.2.2.2.2.2.1 zg_14_67_46.2.2.2.2.2.2.2.2.2.2.1 zg_14_67_46.2.2.2.2.2.2.2.2.2.2.2.1 (by decide), rfl, rfl⟩
theorem zd_14_67_152 : zz_D zy_convolution_14_67 152 (.iconst 0) 1 153 := ⟨zq_3 zg_14_67_46.2.2.2.2.2.2.2.2.2.2.2.2.1, rfl⟩
theorem zd_14_67_153 : zz_D zy_convolution_14_67 153 (.istore 11) 2 155 := ⟨zq_54 zg_14_67_46.2.2.2.2.2.2.2.2.2.2.2.2.2.1 zg_14_67_46.2.2.2.2.2.2.2.2.2.2.2.2.2.2.1, rfl⟩
theorem zd_14_67_155 : zz_D zy_convolution_14_67 155 (.iload 11) 2 157 := ⟨zq_21 zg_14_67_46.2.2.2.2.2.2.2.2.2.2.2.2.2.2.2.1 zg_14_67_46.2.2.2.2.2.2.2.2.2.2.2.2.2.2.2.2.1, rfl⟩
theorem zd_14_67_157 : zz_B zy_convolution_14_67 157 (Instr.ifCond .eq) 178 160 := ⟨21, zq_153 zg_14_67_46.2.2.2.2.2.2.2.2.2.2.2.2.2.2.2.2.2.1 zg_14_67_46.2.2.2.2.2.2.2.2.2.2.2.2.2.2.2.2.2.2.1 zg_14_67_46.2.2.2.2.2.2.2.2.2.2.2.2.2.2.2.2.2.2.2.1 (by decide), rfl, rfl⟩
theorem zd_14_67_178 : zz_D zy_convolution_14_67 178 (.iconst 0) 1 179 := ⟨zq_3 zg_14_67_46.2.2.2.2.2.2.2.2.2.2.2.2.2.2.2.2.2.2.2.2.1, rfl⟩
theorem zd_14_67_179 : zz_D zy_convolution_14_67 179 (.istore 12) 2 181 := ⟨zq_54 zg_14_67_46.2.2.2.2.2.2.2.2.2.2.2.2.2.2.2.2.2.2.2.2.2.1 zg_14_67_46.2.2.2.2.2.2.2.2.2.2.2.2.2.2.2.2.2.2.2.2.2.2, rfl⟩
theorem zg_14_67_181 : zq_at zy_convolution_14_67.2.1 181 21 ∧ zq_at zy_convolution_14_67.2.1 182 11 ∧ zq_at zy_convolution_14_67.2.1 183 153 ∧ zq_at zy_convolution_14_67.2.1 184 0 ∧ zq_at zy_convolution_14_67.2.1 185 21 ∧ zq_at zy_convolution_14_67.2.1 204 3 ∧ zq_at zy_convolution_14_67.2.1 205 54 ∧ zq_at zy_convolution_14_67.2.1 206 13 ∧ zq_at zy_convolution_14_67.2.1 207 21 ∧ zq_at zy_convolution_14_67.2.1 208 11 ∧ zq_at zy_convolution_14_67.2.1 209 153 ∧ zq_at zy_convolution_14_67.2.1 210 0 ∧ zq_at zy_convolution_14_67.2.1 211 24 ∧ zq_at zy_convolution_14_67.2.1 233 9 ∧ zq_at zy_convolution_14_67.2.1 234 55 ∧ zq_at zy_convolution_14_67.2.1 235 14 ∧ zq_at zy_convolution_14_67.2.1 236 21 ∧ zq_at zy_convolution_14_67.2.1 237 12 ∧ zq_at zy_convolution_14_67.2.1 238 133 ∧ zq_at zy_convolution_14_67.2.1 239 10 ∧ zq_at zy_convolution_14_67.2.1 240 20 ∧ zq_at zy_convolution_14_67.2.1 241 1 ∧ zq_at zy_convolution_14_67.2.1 242 143 := by decide +kernel
theorem zd_14_67_181 : zz_D zy_convolution_14_67 181 (.iload 11) 2 183 := ⟨zq_21 zg_14_67_181.1 zg_14_67_181.2.1, rfl⟩
theorem zd_14_67_183 : zz_B zy_convolution_14_67 183 (Instr.ifCond .eq) 204 186 := ⟨21, zq_153 zg_14_67_181.2.2.1 zg_14_67_181.2.2.2.1 zg_14_67_181.2.2.2.2.1 (by decide), rfl, rfl⟩
theorem zd_14_67_204 : zz_D zy_convolution_14_67 204 (.iconst 0) 1 205 := ⟨zq_3 zg_14_67_181.2.2.2.2.2.1, rfl⟩
theorem zd_14_67_205 : zz_D zy_convolution_14_67 205 (.istore 13) 2 207 := ⟨zq_54 zg_14_67_181.2.2.2.2.2.2.1 zg_14_67_181.2.2.2.2.2.2.2.1, rfl⟩
theorem zd_14_67_207 : zz_D zy_convolution_14_67 207 (.iload 11) 2 209 := ⟨zq_21 zg_14_67_181.2.2.2.2.2.2.2.2.1 zg_14_67_181.2.2.2.2.2.2.2.2.2.1, rfl⟩
theorem zd_14_67_209 : zz_B zy_convolution_14_67 209 (Instr.ifCond .eq) 233 212 := ⟨24, zq_153 zg_14_67_181.2.2.2.2.2.2.2.2.2.2.1 zg_14_67_181.2.2.2.2.2.2.2.2.2.2.2.1 zg_14_67_181.2.2.2.2.2.2.2.2.2.2.2.2.1 (by decide), rfl, rfl⟩
theorem zd_14_67_233 : zz_D zy_convolution_14_67 233 (.lconst 0) 1 234 := ⟨zq_9 zg_14_67_181.2.2.2.2.2.2.2.2.2.2.2.2.2.1, rfl⟩
theorem zd_14_67_234 : zz_D zy_convolution_14_67 234 (.lstore 14) 2 236 := ⟨zq_55 zg_14_67_181.2.2.2.2.2.2.2.2.2.2.2.2.2.2.1 zg_14_67_181.2.2.2.2.2.2.2.2.2.2.2.2.2.2.2.1, rfl⟩
theorem zd_14_67_236 : zz_D zy_convolution_14_67 236 (.iload 12) 2 238 := ⟨zq_21 zg_14_67_181.2.2.2.2.2.2.2.2.2.2.2.2.2.2.2.2.1 zg_14_67_181.2.2.2.2.2.2.2.2.2.2.2.2.2.2.2.2.2.1, rfl⟩
theorem zd_14_67_238 : zz_D zy_convolution_14_67 238 (.i2l) 1 239 := ⟨zq_133 zg_14_67_181.2.2.2.2.2.2.2.2.2.2.2.2.2.2.2.2.2.2.1, rfl⟩
theorem zd_14_67_239 : zz_D zy_convolution_14_67 239 (.lconst 1) 1 240 := ⟨zq_10 zg_14_67_181.2.2.2.2.2.2.2.2.2.2.2.2.2.2.2.2.2.2.2.1, rfl⟩
theorem zd_14_67_240 : zz_D zy_convolution_14_67 240 (.ldc2_w 399) 3 243 := ⟨zq_20 zg_14_67_181.2.2.2.2.2.2.2.2.2.2.2.2.2.2.2.2.2.2.2.2.1 zg_14_67_181.2.2.2.2.2.2.2.2.2.2.2.2.2.2.2.2.2.2.2.2.2.1 zg_14_67_181.2.2.2.2.2.2.2.2.2.2.2.2.2.2.2.2.2.2.2.2.2.2 rfl, rfl⟩
theorem zg_14_67_243 : zq_at zy_convolution_14_67.2.1 243 184 ∧ zq_at zy_convolution_14_67.2.1 244 0 ∧ zq_at zy_convolution_14_67.2.1 245 192 ∧ zq_at zy_convolution_14_67.2.1 246 153 ∧ zq_at zy_convolution_14_67.2.1 247 0 ∧ zq_at zy_convolution_14_67.2.1 248 46 ∧ zq_at zy_convolution_14_67.2.1 292 3 ∧ zq_at zy_convolution_14_67.2.1 293 54 ∧ zq_at zy_convolution_14_67.2.1 294 16 ∧ zq_at zy_convolution_14_67.2.1 295 42 ∧ zq_at zy_convolution_14_67.2.1 296 3 ∧ zq_at zy_convolution_14_67.2.1 297 21 ∧ zq_at zy_convolution_14_67.2.1 298 16 ∧ zq_at zy_convolution_14_67.2.1 299 154 ∧ zq_at zy_convolution_14_67.2.1 300 0 ∧ zq_at zy_convolution_14_67.2.1 301 7 ∧ zq_at zy_convolution_14_67.2.1 302 4 ∧ zq_at zy_convolution_14_67.2.1 303 167 ∧ zq_at zy_convolution_14_67.2.1 304 0 ∧ zq_at zy_convolution_14_67.2.1 305 4 ∧ zq_at zy_convolution_14_67.2.1 307 3 ∧ zq_at zy_convolution_14_67.2.1 308 182 ∧ zq_at zy_convolution_14_67.2.1 309 0 ∧ zq_at zy_convolution_14_67.2.1 310 196 := by decide +kernel
theorem zd_14_67_243 : zz_D zy_convolution_14_67 243 (.invokestatic 192) 3 246 := ⟨zq_184 zg_14_67_243.1 zg_14_67_243.2.1 zg_14_67_243.2.2.1 rfl, rfl⟩
theorem zd_14_67_246 : zz_B zy_convolution_14_67 246 (Instr.ifCond .eq) 292 249 := ⟨46, zq_153 zg_14_67_243.2.2.2.1 zg_14_67_243.2.2.2.2.1 zg_14_67_243.2.2.2.2.2.1 (by decide), rfl, rfl⟩
theorem zd_14_67_292 : zz_D zy_convolution_14_67 292 (.iconst 0) 1 293 := ⟨zq_3 zg_14_67_243.2.2.2.2.2.2.1, rfl⟩
theorem zd_14_67_293 : zz_D zy_convolution_14_67 293 (.istore 16) 2 295 := ⟨zq_54 zg_14_67_243.2.2.2.2.2.2.2.1 zg_14_67_243.2.2.2.2.2.2.2.2.1, rfl⟩
theorem zd_14_67_295 : zz_D zy_convolution_14_67 295 (.aload_n 0) 1 296 := ⟨zq_42 zg_14_67_243.2.2.2.2.2.2.2.2.2.1, rfl⟩
theorem zd_14_67_296 : zz_D zy_convolution_14_67 296 (.iconst 0) 1 297 := ⟨zq_3 zg_14_67_243.2.2.2.2.2.2.2.2.2.2.1, rfl⟩
theorem zd_14_67_297 : zz_D zy_convolution_14_67 297 (.iload 16) 2 299 := ⟨zq_21 zg_14_67_243.2.2.2.2.2.2.2.2.2.2.2.1 zg_14_67_243.2.2.2.2.2.2.2.2.2.2.2.2.1, rfl⟩
theorem zd_14_67_299 : zz_B zy_convolution_14_67 299 (Instr.ifCond .ne) 306 302 := ⟨7, zq_154 zg_14_67_243.2.2.2.2.2.2.2.2.2.2.2.2.2.1 zg_14_67_243.2.2.2.2.2.2.2.2.2.2.2.2.2.2.1 zg_14_67_243.2.2.2.2.2.2.2.2.2.2.2.2.2.2.2.1 (by decide), rfl, rfl⟩
theorem zd_14_67_302 : zz_D zy_convolution_14_67 302 (.iconst 1) 1 303 := ⟨zq_4 zg_14_67_243.2.2.2.2.2.2.2.2.2.2.2.2.2.2.2.2.1, rfl⟩
theorem zd_14_67_303 : zz_B zy_convolution_14_67 303 Instr.goto 307 306 := ⟨4, zq_167 zg_14_67_243.2.2.2.2.2.2.2.2.2.2.2.2.2.2.2.2.2.1 zg_14_67_243.2.2.2.2.2.2.2.2.2.2.2.2.2.2.2.2.2.2.1 zg_14_67_243.2.2.2.2.2.2.2.2.2.2.2.2.2.2.2.2.2.2.2.1 (by decide), rfl, rfl⟩
theorem zd_14_67_307 : zz_D zy_convolution_14_67 307 (.iconst 0) 1 308 := ⟨zq_3 zg_14_67_243.2.2.2.2.2.2.2.2.2.2.2.2.2.2.2.2.2.2.2.2.1, rfl⟩
theorem zd_14_67_308 : zz_D zy_convolution_14_67 308 (.invokevirtual 196) 3 311 := ⟨zq_182 zg_14_67_243.2.2.2.2.2.2.2.2.2.2.2.2.2.2.2.2.2.2.2.2.2.1 zg_14_67_243.2.2.2.2.2.2.2.2.2.2.2.2.2.2.2.2.2.2.2.2.2.2.1 zg_14_67_243.2.2.2.2.2.2.2.2.2.2.2.2.2.2.2.2.2.2.2.2.2.2.2 rfl, rfl⟩
theorem zg_14_67_311 : zq_at zy_convolution_14_67.2.1 311 153 ∧ zq_at zy_convolution_14_67.2.1 312 0 ∧ zq_at zy_convolution_14_67.2.1 313 5 ∧ zq_at zy_convolution_14_67.2.1 314 3 ∧ zq_at zy_convolution_14_67.2.1 315 172 ∧ zq_at zy_convolution_14_67.2.1 58 21 ∧ zq_at zy_convolution_14_67.2.1 59 7 ∧ zq_at zy_convolution_14_67.2.1 60 133 ∧ zq_at zy_convolution_14_67.2.1 61 10 ∧ zq_at zy_convolution_14_67.2.1 62 20 ∧ zq_at zy_convolution_14_67.2.1 63 1 ∧ zq_at zy_convolution_14_67.2.1 64 160 ∧ zq_at zy_convolution_14_67.2.1 65 184 ∧ zq_at zy_convolution_14_67.2.1 66 0 ∧ zq_at zy_convolution_14_67.2.1 67 192 ∧ zq_at zy_convolution_14_67.2.1 68 153 ∧ zq_at zy_convolution_14_67.2.1 69 0 ∧ zq_at zy_convolution_14_67.2.1 70 84 ∧ zq_at zy_convolution_14_67.2.1 71 21 ∧ zq_at zy_convolution_14_67.2.1 72 8 ∧ zq_at zy_convolution_14_67.2.1 73 133 ∧ zq_at zy_convolution_14_67.2.1 74 10 := by decide +kernel
theorem zd_14_67_311 : zz_B zy_convolution_14_67 311 (Instr.ifCond .eq) 316 314 := ⟨5, zq_153 zg_14_67_311.1 zg_14_67_311.2.1 zg_14_67_311.2.2.1 (by decide), rfl, rfl⟩
theorem zd_14_67_314 : zz_D zy_convolution_14_67 314 (.iconst 0) 1 315 := ⟨zq_3 zg_14_67_311.2.2.2.1, rfl⟩
theorem zd_14_67_315 : zz_D zy_convolution_14_67 315 (.ireturn) 1 316 := ⟨zq_172 zg_14_67_311.2.2.2.2.1, rfl⟩
theorem zd_14_67_58 : zz_D zy_convolution_14_67 58 (.iload 7) 2 60 := ⟨zq_21 zg_14_67_311.2.2.2.2.2.1 zg_14_67_311.2.2.2.2.2.2.1, rfl⟩
theorem zd_14_67_60 : zz_D zy_convolution_14_67 60 (.i2l) 1 61 := ⟨zq_133 zg_14_67_311.2.2.2.2.2.2.2.1, rfl⟩
theorem zd_14_67_61 : zz_D zy_convolution_14_67 61 (.lconst 1) 1 62 := ⟨zq_10 zg_14_67_311.2.2.2.2.2.2.2.2.1, rfl⟩
theorem zd_14_67_62 : zz_D zy_convolution_14_67 62 (.ldc2_w 416) 3 65 := ⟨zq_20 zg_14_67_311.2.2.2.2.2.2.2.2.2.1 zg_14_67_311.2.2.2.2.2.2.2.2.2.2.1 zg_14_67_311.2.2.2.2.2.2.2.2.2.2.2.1 rfl, rfl⟩
theorem zd_14_67_65 : zz_D zy_convolution_14_67 65 (.invokestatic 192) 3 68 := ⟨zq_184 zg_14_67_311.2.2.2.2.2.2.2.2.2.2.2.2.1 zg_14_67_311.2.2.2.2.2.2.2.2.2.2.2.2.2.1 zg_14_67_311.2.2.2.2.2.2.2.2.2.2.2.2.2.2.1 rfl, rfl⟩
theorem zd_14_67_68 : zz_B zy_convolution_14_67 68 (Instr.ifCond .eq) 152 71 := ⟨84, zq_153 zg_14_67_311.2.2.2.2.2.2.2.2.2.2.2.2.2.2.2.1 zg_14_67_311.2.2.2.2.2.2.2.2.2.2.2.2.2.2.2.2.1 zg_14_67_311.2.2.2.2.2.2.2.2.2.2.2.2.2.2.2.2.2.1 (by decide), rfl, rfl⟩
theorem zd_14_67_71 : zz_D zy_convolution_14_67 71 (.iload 8) 2 73 := ⟨zq_21 zg_14_67_311.2.2.2.2.2.2.2.2.2.2.2.2.2.2.2.2.2.2.1 zg_14_67_311.2.2.2.2.2.2.2.2.2.2.2.2.2.2.2.2.2.2.2.1, rfl⟩
theorem zd_14_67_73 : zz_D zy_convolution_14_67 73 (.i2l) 1 74 := ⟨zq_133 zg_14_67_311.2.2.2.2.2.2.2.2.2.2.2.2.2.2.2.2.2.2.2.2.1, rfl⟩
theorem zd_14_67_74 : zz_D zy_convolution_14_67 74 (.lconst 1) 1 75 := ⟨zq_10 zg_14_67_311.2.2.2.2.2.2.2.2.2.2.2.2.2.2.2.2.2.2.2.2.2, rfl⟩
theorem zg_14_67_75 : zq_at zy_convolution_14_67.2.1 75 20 ∧ zq_at zy_convolution_14_67.2.1 76 1 ∧ zq_at zy_convolution_14_67.2.1 77 160 ∧ zq_at zy_convolution_14_67.2.1 78 184 ∧ zq_at zy_convolution_14_67.2.1 79 0 ∧ zq_at zy_convolution_14_67.2.1 80 192 ∧ zq_at zy_convolution_14_67.2.1 81 153 ∧ zq_at zy_convolution_14_67.2.1 82 0 ∧ zq_at zy_convolution_14_67.2.1 83 71 ∧ zq_at zy_convolution_14_67.2.1 84 29 ∧ zq_at zy_convolution_14_67.2.1 85 133 ∧ zq_at zy_convolution_14_67.2.1 86 10 ∧ zq_at zy_convolution_14_67.2.1 87 20 ∧ zq_at zy_convolution_14_67.2.1 88 1 ∧ zq_at zy_convolution_14_67.2.1 89 111 ∧ zq_at zy_convolution_14_67.2.1 90 184 ∧ zq_at zy_convolution_14_67.2.1 91 0 ∧ zq_at zy_convolution_14_67.2.1 92 192 ∧ zq_at zy_convolution_14_67.2.1 93 153 ∧ zq_at zy_convolution_14_67.2.1 94 0 ∧ zq_at zy_convolution_14_67.2.1 95 59 ∧ zq_at zy_convolution_14_67.2.1 96 21 ∧ zq_at zy_convolution_14_67.2.1 97 4 ∧ zq_at zy_convolution_14_67.2.1 98 133 := by decide +kernel
theorem zd_14_67_75 : zz_D zy_convolution_14_67 75 (.ldc2_w 416) 3 78 := ⟨zq_20 zg_14_67_75.1 zg_14_67_75.2.1 zg_14_67_75.2.2.1 rfl, rfl⟩
theorem zd_14_67_78 : zz_D zy_convolution_14_67 78 (.invokestatic 192) 3 81 := ⟨zq_184 zg_14_67_75.2.2.2.1 zg_14_67_75.2.2.2.2.1 zg_14_67_75.2.2.2.2.2.1 rfl, rfl⟩
theorem zd_14_67_81 : zz_B zy_convolution_14_67 81 (Instr.ifCond .eq) 152 84 := ⟨71, zq_153 zg_14_67_75.2.2.2.2.2.2.1 zg_14_67_75.2.2.2.2.2.2.2.1 zg_14_67_75.2.2.2.2.2.2.2.2.1 (by decide), rfl, rfl⟩
theorem zd_14_67_84 : zz_D zy_convolution_14_67 84 (.iload_n 3) 1 85 := ⟨zq_29 zg_14_67_75.2.2.2.2.2.2.2.2.2.1, rfl⟩
theorem zd_14_67_85 : zz_D zy_convolution_14_67 85 (.i2l) 1 86 := ⟨zq_133 zg_14_67_75.2.2.2.2.2.2.2.2.2.2.1, rfl⟩
theorem zd_14_67_86 : zz_D zy_convolution_14_67 86 (.lconst 1) 1 87 := ⟨zq_10 zg_14_67_75.2.2.2.2.2.2.2.2.2.2.2.1, rfl⟩
theorem zd_14_67_87 : zz_D zy_convolution_14_67 87 (.ldc2_w 367) 3 90 := ⟨zq_20 zg_14_67_75.2.2.2.2.2.2.2.2.2.2.2.2.1 zg_14_67_75.2.2.2.2.2.2.2.2.2.2.2.2.2.1 zg_14_67_75.2.2.2.2.2.2.2.2.2.2.2.2.2.2.1 rfl, rfl⟩
theorem zd_14_67_90 : zz_D zy_convolution_14_67 90 (.invokestatic 192) 3 93 := ⟨zq_184 zg_14_67_75.2.2.2.2.2.2.2.2.2.2.2.2.2.2.2.1 zg_14_67_75.2.2.2.2.2.2.2.2.2.2.2.2.2.2.2.2.1 zg_14_67_75.2.2.2.2.2.2.2.2.2.2.2.2.2.2.2.2.2.1 rfl, rfl⟩
theorem zd_14_67_93 : zz_B zy_convolution_14_67 93 (Instr.ifCond .eq) 152 96 := ⟨59, zq_153 zg_14_67_75.2.2.2.2.2.2.2.2.2.2.2.2.2.2.2.2.2.2.1 zg_14_67_75.2.2.2.2.2.2.2.2.2.2.2.2.2.2.2.2.2.2.2.1 zg_14_67_75.2.2.2.2.2.2.2.2.2.2.2.2.2.2.2.2.2.2.2.2.1 (by decide), rfl, rfl⟩
theorem zd_14_67_96 : zz_D zy_convolution_14_67 96 (.iload 4) 2 98 := ⟨zq_21 zg_14_67_75.2.2.2.2.2.2.2.2.2.2.2.2.2.2.2.2.2.2.2.2.2.1 zg_14_67_75.2.2.2.2.2.2.2.2.2.2.2.2.2.2.2.2.2.2.2.2.2.2.1, rfl⟩
theorem zd_14_67_98 : zz_D zy_convolution_14_67 98 (.i2l) 1 99 := ⟨zq_133 zg_14_67_75.2.2.2.2.2.2.2.2.2.2.2.2.2.2.2.2.2.2.2.2.2.2.2, rfl⟩
theorem zg_14_67_99 : zq_at zy_convolution_14_67.2.1 99 20 ∧ zq_at zy_convolution_14_67.2.1 100 1 ∧ zq_at zy_convolution_14_67.2.1 101 151 ∧ zq_at zy_convolution_14_67.2.1 102 20 ∧ zq_at zy_convolution_14_67.2.1 103 1 ∧ zq_at zy_convolution_14_67.2.1 104 162 ∧ zq_at zy_convolution_14_67.2.1 105 184 ∧ zq_at zy_convolution_14_67.2.1 106 0 ∧ zq_at zy_convolution_14_67.2.1 107 192 ∧ zq_at zy_convolution_14_67.2.1 108 153 ∧ zq_at zy_convolution_14_67.2.1 109 0 ∧ zq_at zy_convolution_14_67.2.1 110 44 ∧ zq_at zy_convolution_14_67.2.1 111 21 ∧ zq_at zy_convolution_14_67.2.1 112 9 ∧ zq_at zy_convolution_14_67.2.1 113 133 ∧ zq_at zy_convolution_14_67.2.1 114 10 ∧ zq_at zy_convolution_14_67.2.1 115 20 ∧ zq_at zy_convolution_14_67.2.1 116 0 ∧ zq_at zy_convolution_14_67.2.1 117 169 ∧ zq_at zy_convolution_14_67.2.1 118 184 ∧ zq_at zy_convolution_14_67.2.1 119 0 ∧ zq_at zy_convolution_14_67.2.1 120 192 := by decide +kernel
theorem zd_14_67_99 : zz_D zy_convolution_14_67 99 (.ldc2_w 407) 3 102 := ⟨zq_20 zg_14_67_99.1 zg_14_67_99.2.1 zg_14_67_99.2.2.1 rfl, rfl⟩
theorem zd_14_67_102 : zz_D zy_convolution_14_67 102 (.ldc2_w 418) 3 105 := ⟨zq_20 zg_14_67_99.2.2.2.1 zg_14_67_99.2.2.2.2.1 zg_14_67_99.2.2.2.2.2.1 rfl, rfl⟩
theorem zd_14_67_105 : zz_D zy_convolution_14_67 105 (.invokestatic 192) 3 108 := ⟨zq_184 zg_14_67_99.2.2.2.2.2.2.1 zg_14_67_99.2.2.2.2.2.2.2.1 zg_14_67_99.2.2.2.2.2.2.2.2.1 rfl, rfl⟩
theorem zd_14_67_108 : zz_B zy_convolution_14_67 108 (Instr.ifCond .eq) 152 111 := ⟨44, zq_153 zg_14_67_99.2.2.2.2.2.2.2.2.2.1 zg_14_67_99.2.2.2.2.2.2.2.2.2.2.1 zg_14_67_99.2.2.2.2.2.2.2.2.2.2.2.1 (by decide), rfl, rfl⟩
theorem zd_14_67_111 : zz_D zy_convolution_14_67 111 (.iload 9) 2 113 := ⟨zq_21 zg_14_67_99.2.2.2.2.2.2.2.2.2.2.2.2.1 zg_14_67_99.2.2.2.2.2.2.2.2.2.2.2.2.2.1, rfl⟩
theorem zd_14_67_113 : zz_D zy_convolution_14_67 113 (.i2l) 1 114 := ⟨zq_133 zg_14_67_99.2.2.2.2.2.2.2.2.2.2.2.2.2.2.1, rfl⟩
theorem zd_14_67_114 : zz_D zy_convolution_14_67 114 (.lconst 1) 1 115 := ⟨zq_10 zg_14_67_99.2.2.2.2.2.2.2.2.2.2.2.2.2.2.2.1, rfl⟩
theorem zd_14_67_115 : zz_D zy_convolution_14_67 115 (.ldc2_w 169) 3 118 := ⟨zq_20 zg_14_67_99.2.2.2.2.2.2.2.2.2.2.2.2.2.2.2.2.1 zg_14_67_99.2.2.2.2.2.2.2.2.2.2.2.2.2.2.2.2.2.1 zg_14_67_99.2.2.2.2.2.2.2.2.2.2.2.2.2.2.2.2.2.2.1 rfl, rfl⟩
theorem zd_14_67_118 : zz_D zy_convolution_14_67 118 (.invokestatic 192) 3 121 := ⟨zq_184 zg_14_67_99.2.2.2.2.2.2.2.2.2.2.2.2.2.2.2.2.2.2.2.1 zg_14_67_99.2.2.2.2.2.2.2.2.2.2.2.2.2.2.2.2.2.2.2.2.1 zg_14_67_99.2.2.2.2.2.2.2.2.2.2.2.2.2.2.2.2.2.2.2.2.2 rfl, rfl⟩
theorem zg_14_67_121 : zq_at zy_convolution_14_67.2.1 121 153 ∧ zq_at zy_convolution_14_67.2.1 122 0 ∧ zq_at zy_convolution_14_67.2.1 123 31 ∧ zq_at zy_convolution_14_67.2.1 124 21 ∧ zq_at zy_convolution_14_67.2.1 125 10 ∧ zq_at zy_convolution_14_67.2.1 126 133 ∧ zq_at zy_convolution_14_67.2.1 127 9 ∧ zq_at zy_convolution_14_67.2.1 128 10 ∧ zq_at zy_convolution_14_67.2.1 129 184 ∧ zq_at zy_convolution_14_67.2.1 130 0 ∧ zq_at zy_convolution_14_67.2.1 131 192 ∧ zq_at zy_convolution_14_67.2.1 132 153 ∧ zq_at zy_convolution_14_67.2.1 133 0 ∧ zq_at zy_convolution_14_67.2.1 134 20 ∧ zq_at zy_convolution_14_67.2.1 135 21 ∧ zq_at zy_convolution_14_67.2.1 136 5 ∧ zq_at zy_convolution_14_67.2.1 137 133 ∧ zq_at zy_convolution_14_67.2.1 138 9 ∧ zq_at zy_convolution_14_67.2.1 139 20 ∧ zq_at zy_convolution_14_67.2.1 140 1 ∧ zq_at zy_convolution_14_67.2.1 141 101 ∧ zq_at zy_convolution_14_67.2.1 142 184 ∧ zq_at zy_convolution_14_67.2.1 143 0 ∧ zq_at zy_convolution_14_67.2.1 144 192 := by decide +kernel
theorem zd_14_67_121 : zz_B zy_convolution_14_67 121 (Instr.ifCond .eq) 152 124 := ⟨31, zq_153 zg_14_67_121.1 zg_14_67_121.2.1 zg_14_67_121.2.2.1 (by decide), rfl, rfl⟩
theorem zd_14_67_124 : zz_D zy_convolution_14_67 124 (.iload 10) 2 126 := ⟨zq_21 zg_14_67_121.2.2.2.1 zg_14_67_121.2.2.2.2.1, rfl⟩
theorem zd_14_67_126 : zz_D zy_convolution_14_67 126 (.i2l) 1 127 := ⟨zq_133 zg_14_67_121.2.2.2.2.2.1, rfl⟩
theorem zd_14_67_127 : zz_D zy_convolution_14_67 127 (.lconst 0) 1 128 := ⟨zq_9 zg_14_67_121.2.2.2.2.2.2.1, rfl⟩
theorem zd_14_67_128 : zz_D zy_convolution_14_67 128 (.lconst 1) 1 129 := ⟨zq_10 zg_14_67_121.2.2.2.2.2.2.2.1, rfl⟩
theorem zd_14_67_129 : zz_D zy_convolution_14_67 129 (.invokestatic 192) 3 132 := ⟨zq_184 zg_14_67_121.2.2.2.2.2.2.2.2.1 zg_14_67_121.2.2.2.2.2.2.2.2.2.1 zg_14_67_121.2.2.2.2.2.2.2.2.2.2.1 rfl, rfl⟩
theorem zd_14_67_132 : zz_B zy_convolution_14_67 132 (Instr.ifCond .eq) 152 135 := ⟨20, zq_153 zg_14_67_121.2.2.2.2.2.2.2.2.2.2.2.1 zg_14_67_121.2.2.2.2.2.2.2.2.2.2.2.2.1 zg_14_67_121.2.2.2.2.2.2.2.2.2.2.2.2.2.1 (by decide), rfl, rfl⟩
theorem zd_14_67_135 : zz_D zy_convolution_14_67 135 (.iload 5) 2 137 := ⟨zq_21 zg_14_67_121.2.2.2.2.2.2.2.2.2.2.2.2.2.2.1 zg_14_67_121.2.2.2.2.2.2.2.2.2.2.2.2.2.2.2.1, rfl⟩
theorem zd_14_67_137 : zz_D zy_convolution_14_67 137 (.i2l) 1 138 := ⟨zq_133 zg_14_67_121.2.2.2.2.2.2.2.2.2.2.2.2.2.2.2.2.1, rfl⟩
theorem zd_14_67_138 : zz_D zy_convolution_14_67 138 (.lconst 0) 1 139 := ⟨zq_9 zg_14_67_121.2.2.2.2.2.2.2.2.2.2.2.2.2.2.2.2.2.1, rfl⟩
theorem zd_14_67_139 : zz_D zy_convolution_14_67 139 (.ldc2_w 357) 3 142 := ⟨zq_20 zg_14_67_121.2.2.2.2.2.2.2.2.2.2.2.2.2.2.2.2.2.2.1 zg_14_67_121.2.2.2.2.2.2.2.2.2.2.2.2.2.2.2.2.2.2.2.1 zg_14_67_121.2.2.2.2.2.2.2.2.2.2.2.2.2.2.2.2.2.2.2.2.1 rfl, rfl⟩
theorem zd_14_67_142 : zz_D zy_convolution_14_67 142 (.invokestatic 192) 3 145 := ⟨zq_184 zg_14_67_121.2.2.2.2.2.2.2.2.2.2.2.2.2.2.2.2.2.2.2.2.2.1 zg_14_67_121.2.2.2.2.2.2.2.2.2.2.2.2.2.2.2.2.2.2.2.2.2.2.1 zg_14_67_121.2.2.2.2.2.2.2.2.2.2.2.2.2.2.2.2.2.2.2.2.2.2.2 rfl, rfl⟩
theorem zg_14_67_145 : zq_at zy_convolution_14_67.2.1 145 153 ∧ zq_at zy_convolution_14_67.2.1 146 0 ∧ zq_at zy_convolution_14_67.2.1 147 7 ∧ zq_at zy_convolution_14_67.2.1 148 4 ∧ zq_at zy_convolution_14_67.2.1 149 167 ∧ zq_at zy_convolution_14_67.2.1 150 0 ∧ zq_at zy_convolution_14_67.2.1 151 4 ∧ zq_at zy_convolution_14_67.2.1 160 42 ∧ zq_at zy_convolution_14_67.2.1 161 180 ∧ zq_at zy_convolution_14_67.2.1 162 0 ∧ zq_at zy_convolution_14_67.2.1 163 88 ∧ zq_at zy_convolution_14_67.2.1 164 27 ∧ zq_at zy_convolution_14_67.2.1 165 46 ∧ zq_at zy_convolution_14_67.2.1 166 21 ∧ zq_at zy_convolution_14_67.2.1 167 7 ∧ zq_at zy_convolution_14_67.2.1 168 21 ∧ zq_at zy_convolution_14_67.2.1 169 9 ∧ zq_at zy_convolution_14_67.2.1 170 21 ∧ zq_at zy_convolution_14_67.2.1 171 10 ∧ zq_at zy_convolution_14_67.2.1 172 184 ∧ zq_at zy_convolution_14_67.2.1 173 1 ∧ zq_at zy_convolution_14_67.2.1 174 164 := by decide +kernel
theorem zd_14_67_145 : zz_B zy_convolution_14_67 145 (Instr.ifCond .eq) 152 148 := ⟨7, zq_153 zg_14_67_145.1 zg_14_67_145.2.1 zg_14_67_145.2.2.1 (by decide), rfl, rfl⟩
theorem zd_14_67_148 : zz_D zy_convolution_14_67 148 (.iconst 1) 1 149 := ⟨zq_4 zg_14_67_145.2.2.2.1, rfl⟩
theorem zd_14_67_149 : zz_B zy_convolution_14_67 149 Instr.goto 153 152 := ⟨4, zq_167 zg_14_67_145.2.2.2.2.1 zg_14_67_145.2.2.2.2.2.1 zg_14_67_145.2.2.2.2.2.2.1 (by decide), rfl, rfl⟩
theorem zd_14_67_160 : zz_D zy_convolution_14_67 160 (.aload_n 0) 1 161 := ⟨zq_42 zg_14_67_145.2.2.2.2.2.2.2.1, rfl⟩
theorem zd_14_67_161 : zz_D zy_convolution_14_67 161 (.getfield 88) 3 164 := ⟨zq_180 zg_14_67_145.2.2.2.2.2.2.2.2.1 zg_14_67_145.2.2.2.2.2.2.2.2.2.1 zg_14_67_145.2.2.2.2.2.2.2.2.2.2.1 rfl, rfl⟩
theorem zd_14_67_164 : zz_D zy_convolution_14_67 164 (.iload_n 1) 1 165 := ⟨zq_27 zg_14_67_145.2.2.2.2.2.2.2.2.2.2.2.1, rfl⟩
theorem zd_14_67_165 : zz_D zy_convolution_14_67 165 (.iaload) 1 166 := ⟨zq_46 zg_14_67_145.2.2.2.2.2.2.2.2.2.2.2.2.1, rfl⟩
theorem zd_14_67_166 : zz_D zy_convolution_14_67 166 (.iload 7) 2 168 := ⟨zq_21 zg_14_67_145.2.2.2.2.2.2.2.2.2.2.2.2.2.1 zg_14_67_145.2.2.2.2.2.2.2.2.2.2.2.2.2.2.1, rfl⟩
theorem zd_14_67_168 : zz_D zy_convolution_14_67 168 (.iload 9) 2 170 := ⟨zq_21 zg_14_67_145.2.2.2.2.2.2.2.2.2.2.2.2.2.2.2.1 zg_14_67_145.2.2.2.2.2.2.2.2.2.2.2.2.2.2.2.2.1, rfl⟩
theorem zd_14_67_170 : zz_D zy_convolution_14_67 170 (.iload 10) 2 172 := ⟨zq_21 zg_14_67_145.2.2.2.2.2.2.2.2.2.2.2.2.2.2.2.2.2.1 zg_14_67_145.2.2.2.2.2.2.2.2.2.2.2.2.2.2.2.2.2.2.1, rfl⟩
theorem zd_14_67_172 : zz_D zy_convolution_14_67 172 (.invokestatic 420) 3 175 := ⟨zq_184 zg_14_67_145.2.2.2.2.2.2.2.2.2.2.2.2.2.2.2.2.2.2.2.1 zg_14_67_145.2.2.2.2.2.2.2.2.2.2.2.2.2.2.2.2.2.2.2.2.1 zg_14_67_145.2.2.2.2.2.2.2.2.2.2.2.2.2.2.2.2.2.2.2.2.2 rfl, rfl⟩
theorem zg_14_67_175 : zq_at zy_convolution_14_67.2.1 175 167 ∧ zq_at zy_convolution_14_67.2.1 176 0 ∧ zq_at zy_convolution_14_67.2.1 177 4 ∧ zq_at zy_convolution_14_67.2.1 186 42 ∧ zq_at zy_convolution_14_67.2.1 187 180 ∧ zq_at zy_convolution_14_67.2.1 188 0 ∧ zq_at zy_convolution_14_67.2.1 189 91 ∧ zq_at zy_convolution_14_67.2.1 190 27 ∧ zq_at zy_convolution_14_67.2.1 191 46 ∧ zq_at zy_convolution_14_67.2.1 192 21 ∧ zq_at zy_convolution_14_67.2.1 193 8 ∧ zq_at zy_convolution_14_67.2.1 194 21 ∧ zq_at zy_convolution_14_67.2.1 195 9 ∧ zq_at zy_convolution_14_67.2.1 196 21 ∧ zq_at zy_convolution_14_67.2.1 197 10 ∧ zq_at zy_convolution_14_67.2.1 198 184 ∧ zq_at zy_convolution_14_67.2.1 199 1 ∧ zq_at zy_convolution_14_67.2.1 200 164 ∧ zq_at zy_convolution_14_67.2.1 201 167 ∧ zq_at zy_convolution_14_67.2.1 202 0 ∧ zq_at zy_convolution_14_67.2.1 203 4 ∧ zq_at zy_convolution_14_67.2.1 212 29 ∧ zq_at zy_convolution_14_67.2.1 213 133 ∧ zq_at zy_convolution_14_67.2.1 214 7 := by decide +kernel
theorem zd_14_67_175 : zz_B zy_convolution_14_67 175 Instr.goto 179 178 := ⟨4, zq_167 zg_14_67_175.1 zg_14_67_175.2.1 zg_14_67_175.2.2.1 (by decide), rfl, rfl⟩
theorem zd_14_67_186 : zz_D zy_convolution_14_67 186 (.aload_n 0) 1 187 := ⟨zq_42 zg_14_67_175.2.2.2.1, rfl⟩
theorem zd_14_67_187 : zz_D zy_convolution_14_67 187 (.getfield 91) 3 190 := ⟨zq_180 zg_14_67_175.2.2.2.2.1 zg_14_67_175.2.2.2.2.2.1 zg_14_67_175.2.2.2.2.2.2.1 rfl, rfl⟩
theorem zd_14_67_190 : zz_D zy_convolution_14_67 190 (.iload_n 1) 1 191 := ⟨zq_27 zg_14_67_175.2.2.2.2.2.2.2.1, rfl⟩
theorem zd_14_67_191 : zz_D zy_convolution_14_67 191 (.iaload) 1 192 := ⟨zq_46 zg_14_67_175.2.2.2.2.2.2.2.2.1, rfl⟩
theorem zd_14_67_192 : zz_D zy_convolution_14_67 192 (.iload 8) 2 194 := ⟨zq_21 zg_14_67_175.2.2.2.2.2.2.2.2.2.1 zg_14_67_175.2.2.2.2.2.2.2.2.2.2.1, rfl⟩
theorem zd_14_67_194 : zz_D zy_convolution_14_67 194 (.iload 9) 2 196 := ⟨zq_21 zg_14_67_175.2.2.2.2.2.2.2.2.2.2.2.1 zg_14_67_175.2.2.2.2.2.2.2.2.2.2.2.2.1, rfl⟩
theorem zd_14_67_196 : zz_D zy_convolution_14_67 196 (.iload 10) 2 198 := ⟨zq_21 zg_14_67_175.2.2.2.2.2.2.2.2.2.2.2.2.2.1 zg_14_67_175.2.2.2.2.2.2.2.2.2.2.2.2.2.2.1, rfl⟩
theorem zd_14_67_198 : zz_D zy_convolution_14_67 198 (.invokestatic 420) 3 201 := ⟨zq_184 zg_14_67_175.2.2.2.2.2.2.2.2.2.2.2.2.2.2.2.1 zg_14_67_175.2.2.2.2.2.2.2.2.2.2.2.2.2.2.2.2.1 zg_14_67_175.2.2.2.2.2.2.2.2.2.2.2.2.2.2.2.2.2.1 rfl, rfl⟩
theorem zd_14_67_201 : zz_B zy_convolution_14_67 201 Instr.goto 205 204 := ⟨4, zq_167 zg_14_67_175.2.2.2.2.2.2.2.2.2.2.2.2.2.2.2.2.2.2.1 zg_14_67_175.2.2.2.2.2.2.2.2.2.2.2.2.2.2.2.2.2.2.2.1 zg_14_67_175.2.2.2.2.2.2.2.2.2.2.2.2.2.2.2.2.2.2.2.2.1 (by decide), rfl, rfl⟩
theorem zd_14_67_212 : zz_D zy_convolution_14_67 212 (.iload_n 3) 1 213 := ⟨zq_29 zg_14_67_175.2.2.2.2.2.2.2.2.2.2.2.2.2.2.2.2.2.2.2.2.2.1, rfl⟩
theorem zd_14_67_213 : zz_D zy_convolution_14_67 213 (.i2l) 1 214 := ⟨zq_133 zg_14_67_175.2.2.2.2.2.2.2.2.2.2.2.2.2.2.2.2.2.2.2.2.2.2.1, rfl⟩
theorem zd_14_67_214 : zz_D zy_convolution_14_67 214 (.iconst 4) 1 215 := ⟨zq_7 zg_14_67_175.2.2.2.2.2.2.2.2.2.2.2.2.2.2.2.2.2.2.2.2.2.2.2, rfl⟩
theorem zg_14_67_215 : zq_at zy_convolution_14_67.2.1 215 21 ∧ zq_at zy_convolution_14_67.2.1 216 7 ∧ zq_at zy_convolution_14_67.2.1 217 21 ∧ zq_at zy_convolution_14_67.2.1 218 8 ∧ zq_at zy_convolution_14_67.2.1 219 104 ∧ zq_at zy_convolution_14_67.2.1 220 42 ∧ zq_at zy_convolution_14_67.2.1 221 180 ∧ zq_at zy_convolution_14_67.2.1 222 0 ∧ zq_at zy_convolution_14_67.2.1 223 94 ∧ zq_at zy_convolution_14_67.2.1 224 27 ∧ zq_at zy_convolution_14_67.2.1 225 46 ∧ zq_at zy_convolution_14_67.2.1 226 104 ∧ zq_at zy_convolution_14_67.2.1 227 96 ∧ zq_at zy_convolution_14_67.2.1 228 133 ∧ zq_at zy_convolution_14_67.2.1 229 105 ∧ zq_at zy_convolution_14_67.2.1 230 167 ∧ zq_at zy_convolution_14_67.2.1 231 0 ∧ zq_at zy_convolution_14_67.2.1 232 4 ∧ zq_at zy_convolution_14_67.2.1 249 21 ∧ zq_at zy_convolution_14_67.2.1 250 13 ∧ zq_at zy_convolution_14_67.2.1 251 133 ∧ zq_at zy_convolution_14_67.2.1 252 10 := by decide +kernel
theorem zd_14_67_215 : zz_D zy_convolution_14_67 215 (.iload 7) 2 217 := ⟨zq_21 zg_14_67_215.1 zg_14_67_215.2.1, rfl⟩
theorem zd_14_67_217 : zz_D zy_convolution_14_67 217 (.iload 8) 2 219 := ⟨zq_21 zg_14_67_215.2.2.1 zg_14_67_215.2.2.2.1, rfl⟩
theorem zd_14_67_219 : zz_D zy_convolution_14_67 219 (.imul) 1 220 := ⟨zq_104 zg_14_67_215.2.2.2.2.1, rfl⟩
theorem zd_14_67_220 : zz_D zy_convolution_14_67 220 (.aload_n 0) 1 221 := ⟨zq_42 zg_14_67_215.2.2.2.2.2.1, rfl⟩
theorem zd_14_67_221 : zz_D zy_convolution_14_67 221 (.getfield 94) 3 224 := ⟨zq_180 zg_14_67_215.2.2.2.2.2.2.1 zg_14_67_215.2.2.2.2.2.2.2.1 zg_14_67_215.2.2.2.2.2.2.2.2.1 rfl, rfl⟩
theorem zd_14_67_224 : zz_D zy_convolution_14_67 224 (.iload_n 1) 1 225 := ⟨zq_27 zg_14_67_215.2.2.2.2.2.2.2.2.2.1, rfl⟩
theorem zd_14_67_225 : zz_D zy_convolution_14_67 225 (.iaload) 1 226 := ⟨zq_46 zg_14_67_215.2.2.2.2.2.2.2.2.2.2.1, rfl⟩
theorem zd_14_67_226 : zz_D zy_convolution_14_67 226 (.imul) 1 227 := ⟨zq_104 zg_14_67_215.2.2.2.2.2.2.2.2.2.2.2.1, rfl⟩
theorem zd_14_67_227 : zz_D zy_convolution_14_67 227 (.iadd) 1 228 := ⟨zq_96 zg_14_67_215.2.2.2.2.2.2.2.2.2.2.2.2.1, rfl⟩
theorem zd_14_67_228 : zz_D zy_convolution_14_67 228 (.i2l) 1 229 := ⟨zq_133 zg_14_67_215.2.2.2.2.2.2.2.2.2.2.2.2.2.1, rfl⟩
theorem zd_14_67_229 : zz_D zy_convolution_14_67 229 (.lmul) 1 230 := ⟨zq_105 zg_14_67_215.2.2.2.2.2.2.2.2.2.2.2.2.2.2.1, rfl⟩
theorem zd_14_67_230 : zz_B zy_convolution_14_67 230 Instr.goto 234 233 := ⟨4, zq_167 zg_14_67_215.2.2.2.2.2.2.2.2.2.2.2.2.2.2.2.1 zg_14_67_215.2.2.2.2.2.2.2.2.2.2.2.2.2.2.2.2.1 zg_14_67_215.2.2.2.2.2.2.2.2.2.2.2.2.2.2.2.2.2.1 (by decide), rfl, rfl⟩
theorem zd_14_67_249 : zz_D zy_convolution_14_67 249 (.iload 13) 2 251 := ⟨zq_21 zg_14_67_215.2.2.2.2.2.2.2.2.2.2.2.2.2.2.2.2.2.2.1 zg_14_67_215.2.2.2.2.2.2.2.2.2.2.2.2.2.2.2.2.2.2.2.1, rfl⟩
theorem zd_14_67_251 : zz_D zy_convolution_14_67 251 (.i2l) 1 252 := ⟨zq_133 zg_14_67_215.2.2.2.2.2.2.2.2.2.2.2.2.2.2.2.2.2.2.2.2.1, rfl⟩
theorem zd_14_67_252 : zz_D zy_convolution_14_67 252 (.lconst 1) 1 253 := ⟨zq_10 zg_14_67_215.2.2.2.2.2.2.2.2.2.2.2.2.2.2.2.2.2.2.2.2.2, rfl⟩
theorem zg_14_67_253 : zq_at zy_convolution_14_67.2.1 253 20 ∧ zq_at zy_convolution_14_67.2.1 254 1 ∧ zq_at zy_convolution_14_67.2.1 255 143 ∧ zq_at zy_convolution_14_67.2.1 256 184 ∧ zq_at zy_convolution_14_67.2.1 257 0 ∧ zq_at zy_convolution_14_67.2.1 258 192 ∧ zq_at zy_convolution_14_67.2.1 259 153 ∧ zq_at zy_convolution_14_67.2.1 260 0 ∧ zq_at zy_convolution_14_67.2.1 261 33 ∧ zq_at zy_convolution_14_67.2.1 262 21 ∧ zq_at zy_convolution_14_67.2.1 263 6 ∧ zq_at zy_convolution_14_67.2.1 264 133 ∧ zq_at zy_convolution_14_67.2.1 265 9 ∧ zq_at zy_convolution_14_67.2.1 266 20 ∧ zq_at zy_convolution_14_67.2.1 267 1 ∧ zq_at zy_convolution_14_67.2.1 268 168 ∧ zq_at zy_convolution_14_67.2.1 269 184 ∧ zq_at zy_convolution_14_67.2.1 270 0 ∧ zq_at zy_convolution_14_67.2.1 271 192 ∧ zq_at zy_convolution_14_67.2.1 272 153 ∧ zq_at zy_convolution_14_67.2.1 273 0 ∧ zq_at zy_convolution_14_67.2.1 274 20 ∧ zq_at zy_convolution_14_67.2.1 275 21 ∧ zq_at zy_convolution_14_67.2.1 276 6 := by decide +kernel
theorem zd_14_67_253 : zz_D zy_convolution_14_67 253 (.ldc2_w 399) 3 256 := ⟨zq_20 zg_14_67_253.1 zg_14_67_253.2.1 zg_14_67_253.2.2.1 rfl, rfl⟩
theorem zd_14_67_256 : zz_D zy_convolution_14_67 256 (.invokestatic 192) 3 259 := ⟨zq_184 zg_14_67_253.2.2.2.1 zg_14_67_253.2.2.2.2.1 zg_14_67_253.2.2.2.2.2.1 rfl, rfl⟩
theorem zd_14_67_259 : zz_B zy_convolution_14_67 259 (Instr.ifCond .eq) 292 262 := ⟨33, zq_153 zg_14_67_253.2.2.2.2.2.2.1 zg_14_67_253.2.2.2.2.2.2.2.1 zg_14_67_253.2.2.2.2.2.2.2.2.1 (by decide), rfl, rfl⟩
theorem zd_14_67_262 : zz_D zy_convolution_14_67 262 (.iload 6) 2 264 := ⟨zq_21 zg_14_67_253.2.2.2.2.2.2.2.2.2.1 zg_14_67_253.2.2.2.2.2.2.2.2.2.2.1, rfl⟩
theorem zd_14_67_264 : zz_D zy_convolution_14_67 264 (.i2l) 1 265 := ⟨zq_133 zg_14_67_253.2.2.2.2.2.2.2.2.2.2.2.1, rfl⟩
theorem zd_14_67_265 : zz_D zy_convolution_14_67 265 (.lconst 0) 1 266 := ⟨zq_9 zg_14_67_253.2.2.2.2.2.2.2.2.2.2.2.2.1, rfl⟩
theorem zd_14_67_266 : zz_D zy_convolution_14_67 266 (.ldc2_w 424) 3 269 := ⟨zq_20 zg_14_67_253.2.2.2.2.2.2.2.2.2.2.2.2.2.1 zg_14_67_253.2.2.2.2.2.2.2.2.2.2.2.2.2.2.1 zg_14_67_253.2.2.2.2.2.2.2.2.2.2.2.2.2.2.2.1 rfl, rfl⟩
theorem zd_14_67_269 : zz_D zy_convolution_14_67 269 (.invokestatic 192) 3 272 := ⟨zq_184 zg_14_67_253.2.2.2.2.2.2.2.2.2.2.2.2.2.2.2.2.1 zg_14_67_253.2.2.2.2.2.2.2.2.2.2.2.2.2.2.2.2.2.1 zg_14_67_253.2.2.2.2.2.2.2.2.2.2.2.2.2.2.2.2.2.2.1 rfl, rfl⟩
theorem zd_14_67_272 : zz_B zy_convolution_14_67 272 (Instr.ifCond .eq) 292 275 := ⟨20, zq_153 zg_14_67_253.2.2.2.2.2.2.2.2.2.2.2.2.2.2.2.2.2.2.2.1 zg_14_67_253.2.2.2.2.2.2.2.2.2.2.2.2.2.2.2.2.2.2.2.2.1 zg_14_67_253.2.2.2.2.2.2.2.2.2.2.2.2.2.2.2.2.2.2.2.2.2.1 (by decide), rfl, rfl⟩
theorem zd_14_67_275 : zz_D zy_convolution_14_67 275 (.iload 6) 2 277 := ⟨zq_21 zg_14_67_253.2.2.2.2.2.2.2.2.2.2.2.2.2.2.2.2.2.2.2.2.2.2.1 zg_14_67_253.2.2.2.2.2.2.2.2.2.2.2.2.2.2.2.2.2.2.2.2.2.2.2, rfl⟩
theorem zg_14_67_277 : zq_at zy_convolution_14_67.2.1 277 133 ∧ zq_at zy_convolution_14_67.2.1 278 22 ∧ zq_at zy_convolution_14_67.2.1 279 14 ∧ zq_at zy_convolution_14_67.2.1 280 97 ∧ zq_at zy_convolution_14_67.2.1 281 20 ∧ zq_at zy_convolution_14_67.2.1 282 1 ∧ zq_at zy_convolution_14_67.2.1 283 168 ∧ zq_at zy_convolution_14_67.2.1 284 148 ∧ zq_at zy_convolution_14_67.2.1 285 157 ∧ zq_at zy_convolution_14_67.2.1 286 0 ∧ zq_at zy_convolution_14_67.2.1 287 7 ∧ zq_at zy_convolution_14_67.2.1 288 4 ∧ zq_at zy_convolution_14_67.2.1 289 167 ∧ zq_at zy_convolution_14_67.2.1 290 0 ∧ zq_at zy_convolution_14_67.2.1 291 4 ∧ zq_at zy_convolution_14_67.2.1 306 3 ∧ zq_at zy_convolution_14_67.2.1 316 42 ∧ zq_at zy_convolution_14_67.2.1 317 180 ∧ zq_at zy_convolution_14_67.2.1 318 0 ∧ zq_at zy_convolution_14_67.2.1 319 85 ∧ zq_at zy_convolution_14_67.2.1 320 4 ∧ zq_at zy_convolution_14_67.2.1 321 100 ∧ zq_at zy_convolution_14_67.2.1 322 54 ∧ zq_at zy_convolution_14_67.2.1 323 17 := by decide +kernel
theorem zd_14_67_277 : zz_D zy_convolution_14_67 277 (.i2l) 1 278 := ⟨zq_133 zg_14_67_277.1, rfl⟩
theorem zd_14_67_278 : zz_D zy_convolution_14_67 278 (.lload 14) 2 280 := ⟨zq_22 zg_14_67_277.2.1 zg_14_67_277.2.2.1, rfl⟩
theorem zd_14_67_280 : zz_D zy_convolution_14_67 280 (.ladd) 1 281 := ⟨zq_97 zg_14_67_277.2.2.2.1, rfl⟩
theorem zd_14_67_281 : zz_D zy_convolution_14_67 281 (.ldc2_w 424) 3 284 := ⟨zq_20 zg_14_67_277.2.2.2.2.1 zg_14_67_277.2.2.2.2.2.1 zg_14_67_277.2.2.2.2.2.2.1 rfl, rfl⟩
theorem zd_14_67_284 : zz_D zy_convolution_14_67 284 (.lcmp) 1 285 := ⟨zq_148 zg_14_67_277.2.2.2.2.2.2.2.1, rfl⟩
theorem zd_14_67_285 : zz_B zy_convolution_14_67 285 (Instr.ifCond .gt) 292 288 := ⟨7, zq_157 zg_14_67_277.2.2.2.2.2.2.2.2.1 zg_14_67_277.2.2.2.2.2.2.2.2.2.1 zg_14_67_277.2.2.2.2.2.2.2.2.2.2.1 (by decide), rfl, rfl⟩
theorem zd_14_67_288 : zz_D zy_convolution_14_67 288 (.iconst 1) 1 289 := ⟨zq_4 zg_14_67_277.2.2.2.2.2.2.2.2.2.2.2.1, rfl⟩
theorem zd_14_67_289 : zz_B zy_convolution_14_67 289 Instr.goto 293 292 := ⟨4, zq_167 zg_14_67_277.2.2.2.2.2.2.2.2.2.2.2.2.1 zg_14_67_277.2.2.2.2.2.2.2.2.2.2.2.2.2.1 zg_14_67_277.2.2.2.2.2.2.2.2.2.2.2.2.2.2.1 (by decide), rfl, rfl⟩
theorem zd_14_67_306 : zz_D zy_convolution_14_67 306 (.iconst 0) 1 307 := ⟨zq_3 zg_14_67_277.2.2.2.2.2.2.2.2.2.2.2.2.2.2.2.1, rfl⟩
theorem zd_14_67_316 : zz_D zy_convolution_14_67 316 (.aload_n 0) 1 317 := ⟨zq_42 zg_14_67_277.2.2.2.2.2.2.2.2.2.2.2.2.2.2.2.2.1, rfl⟩
theorem zd_14_67_317 : zz_D zy_convolution_14_67 317 (.getfield 85) 3 320 := ⟨zq_180 zg_14_67_277.2.2.2.2.2.2.2.2.2.2.2.2.2.2.2.2.2.1 zg_14_67_277.2.2.2.2.2.2.2.2.2.2.2.2.2.2.2.2.2.2.1 zg_14_67_277.2.2.2.2.2.2.2.2.2.2.2.2.2.2.2.2.2.2.2.1 rfl, rfl⟩
theorem zd_14_67_320 : zz_D zy_convolution_14_67 320 (.iconst 1) 1 321 := ⟨zq_4 zg_14_67_277.2.2.2.2.2.2.2.2.2.2.2.2.2.2.2.2.2.2.2.2.1, rfl⟩
theorem zd_14_67_321 : zz_D zy_convolution_14_67 321 (.isub) 1 322 := ⟨zq_100 zg_14_67_277.2.2.2.2.2.2.2.2.2.2.2.2.2.2.2.2.2.2.2.2.2.1, rfl⟩
theorem zd_14_67_322 : zz_D zy_convolution_14_67 322 (.istore 17) 2 324 := ⟨zq_54 zg_14_67_277.2.2.2.2.2.2.2.2.2.2.2.2.2.2.2.2.2.2.2.2.2.2.1 zg_14_67_277.2.2.2.2.2.2.2.2.2.2.2.2.2.2.2.2.2.2.2.2.2.2.2, rfl⟩
theorem zg_14_67_324 : zq_at zy_convolution_14_67.2.1 324 42 ∧ zq_at zy_convolution_14_67.2.1 325 3 ∧ zq_at zy_convolution_14_67.2.1 326 27 ∧ zq_at zy_convolution_14_67.2.1 327 21 ∧ zq_at zy_convolution_14_67.2.1 328 12 ∧ zq_at zy_convolution_14_67.2.1 329 21 ∧ zq_at zy_convolution_14_67.2.1 330 13 ∧ zq_at zy_convolution_14_67.2.1 331 29 ∧ zq_at zy_convolution_14_67.2.1 332 182 ∧ zq_at zy_convolution_14_67.2.1 333 1 ∧ zq_at zy_convolution_14_67.2.1 334 170 ∧ zq_at zy_convolution_14_67.2.1 335 54 ∧ zq_at zy_convolution_14_67.2.1 336 18 ∧ zq_at zy_convolution_14_67.2.1 337 42 ∧ zq_at zy_convolution_14_67.2.1 338 180 ∧ zq_at zy_convolution_14_67.2.1 339 0 ∧ zq_at zy_convolution_14_67.2.1 340 187 ∧ zq_at zy_convolution_14_67.2.1 341 158 ∧ zq_at zy_convolution_14_67.2.1 342 0 ∧ zq_at zy_convolution_14_67.2.1 343 5 ∧ zq_at zy_convolution_14_67.2.1 346 42 ∧ zq_at zy_convolution_14_67.2.1 347 21 ∧ zq_at zy_convolution_14_67.2.1 348 17 := by decide +kernel
theorem zd_14_67_324 : zz_D zy_convolution_14_67 324 (.aload_n 0) 1 325 := ⟨zq_42 zg_14_67_324.1, rfl⟩
theorem zd_14_67_325 : zz_D zy_convolution_14_67 325 (.iconst 0) 1 326 := ⟨zq_3 zg_14_67_324.2.1, rfl⟩
theorem zd_14_67_326 : zz_D zy_convolution_14_67 326 (.iload_n 1) 1 327 := ⟨zq_27 zg_14_67_324.2.2.1, rfl⟩
theorem zd_14_67_327 : zz_D zy_convolution_14_67 327 (.iload 12) 2 329 := ⟨zq_21 zg_14_67_324.2.2.2.1 zg_14_67_324.2.2.2.2.1, rfl⟩
theorem zd_14_67_329 : zz_D zy_convolution_14_67 329 (.iload 13) 2 331 := ⟨zq_21 zg_14_67_324.2.2.2.2.2.1 zg_14_67_324.2.2.2.2.2.2.1, rfl⟩
theorem zd_14_67_331 : zz_D zy_convolution_14_67 331 (.iload_n 3) 1 332 := ⟨zq_29 zg_14_67_324.2.2.2.2.2.2.2.1, rfl⟩
theorem zd_14_67_332 : zz_D zy_convolution_14_67 332 (.invokevirtual 426) 3 335 := ⟨zq_182 zg_14_67_324.2.2.2.2.2.2.2.2.1 zg_14_67_324.2.2.2.2.2.2.2.2.2.1 zg_14_67_324.2.2.2.2.2.2.2.2.2.2.1 rfl, rfl⟩
theorem zd_14_67_335 : zz_D zy_convolution_14_67 335 (.istore 18) 2 337 := ⟨zq_54 zg_14_67_324.2.2.2.2.2.2.2.2.2.2.2.1 zg_14_67_324.2.2.2.2.2.2.2.2.2.2.2.2.1, rfl⟩
theorem zd_14_67_337 : zz_D zy_convolution_14_67 337 (.aload_n 0) 1 338 := ⟨zq_42 zg_14_67_324.2.2.2.2.2.2.2.2.2.2.2.2.2.1, rfl⟩
theorem zd_14_67_338 : zz_D zy_convolution_14_67 338 (.getfield 187) 3 341 := ⟨zq_180 zg_14_67_324.2.2.2.2.2.2.2.2.2.2.2.2.2.2.1 zg_14_67_324.2.2.2.2.2.2.2.2.2.2.2.2.2.2.2.1 zg_14_67_324.2.2.2.2.2.2.2.2.2.2.2.2.2.2.2.2.1 rfl, rfl⟩
theorem zd_14_67_341 : zz_B zy_convolution_14_67 341 (Instr.ifCond .le) 346 344 := ⟨5, zq_158 zg_14_67_324.2.2.2.2.2.2.2.2.2.2.2.2.2.2.2.2.2.1 zg_14_67_324.2.2.2.2.2.2.2.2.2.2.2.2.2.2.2.2.2.2.1 zg_14_67_324.2.2.2.2.2.2.2.2.2.2.2.2.2.2.2.2.2.2.2.1 (by decide), rfl, rfl⟩
theorem zd_14_67_346 : zz_D zy_convolution_14_67 346 (.aload_n 0) 1 347 := ⟨zq_42 zg_14_67_324.2.2.2.2.2.2.2.2.2.2.2.2.2.2.2.2.2.2.2.2.1, rfl⟩
theorem zd_14_67_347 : zz_D zy_convolution_14_67 347 (.iload 17) 2 349 := ⟨zq_21 zg_14_67_324.2.2.2.2.2.2.2.2.2.2.2.2.2.2.2.2.2.2.2.2.2.1 zg_14_67_324.2.2.2.2.2.2.2.2.2.2.2.2.2.2.2.2.2.2.2.2.2.2, rfl⟩
theorem zg_14_67_349 : zq_at zy_convolution_14_67.2.1 349 21 ∧ zq_at zy_convolution_14_67.2.1 350 7 ∧ zq_at zy_convolution_14_67.2.1 351 21 ∧ zq_at zy_convolution_14_67.2.1 352 8 ∧ zq_at zy_convolution_14_67.2.1 353 21 ∧ zq_at zy_convolution_14_67.2.1 354 9 ∧ zq_at zy_convolution_14_67.2.1 355 21 ∧ zq_at zy_convolution_14_67.2.1 356 10 ∧ zq_at zy_convolution_14_67.2.1 357 21 ∧ zq_at zy_convolution_14_67.2.1 358 5 ∧ zq_at zy_convolution_14_67.2.1 359 182 ∧ zq_at zy_convolution_14_67.2.1 360 1 ∧ zq_at zy_convolution_14_67.2.1 361 174 := by decide +kernel
theorem zd_14_67_349 : zz_D zy_convolution_14_67 349 (.iload 7) 2 351 := ⟨zq_21 zg_14_67_349.1 zg_14_67_349.2.1, rfl⟩
theorem zd_14_67_351 : zz_D zy_convolution_14_67 351 (.iload 8) 2 353 := ⟨zq_21 zg_14_67_349.2.2.1 zg_14_67_349.2.2.2.1, rfl⟩
theorem zd_14_67_353 : zz_D zy_convolution_14_67 353 (.iload 9) 2 355 := ⟨zq_21 zg_14_67_349.2.2.2.2.1 zg_14_67_349.2.2.2.2.2.1, rfl⟩
theorem zd_14_67_355 : zz_D zy_convolution_14_67 355 (.iload 10) 2 357 := ⟨zq_21 zg_14_67_349.2.2.2.2.2.2.1 zg_14_67_349.2.2.2.2.2.2.2.1, rfl⟩
theorem zd_14_67_357 : zz_D zy_convolution_14_67 357 (.iload 5) 2 359 := ⟨zq_21 zg_14_67_349.2.2.2.2.2.2.2.2.1 zg_14_67_349.2.2.2.2.2.2.2.2.2.1, rfl⟩
theorem zd_14_67_359 : zz_D zy_convolution_14_67 359 (.invokevirtual 430) 3 362 := ⟨zq_182 zg_14_67_349.2.2.2.2.2.2.2.2.2.2.1 zg_14_67_349.2.2.2.2.2.2.2.2.2.2.2.1 zg_14_67_349.2.2.2.2.2.2.2.2.2.2.2.2 rfl, rfl⟩
theorem zg_14_68_0 : zq_at zy_setLayer_14_68.2.1 0 42 ∧ zq_at zy_setLayer_14_68.2.1 1 180 ∧ zq_at zy_setLayer_14_68.2.1 2 0 ∧ zq_at zy_setLayer_14_68.2.1 3 109 ∧ zq_at zy_setLayer_14_68.2.1 4 27 ∧ zq_at zy_setLayer_14_68.2.1 5 28 ∧ zq_at zy_setLayer_14_68.2.1 6 79 ∧ zq_at zy_setLayer_14_68.2.1 7 42 ∧ zq_at zy_setLayer_14_68.2.1 8 180 ∧ zq_at zy_setLayer_14_68.2.1 9 0 ∧ zq_at zy_setLayer_14_68.2.1 10 112 ∧ zq_at zy_setLayer_14_68.2.1 11 27 ∧ zq_at zy_setLayer_14_68.2.1 12 29 ∧ zq_at zy_setLayer_14_68.2.1 13 79 ∧ zq_at zy_setLayer_14_68.2.1 14 42 ∧ zq_at zy_setLayer_14_68.2.1 15 180 ∧ zq_at zy_setLayer_14_68.2.1 16 0 ∧ zq_at zy_setLayer_14_68.2.1 17 115 ∧ zq_at zy_setLayer_14_68.2.1 18 27 ∧ zq_at zy_setLayer_14_68.2.1 19 21 ∧ zq_at zy_setLayer_14_68.2.1 20 4 ∧ zq_at zy_setLayer_14_68.2.1 21 79 ∧ zq_at zy_setLayer_14_68.2.1 22 42 := by decide +kernel
theorem zd_14_68_0 : zz_D zy_setLayer_14_68 0 (.aload_n 0) 1 1 := ⟨zq_42 zg_14_68_0.1, rfl⟩
theorem zd_14_68_1 : zz_D zy_setLayer_14_68 1 (.getfield 109) 3 4 := ⟨zq_180 zg_14_68_0.2.1 zg_14_68_0.2.2.1 zg_14_68_0.2.2.2.1 rfl, rfl⟩
theorem zd_14_68_4 : zz_D zy_setLayer_14_68 4 (.iload_n 1) 1 5 := ⟨zq_27 zg_14_68_0.2.2.2.2.1, rfl⟩
theorem zd_14_68_5 : zz_D zy_setLayer_14_68 5 (.iload_n 2) 1 6 := ⟨zq_28 zg_14_68_0.2.2.2.2.2.1, rfl⟩
theorem zd_14_68_6 : zz_D zy_setLayer_14_68 6 (.iastore) 1 7 := ⟨zq_79 zg_14_68_0.2.2.2.2.2.2.1, rfl⟩
theorem zd_14_68_7 : zz_D zy_setLayer_14_68 7 (.aload_n 0) 1 8 := ⟨zq_42 zg_14_68_0.2.2.2.2.2.2.2.1, rfl⟩
theorem zd_14_68_8 : zz_D zy_setLayer_14_68 8 (.getfield 112) 3 11 := ⟨zq_180 zg_14_68_0.2.2.2.2.2.2.2.2.1 zg_14_68_0.2.2.2.2.2.2.2.2.2.1 zg_14_68_0.2.2.2.2.2.2.2.2.2.2.1 rfl, rfl⟩
theorem zd_14_68_11 : zz_D zy_setLayer_14_68 11 (.iload_n 1) 1 12 := ⟨zq_27 zg_14_68_0.2.2.2.2.2.2.2.2.2.2.2.1, rfl⟩
theorem zd_14_68_12 : zz_D zy_setLayer_14_68 12 (.iload_n 3) 1 13 := ⟨zq_29 zg_14_68_0.2.2.2.2.2.2.2.2.2.2.2.2.1, rfl⟩
theorem zd_14_68_13 : zz_D zy_setLayer_14_68 13 (.iastore) 1 14 := ⟨zq_79 zg_14_68_0.2.2.2.2.2.2.2.2.2.2.2.2.2.1, rfl⟩
theorem zd_14_68_14 : zz_D zy_setLayer_14_68 14 (.aload_n 0) 1 15 := ⟨zq_42 zg_14_68_0.2.2.2.2.2.2.2.2.2.2.2.2.2.2.1, rfl⟩
theorem zd_14_68_15 : zz_D zy_setLayer_14_68 15 (.getfield 115) 3 18 := ⟨zq_180 zg_14_68_0.2.2.2.2.2.2.2.2.2.2.2.2.2.2.2.1 zg_14_68_0.2.2.2.2.2.2.2.2.2.2.2.2.2.2.2.2.1 zg_14_68_0.2.2.2.2.2.2.2.2.2.2.2.2.2.2.2.2.2.1 rfl, rfl⟩
theorem zd_14_68_18 : zz_D zy_setLayer_14_68 18 (.iload_n 1) 1 19 := ⟨zq_27 zg_14_68_0.2.2.2.2.2.2.2.2.2.2.2.2.2.2.2.2.2.2.1, rfl⟩
theorem zd_14_68_19 : zz_D zy_setLayer_14_68 19 (.iload 4) 2 21 := ⟨zq_21 zg_14_68_0.2.2.2.2.2.2.2.2.2.2.2.2.2.2.2.2.2.2.2.1 zg_14_68_0.2.2.2.2.2.2.2.2.2.2.2.2.2.2.2.2.2.2.2.2.1, rfl⟩
theorem zd_14_68_21 : zz_D zy_setLayer_14_68 21 (.iastore) 1 22 := ⟨zq_79 zg_14_68_0.2.2.2.2.2.2.2.2.2.2.2.2.2.2.2.2.2.2.2.2.2.1, rfl⟩
theorem zd_14_68_22 : zz_D zy_setLayer_14_68 22 (.aload_n 0) 1 23 := ⟨zq_42 zg_14_68_0.2.2.2.2.2.2.2.2.2.2.2.2.2.2.2.2.2.2.2.2.2.2, rfl⟩
theorem zg_14_68_23 : zq_at zy_setLayer_14_68.2.1 23 180 ∧ zq_at zy_setLayer_14_68.2.1 24 0 ∧ zq_at zy_setLayer_14_68.2.1 25 118 ∧ zq_at zy_setLayer_14_68.2.1 26 27 ∧ zq_at zy_setLayer_14_68.2.1 27 21 ∧ zq_at zy_setLayer_14_68.2.1 28 5 ∧ zq_at zy_setLayer_14_68.2.1 29 79 ∧ zq_at zy_setLayer_14_68.2.1 30 42 ∧ zq_at zy_setLayer_14_68.2.1 31 180 ∧ zq_at zy_setLayer_14_68.2.1 32 0 ∧ zq_at zy_setLayer_14_68.2.1 33 121 ∧ zq_at zy_setLayer_14_68.2.1 34 27 ∧ zq_at zy_setLayer_14_68.2.1 35 21 ∧ zq_at zy_setLayer_14_68.2.1 36 6 ∧ zq_at zy_setLayer_14_68.2.1 37 79 ∧ zq_at zy_setLayer_14_68.2.1 38 177 := by decide +kernel
theorem zd_14_68_23 : zz_D zy_setLayer_14_68 23 (.getfield 118) 3 26 := ⟨zq_180 zg_14_68_23.1 zg_14_68_23.2.1 zg_14_68_23.2.2.1 rfl, rfl⟩
theorem zd_14_68_26 : zz_D zy_setLayer_14_68 26 (.iload_n 1) 1 27 := ⟨zq_27 zg_14_68_23.2.2.2.1, rfl⟩
theorem zd_14_68_27 : zz_D zy_setLayer_14_68 27 (.iload 5) 2 29 := ⟨zq_21 zg_14_68_23.2.2.2.2.1 zg_14_68_23.2.2.2.2.2.1, rfl⟩
theorem zd_14_68_29 : zz_D zy_setLayer_14_68 29 (.iastore) 1 30 := ⟨zq_79 zg_14_68_23.2.2.2.2.2.2.1, rfl⟩
theorem zd_14_68_30 : zz_D zy_setLayer_14_68 30 (.aload_n 0) 1 31 := ⟨zq_42 zg_14_68_23.2.2.2.2.2.2.2.1, rfl⟩
theorem zd_14_68_31 : zz_D zy_setLayer_14_68 31 (.getfield 121) 3 34 := ⟨zq_180 zg_14_68_23.2.2.2.2.2.2.2.2.1 zg_14_68_23.2.2.2.2.2.2.2.2.2.1 zg_14_68_23.2.2.2.2.2.2.2.2.2.2.1 rfl, rfl⟩
theorem zd_14_68_34 : zz_D zy_setLayer_14_68 34 (.iload_n 1) 1 35 := ⟨zq_27 zg_14_68_23.2.2.2.2.2.2.2.2.2.2.2.1, rfl⟩
theorem zd_14_68_35 : zz_D zy_setLayer_14_68 35 (.iload 6) 2 37 := ⟨zq_21 zg_14_68_23.2.2.2.2.2.2.2.2.2.2.2.2.1 zg_14_68_23.2.2.2.2.2.2.2.2.2.2.2.2.2.1, rfl⟩
theorem zd_14_68_37 : zz_D zy_setLayer_14_68 37 (.iastore) 1 38 := ⟨zq_79 zg_14_68_23.2.2.2.2.2.2.2.2.2.2.2.2.2.2.1, rfl⟩
theorem zd_14_68_38 : zz_D zy_setLayer_14_68 38 (.return_) 1 39 := ⟨zq_177 zg_14_68_23.2.2.2.2.2.2.2.2.2.2.2.2.2.2.2, rfl⟩
